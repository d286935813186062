set_option maxRecDepth 100000 in
theorem gx_w0 : lw_tbl[124]? = some (Cond.code gx_m0.1 gx_m0.2.1 gx_m0.2.2.1 gx_m0.2.2.2.1) := by rfl
set_option maxRecDepth 100000 in
theorem gx_w1 : lw_tbl[163]? = some (Cond.code gx_m1.1 gx_m1.2.1 gx_m1.2.2.1 gx_m1.2.2.2.1) := by rfl
set_option maxRecDepth 100000 in
theorem gx_w2 : lw_tbl[166]? = some (Cond.code gx_m2.1 gx_m2.2.1 gx_m2.2.2.1 gx_m2.2.2.2.1) := by rfl
set_option maxRecDepth 100000 in
theorem gx_w3 : lw_tbl[170]? = some (Cond.code gx_m3.1 gx_m3.2.1 gx_m3.2.2.1 gx_m3.2.2.2.1) := by rfl
set_option maxRecDepth 100000 in
theorem gx_w4 : lw_tbl[174]? = some (Cond.code gx_m4.1 gx_m4.2.1 gx_m4.2.2.1 gx_m4.2.2.2.1) := by rfl
set_option maxRecDepth 100000 in
theorem gx_w5 : lw_tbl[179]? = some (Cond.code gx_m5.1 gx_m5.2.1 gx_m5.2.2.1 gx_m5.2.2.2.1) := by rfl
set_option maxRecDepth 100000 in
theorem gx_w6 : lw_tbl[185]? = some (Cond.code gx_m6.1 gx_m6.2.1 gx_m6.2.2.1 gx_m6.2.2.2.1) := by rfl
set_option maxRecDepth 100000 in
theorem gx_w7 : lw_tbl[191]? = some (Cond.code gx_m7.1 gx_m7.2.1 gx_m7.2.2.1 gx_m7.2.2.2.1) := by rfl
set_option maxRecDepth 100000 in
theorem gx_w8 : lw_tbl[260]? = some (Cond.code gx_m8.1 gx_m8.2.1 gx_m8.2.2.1 gx_m8.2.2.2.1) := by rfl
set_option maxRecDepth 100000 in
theorem gx_w9 : lw_tbl[286]? = some (Cond.code gx_m9.1 gx_m9.2.1 gx_m9.2.2.1 gx_m9.2.2.2.1) := by rfl
set_option maxRecDepth 100000 in
theorem gx_w10 : lw_tbl[292]? = some (Cond.code gx_m10.1 gx_m10.2.1 gx_m10.2.2.1 gx_m10.2.2.2.1) := by rfl
set_option maxRecDepth 100000 in
theorem gx_w11 : lw_tbl[351]? = some (Cond.code gx_m11.1 gx_m11.2.1 gx_m11.2.2.1 gx_m11.2.2.2.1) := by rfl
set_option maxRecDepth 100000 in
theorem gx_w12 : lw_tbl[385]? = some (Cond.code gx_m12.1 gx_m12.2.1 gx_m12.2.2.1 gx_m12.2.2.2.1) := by rfl
set_option maxRecDepth 100000 in
theorem gx_w13 : lw_tbl[391]? = some (Cond.code gx_m13.1 gx_m13.2.1 gx_m13.2.2.1 gx_m13.2.2.2.1) := by rfl
set_option maxRecDepth 100000 in
theorem gx_w14 : lw_tbl[491]? = some (Cond.code gx_m14.1 gx_m14.2.1 gx_m14.2.2.1 gx_m14.2.2.2.1) := by rfl
set_option maxRecDepth 100000 in
theorem gx_w15 : lw_tbl[495]? = some (Cond.code gx_m15.1 gx_m15.2.1 gx_m15.2.2.1 gx_m15.2.2.2.1) := by rfl
set_option maxRecDepth 100000 in
theorem gx_w16 : lw_tbl[502]? = some (Cond.code gx_m16.1 gx_m16.2.1 gx_m16.2.2.1 gx_m16.2.2.2.1) := by rfl
set_option maxRecDepth 100000 in
theorem gx_w17 : lw_tbl[506]? = some (Cond.code gx_m17.1 gx_m17.2.1 gx_m17.2.2.1 gx_m17.2.2.2.1) := by rfl
set_option maxRecDepth 100000 in
theorem gx_w18 : lw_tbl[509]? = some (Cond.code gx_m18.1 gx_m18.2.1 gx_m18.2.2.1 gx_m18.2.2.2.1) := by rfl
set_option maxRecDepth 100000 in
theorem gx_w19 : lw_tbl[513]? = some (Cond.code gx_m19.1 gx_m19.2.1 gx_m19.2.2.1 gx_m19.2.2.2.1) := by rfl
set_option maxRecDepth 100000 in
theorem gx_w20 : lw_tbl[516]? = some (Cond.code gx_m20.1 gx_m20.2.1 gx_m20.2.2.1 gx_m20.2.2.2.1) := by rfl
set_option maxRecDepth 100000 in
theorem gx_w21 : lw_tbl[520]? = some (Cond.code gx_m21.1 gx_m21.2.1 gx_m21.2.2.1 gx_m21.2.2.2.1) := by rfl
set_option maxRecDepth 100000 in
theorem gx_w22 : lw_tbl[524]? = some (Cond.code gx_m22.1 gx_m22.2.1 gx_m22.2.2.1 gx_m22.2.2.2.1) := by rfl
set_option maxRecDepth 100000 in
theorem gx_w23 : lw_tbl[527]? = some (Cond.code gx_m23.1 gx_m23.2.1 gx_m23.2.2.1 gx_m23.2.2.2.1) := by rfl
set_option maxRecDepth 100000 in
theorem gx_w24 : lw_tbl[531]? = some (Cond.code gx_m24.1 gx_m24.2.1 gx_m24.2.2.1 gx_m24.2.2.2.1) := by rfl
set_option maxRecDepth 100000 in
theorem gx_w25 : lw_tbl[535]? = some (Cond.code gx_m25.1 gx_m25.2.1 gx_m25.2.2.1 gx_m25.2.2.2.1) := by rfl
set_option maxRecDepth 100000 in
theorem gx_w26 : lw_tbl[538]? = some (Cond.code gx_m26.1 gx_m26.2.1 gx_m26.2.2.1 gx_m26.2.2.2.1) := by rfl
set_option maxRecDepth 100000 in
theorem gx_w27 : lw_tbl[542]? = some (Cond.code gx_m27.1 gx_m27.2.1 gx_m27.2.2.1 gx_m27.2.2.2.1) := by rfl
set_option maxRecDepth 100000 in
theorem gx_w28 : lw_tbl[546]? = some (Cond.code gx_m28.1 gx_m28.2.1 gx_m28.2.2.1 gx_m28.2.2.2.1) := by rfl
set_option maxRecDepth 100000 in
theorem gx_w29 : lw_tbl[550]? = some (Cond.code gx_m29.1 gx_m29.2.1 gx_m29.2.2.1 gx_m29.2.2.2.1) := by rfl
set_option maxRecDepth 100000 in
theorem gx_w30 : lw_tbl[554]? = some (Cond.code gx_m30.1 gx_m30.2.1 gx_m30.2.2.1 gx_m30.2.2.2.1) := by rfl
set_option maxRecDepth 100000 in
theorem gx_w31 : lw_tbl[558]? = some (Cond.code gx_m31.1 gx_m31.2.1 gx_m31.2.2.1 gx_m31.2.2.2.1) := by rfl
set_option maxRecDepth 100000 in
theorem gx_w32 : lw_tbl[562]? = some (Cond.code gx_m32.1 gx_m32.2.1 gx_m32.2.2.1 gx_m32.2.2.2.1) := by rfl
set_option maxRecDepth 100000 in
theorem gx_w33 : lw_tbl[567]? = some (Cond.code gx_m33.1 gx_m33.2.1 gx_m33.2.2.1 gx_m33.2.2.2.1) := by rfl
set_option maxRecDepth 100000 in
theorem gx_w34 : lw_tbl[570]? = some (Cond.code gx_m34.1 gx_m34.2.1 gx_m34.2.2.1 gx_m34.2.2.2.1) := by rfl
set_option maxRecDepth 100000 in
theorem gx_w35 : lw_tbl[573]? = some (Cond.code gx_m35.1 gx_m35.2.1 gx_m35.2.2.1 gx_m35.2.2.2.1) := by rfl
set_option maxRecDepth 100000 in
theorem gx_w36 : lw_tbl[577]? = some (Cond.code gx_m36.1 gx_m36.2.1 gx_m36.2.2.1 gx_m36.2.2.2.1) := by rfl
set_option maxRecDepth 100000 in
theorem gx_w37 : lw_tbl[581]? = some (Cond.code gx_m37.1 gx_m37.2.1 gx_m37.2.2.1 gx_m37.2.2.2.1) := by rfl
set_option maxRecDepth 100000 in
theorem gx_w38 : lw_tbl[585]? = some (Cond.code gx_m38.1 gx_m38.2.1 gx_m38.2.2.1 gx_m38.2.2.2.1) := by rfl
set_option maxRecDepth 100000 in
theorem gx_w39 : lw_tbl[589]? = some (Cond.code gx_m39.1 gx_m39.2.1 gx_m39.2.2.1 gx_m39.2.2.2.1) := by rfl
set_option maxRecDepth 100000 in
theorem gx_w40 : lw_tbl[593]? = some (Cond.code gx_m40.1 gx_m40.2.1 gx_m40.2.2.1 gx_m40.2.2.2.1) := by rfl
set_option maxRecDepth 100000 in
theorem gx_w41 : lw_tbl[597]? = some (Cond.code gx_m41.1 gx_m41.2.1 gx_m41.2.2.1 gx_m41.2.2.2.1) := by rfl
set_option maxRecDepth 100000 in
theorem gx_w42 : lw_tbl[600]? = some (Cond.code gx_m42.1 gx_m42.2.1 gx_m42.2.2.1 gx_m42.2.2.2.1) := by rfl
set_option maxRecDepth 100000 in
theorem gx_w43 : lw_tbl[604]? = some (Cond.code gx_m43.1 gx_m43.2.1 gx_m43.2.2.1 gx_m43.2.2.2.1) := by rfl
set_option maxRecDepth 100000 in
theorem gx_w44 : lw_tbl[608]? = some (Cond.code gx_m44.1 gx_m44.2.1 gx_m44.2.2.1 gx_m44.2.2.2.1) := by rfl
set_option maxRecDepth 100000 in
theorem gx_w45 : lw_tbl[612]? = some (Cond.code gx_m45.1 gx_m45.2.1 gx_m45.2.2.1 gx_m45.2.2.2.1) := by rfl
set_option maxRecDepth 100000 in
theorem gx_w46 : lw_tbl[616]? = some (Cond.code gx_m46.1 gx_m46.2.1 gx_m46.2.2.1 gx_m46.2.2.2.1) := by rfl
set_option maxRecDepth 100000 in
theorem gx_w47 : lw_tbl[620]? = some (Cond.code gx_m47.1 gx_m47.2.1 gx_m47.2.2.1 gx_m47.2.2.2.1) := by rfl
set_option maxRecDepth 100000 in
theorem gx_w48 : lw_tbl[624]? = some (Cond.code gx_m48.1 gx_m48.2.1 gx_m48.2.2.1 gx_m48.2.2.2.1) := by rfl
set_option maxRecDepth 100000 in
theorem gx_w49 : lw_tbl[628]? = some (Cond.code gx_m49.1 gx_m49.2.1 gx_m49.2.2.1 gx_m49.2.2.2.1) := by rfl
set_option maxRecDepth 100000 in
theorem gx_w50 : lw_tbl[631]? = some (Cond.code gx_m50.1 gx_m50.2.1 gx_m50.2.2.1 gx_m50.2.2.2.1) := by rfl
set_option maxRecDepth 100000 in
theorem gx_w51 : lw_tbl[635]? = some (Cond.code gx_m51.1 gx_m51.2.1 gx_m51.2.2.1 gx_m51.2.2.2.1) := by rfl
set_option maxRecDepth 100000 in
theorem gx_w52 : lw_tbl[639]? = some (Cond.code gx_m52.1 gx_m52.2.1 gx_m52.2.2.1 gx_m52.2.2.2.1) := by rfl
set_option maxRecDepth 100000 in
theorem gx_w53 : lw_tbl[643]? = some (Cond.code gx_m53.1 gx_m53.2.1 gx_m53.2.2.1 gx_m53.2.2.2.1) := by rfl
set_option maxRecDepth 100000 in
theorem gx_w54 : lw_tbl[647]? = some (Cond.code gx_m54.1 gx_m54.2.1 gx_m54.2.2.1 gx_m54.2.2.2.1) := by rfl
set_option maxRecDepth 100000 in
theorem gx_w55 : lw_tbl[652]? = some (Cond.code gx_m55.1 gx_m55.2.1 gx_m55.2.2.1 gx_m55.2.2.2.1) := by rfl
set_option maxRecDepth 100000 in
theorem gx_w56 : lw_tbl[656]? = some (Cond.code gx_m56.1 gx_m56.2.1 gx_m56.2.2.1 gx_m56.2.2.2.1) := by rfl
set_option maxRecDepth 100000 in
theorem gx_w57 : lw_tbl[660]? = some (Cond.code gx_m57.1 gx_m57.2.1 gx_m57.2.2.1 gx_m57.2.2.2.1) := by rfl
set_option maxRecDepth 100000 in
theorem gx_w58 : lw_tbl[664]? = some (Cond.code gx_m58.1 gx_m58.2.1 gx_m58.2.2.1 gx_m58.2.2.2.1) := by rfl
set_option maxRecDepth 100000 in
theorem gx_w59 : lw_tbl[667]? = some (Cond.code gx_m59.1 gx_m59.2.1 gx_m59.2.2.1 gx_m59.2.2.2.1) := by rfl
set_option maxRecDepth 100000 in
theorem gx_w60 : lw_tbl[671]? = some (Cond.code gx_m60.1 gx_m60.2.1 gx_m60.2.2.1 gx_m60.2.2.2.1) := by rfl
set_option maxRecDepth 100000 in
theorem gx_w61 : lw_tbl[679]? = some (Cond.code gx_m61.1 gx_m61.2.1 gx_m61.2.2.1 gx_m61.2.2.2.1) := by rfl
set_option maxRecDepth 100000 in
theorem gx_w62 : lw_tbl[683]? = some (Cond.code gx_m62.1 gx_m62.2.1 gx_m62.2.2.1 gx_m62.2.2.2.1) := by rfl
set_option maxRecDepth 100000 in
theorem gx_w63 : lw_tbl[687]? = some (Cond.code gx_m63.1 gx_m63.2.1 gx_m63.2.2.1 gx_m63.2.2.2.1) := by rfl
set_option maxRecDepth 100000 in
theorem gx_w64 : lw_tbl[691]? = some (Cond.code gx_m64.1 gx_m64.2.1 gx_m64.2.2.1 gx_m64.2.2.2.1) := by rfl
set_option maxRecDepth 100000 in
theorem gx_w65 : lw_tbl[694]? = some (Cond.code gx_m65.1 gx_m65.2.1 gx_m65.2.2.1 gx_m65.2.2.2.1) := by rfl
set_option maxRecDepth 100000 in
theorem gx_w66 : lw_tbl[699]? = some (Cond.code gx_m66.1 gx_m66.2.1 gx_m66.2.2.1 gx_m66.2.2.2.1) := by rfl
set_option maxRecDepth 100000 in
theorem gx_w67 : lw_tbl[704]? = some (Cond.code gx_m67.1 gx_m67.2.1 gx_m67.2.2.1 gx_m67.2.2.2.1) := by rfl
set_option maxRecDepth 100000 in
theorem gx_w68 : lw_tbl[707]? = some (Cond.code gx_m68.1 gx_m68.2.1 gx_m68.2.2.1 gx_m68.2.2.2.1) := by rfl
set_option maxRecDepth 100000 in
theorem gx_w69 : lw_tbl[711]? = some (Cond.code gx_m69.1 gx_m69.2.1 gx_m69.2.2.1 gx_m69.2.2.2.1) := by rfl
set_option maxRecDepth 100000 in
theorem gx_w70 : lw_tbl[715]? = some (Cond.code gx_m70.1 gx_m70.2.1 gx_m70.2.2.1 gx_m70.2.2.2.1) := by rfl
set_option maxRecDepth 100000 in
theorem gx_w71 : lw_tbl[719]? = some (Cond.code gx_m71.1 gx_m71.2.1 gx_m71.2.2.1 gx_m71.2.2.2.1) := by rfl
set_option maxRecDepth 100000 in
theorem gx_w72 : lw_tbl[724]? = some (Cond.code gx_m72.1 gx_m72.2.1 gx_m72.2.2.1 gx_m72.2.2.2.1) := by rfl
set_option maxRecDepth 100000 in
theorem gx_w73 : lw_tbl[728]? = some (Cond.code gx_m73.1 gx_m73.2.1 gx_m73.2.2.1 gx_m73.2.2.2.1) := by rfl
set_option maxRecDepth 100000 in
theorem gx_w74 : lw_tbl[735]? = some (Cond.code gx_m74.1 gx_m74.2.1 gx_m74.2.2.1 gx_m74.2.2.2.1) := by rfl
set_option maxRecDepth 100000 in
theorem gx_w75 : lw_tbl[741]? = some (Cond.code gx_m75.1 gx_m75.2.1 gx_m75.2.2.1 gx_m75.2.2.2.1) := by rfl
set_option maxRecDepth 100000 in
theorem gx_w76 : lw_tbl[745]? = some (Cond.code gx_m76.1 gx_m76.2.1 gx_m76.2.2.1 gx_m76.2.2.2.1) := by rfl
set_option maxRecDepth 100000 in
theorem gx_w77 : lw_tbl[749]? = some (Cond.code gx_m77.1 gx_m77.2.1 gx_m77.2.2.1 gx_m77.2.2.2.1) := by rfl
set_option maxRecDepth 100000 in
theorem gx_w78 : lw_tbl[753]? = some (Cond.code gx_m78.1 gx_m78.2.1 gx_m78.2.2.1 gx_m78.2.2.2.1) := by rfl
set_option maxRecDepth 100000 in
theorem gx_w79 : lw_tbl[757]? = some (Cond.code gx_m79.1 gx_m79.2.1 gx_m79.2.2.1 gx_m79.2.2.2.1) := by rfl
set_option maxRecDepth 100000 in
theorem gx_w80 : lw_tbl[761]? = some (Cond.code gx_m80.1 gx_m80.2.1 gx_m80.2.2.1 gx_m80.2.2.2.1) := by rfl
set_option maxRecDepth 100000 in
theorem gx_w81 : lw_tbl[765]? = some (Cond.code gx_m81.1 gx_m81.2.1 gx_m81.2.2.1 gx_m81.2.2.2.1) := by rfl
set_option maxRecDepth 100000 in
theorem gx_w82 : lw_tbl[770]? = some (Cond.code gx_m82.1 gx_m82.2.1 gx_m82.2.2.1 gx_m82.2.2.2.1) := by rfl
set_option maxRecDepth 100000 in
theorem gx_w83 : lw_tbl[774]? = some (Cond.code gx_m83.1 gx_m83.2.1 gx_m83.2.2.1 gx_m83.2.2.2.1) := by rfl
set_option maxRecDepth 100000 in
theorem gx_w84 : lw_tbl[778]? = some (Cond.code gx_m84.1 gx_m84.2.1 gx_m84.2.2.1 gx_m84.2.2.2.1) := by rfl
set_option maxRecDepth 100000 in
theorem gx_w85 : lw_tbl[782]? = some (Cond.code gx_m85.1 gx_m85.2.1 gx_m85.2.2.1 gx_m85.2.2.2.1) := by rfl
set_option maxRecDepth 100000 in
theorem gx_w86 : lw_tbl[786]? = some (Cond.code gx_m86.1 gx_m86.2.1 gx_m86.2.2.1 gx_m86.2.2.2.1) := by rfl
set_option maxRecDepth 100000 in
theorem gx_w87 : lw_tbl[790]? = some (Cond.code gx_m87.1 gx_m87.2.1 gx_m87.2.2.1 gx_m87.2.2.2.1) := by rfl
set_option maxRecDepth 100000 in
theorem gx_w88 : lw_tbl[794]? = some (Cond.code gx_m88.1 gx_m88.2.1 gx_m88.2.2.1 gx_m88.2.2.2.1) := by rfl
set_option maxRecDepth 100000 in
theorem gx_w89 : lw_tbl[799]? = some (Cond.code gx_m89.1 gx_m89.2.1 gx_m89.2.2.1 gx_m89.2.2.2.1) := by rfl
set_option maxRecDepth 100000 in
theorem gx_w90 : lw_tbl[805]? = some (Cond.code gx_m90.1 gx_m90.2.1 gx_m90.2.2.1 gx_m90.2.2.2.1) := by rfl
set_option maxRecDepth 100000 in
theorem gx_w91 : lw_tbl[917]? = some (Cond.code gx_m91.1 gx_m91.2.1 gx_m91.2.2.1 gx_m91.2.2.2.1) := by rfl
set_option maxRecDepth 100000 in
theorem gx_w92 : lw_tbl[921]? = some (Cond.code gx_m92.1 gx_m92.2.1 gx_m92.2.2.1 gx_m92.2.2.2.1) := by rfl
set_option maxRecDepth 100000 in
theorem gx_w93 : lw_tbl[925]? = some (Cond.code gx_m93.1 gx_m93.2.1 gx_m93.2.2.1 gx_m93.2.2.2.1) := by rfl
set_option maxRecDepth 100000 in
theorem gx_w94 : lw_tbl[929]? = some (Cond.code gx_m94.1 gx_m94.2.1 gx_m94.2.2.1 gx_m94.2.2.2.1) := by rfl
set_option maxRecDepth 100000 in
theorem gx_w95 : lw_tbl[933]? = some (Cond.code gx_m95.1 gx_m95.2.1 gx_m95.2.2.1 gx_m95.2.2.2.1) := by rfl
set_option maxRecDepth 100000 in
theorem gx_w96 : lw_tbl[937]? = some (Cond.code gx_m96.1 gx_m96.2.1 gx_m96.2.2.1 gx_m96.2.2.2.1) := by rfl
set_option maxRecDepth 100000 in
theorem gx_w97 : lw_tbl[941]? = some (Cond.code gx_m97.1 gx_m97.2.1 gx_m97.2.2.1 gx_m97.2.2.2.1) := by rfl
set_option maxRecDepth 100000 in
theorem gx_w98 : lw_tbl[945]? = some (Cond.code gx_m98.1 gx_m98.2.1 gx_m98.2.2.1 gx_m98.2.2.2.1) := by rfl
set_option maxRecDepth 100000 in
theorem gx_w99 : lw_tbl[949]? = some (Cond.code gx_m99.1 gx_m99.2.1 gx_m99.2.2.1 gx_m99.2.2.2.1) := by rfl
set_option maxRecDepth 100000 in
theorem gx_w100 : lw_tbl[954]? = some (Cond.code gx_m100.1 gx_m100.2.1 gx_m100.2.2.1 gx_m100.2.2.2.1) := by rfl
set_option maxRecDepth 100000 in
theorem gx_w101 : lw_tbl[958]? = some (Cond.code gx_m101.1 gx_m101.2.1 gx_m101.2.2.1 gx_m101.2.2.2.1) := by rfl
set_option maxRecDepth 100000 in
theorem gx_w102 : lw_tbl[963]? = some (Cond.code gx_m102.1 gx_m102.2.1 gx_m102.2.2.1 gx_m102.2.2.2.1) := by rfl
set_option maxRecDepth 100000 in
theorem gx_w103 : lw_tbl[967]? = some (Cond.code gx_m103.1 gx_m103.2.1 gx_m103.2.2.1 gx_m103.2.2.2.1) := by rfl
set_option maxRecDepth 100000 in
theorem gx_w104 : lw_tbl[971]? = some (Cond.code gx_m104.1 gx_m104.2.1 gx_m104.2.2.1 gx_m104.2.2.2.1) := by rfl
set_option maxRecDepth 100000 in
theorem gx_w105 : lw_tbl[975]? = some (Cond.code gx_m105.1 gx_m105.2.1 gx_m105.2.2.1 gx_m105.2.2.2.1) := by rfl
set_option maxRecDepth 100000 in
theorem gx_w106 : lw_tbl[979]? = some (Cond.code gx_m106.1 gx_m106.2.1 gx_m106.2.2.1 gx_m106.2.2.2.1) := by rfl
set_option maxRecDepth 100000 in
theorem gx_w107 : lw_tbl[984]? = some (Cond.code gx_m107.1 gx_m107.2.1 gx_m107.2.2.1 gx_m107.2.2.2.1) := by rfl
set_option maxRecDepth 100000 in
theorem gx_w108 : lw_tbl[988]? = some (Cond.code gx_m108.1 gx_m108.2.1 gx_m108.2.2.1 gx_m108.2.2.2.1) := by rfl
set_option maxRecDepth 100000 in
theorem gx_w109 : lw_tbl[994]? = some (Cond.code gx_m109.1 gx_m109.2.1 gx_m109.2.2.1 gx_m109.2.2.2.1) := by rfl
set_option maxRecDepth 100000 in
theorem gx_w110 : lw_tbl[1015]? = some (Cond.code gx_m110.1 gx_m110.2.1 gx_m110.2.2.1 gx_m110.2.2.2.1) := by rfl
set_option maxRecDepth 100000 in
theorem gx_w111 : lw_tbl[1020]? = some (Cond.code gx_m111.1 gx_m111.2.1 gx_m111.2.2.1 gx_m111.2.2.2.1) := by rfl
set_option maxRecDepth 100000 in
theorem gx_w112 : lw_tbl[1024]? = some (Cond.code gx_m112.1 gx_m112.2.1 gx_m112.2.2.1 gx_m112.2.2.2.1) := by rfl
set_option maxRecDepth 100000 in
theorem gx_w113 : lw_tbl[1027]? = some (Cond.code gx_m113.1 gx_m113.2.1 gx_m113.2.2.1 gx_m113.2.2.2.1) := by rfl
set_option maxRecDepth 100000 in
theorem gx_w114 : lw_tbl[1033]? = some (Cond.code gx_m114.1 gx_m114.2.1 gx_m114.2.2.1 gx_m114.2.2.2.1) := by rfl
set_option maxRecDepth 100000 in
theorem gx_w115 : lw_tbl[1037]? = some (Cond.code gx_m115.1 gx_m115.2.1 gx_m115.2.2.1 gx_m115.2.2.2.1) := by rfl
set_option maxRecDepth 100000 in
theorem gx_w116 : lw_tbl[1041]? = some (Cond.code gx_m116.1 gx_m116.2.1 gx_m116.2.2.1 gx_m116.2.2.2.1) := by rfl
set_option maxRecDepth 100000 in
theorem gx_w117 : lw_tbl[1045]? = some (Cond.code gx_m117.1 gx_m117.2.1 gx_m117.2.2.1 gx_m117.2.2.2.1) := by rfl
set_option maxRecDepth 100000 in
theorem gx_w118 : lw_tbl[1049]? = some (Cond.code gx_m118.1 gx_m118.2.1 gx_m118.2.2.1 gx_m118.2.2.2.1) := by rfl
set_option maxRecDepth 100000 in
theorem gx_w119 : lw_tbl[1053]? = some (Cond.code gx_m119.1 gx_m119.2.1 gx_m119.2.2.1 gx_m119.2.2.2.1) := by rfl
set_option maxRecDepth 100000 in
theorem gx_w120 : lw_tbl[1057]? = some (Cond.code gx_m120.1 gx_m120.2.1 gx_m120.2.2.1 gx_m120.2.2.2.1) := by rfl
set_option maxRecDepth 100000 in
theorem gx_w121 : lw_tbl[1061]? = some (Cond.code gx_m121.1 gx_m121.2.1 gx_m121.2.2.1 gx_m121.2.2.2.1) := by rfl
set_option maxRecDepth 100000 in
theorem gx_w122 : lw_tbl[1065]? = some (Cond.code gx_m122.1 gx_m122.2.1 gx_m122.2.2.1 gx_m122.2.2.2.1) := by rfl
set_option maxRecDepth 100000 in
theorem gx_w123 : lw_tbl[1069]? = some (Cond.code gx_m123.1 gx_m123.2.1 gx_m123.2.2.1 gx_m123.2.2.2.1) := by rfl
set_option maxRecDepth 100000 in
theorem gx_w124 : lw_tbl[1073]? = some (Cond.code gx_m124.1 gx_m124.2.1 gx_m124.2.2.1 gx_m124.2.2.2.1) := by rfl
set_option maxRecDepth 100000 in
theorem gx_w125 : lw_tbl[1077]? = some (Cond.code gx_m125.1 gx_m125.2.1 gx_m125.2.2.1 gx_m125.2.2.2.1) := by rfl
set_option maxRecDepth 100000 in
theorem gx_w126 : lw_tbl[1081]? = some (Cond.code gx_m126.1 gx_m126.2.1 gx_m126.2.2.1 gx_m126.2.2.2.1) := by rfl
set_option maxRecDepth 100000 in
theorem gx_w127 : lw_tbl[1086]? = some (Cond.code gx_m127.1 gx_m127.2.1 gx_m127.2.2.1 gx_m127.2.2.2.1) := by rfl
set_option maxRecDepth 100000 in
theorem gx_w128 : lw_tbl[1091]? = some (Cond.code gx_m128.1 gx_m128.2.1 gx_m128.2.2.1 gx_m128.2.2.2.1) := by rfl
set_option maxRecDepth 100000 in
theorem gx_w129 : lw_tbl[1095]? = some (Cond.code gx_m129.1 gx_m129.2.1 gx_m129.2.2.1 gx_m129.2.2.2.1) := by rfl
set_option maxRecDepth 100000 in
theorem gx_w130 : lw_tbl[1099]? = some (Cond.code gx_m130.1 gx_m130.2.1 gx_m130.2.2.1 gx_m130.2.2.2.1) := by rfl
set_option maxRecDepth 100000 in
theorem gx_w131 : lw_tbl[1103]? = some (Cond.code gx_m131.1 gx_m131.2.1 gx_m131.2.2.1 gx_m131.2.2.2.1) := by rfl
set_option maxRecDepth 100000 in
theorem gx_w132 : lw_tbl[1107]? = some (Cond.code gx_m132.1 gx_m132.2.1 gx_m132.2.2.1 gx_m132.2.2.2.1) := by rfl
set_option maxRecDepth 100000 in
theorem gx_w133 : lw_tbl[1111]? = some (Cond.code gx_m133.1 gx_m133.2.1 gx_m133.2.2.1 gx_m133.2.2.2.1) := by rfl
set_option maxRecDepth 100000 in
theorem gx_w134 : lw_tbl[1115]? = some (Cond.code gx_m134.1 gx_m134.2.1 gx_m134.2.2.1 gx_m134.2.2.2.1) := by rfl
set_option maxRecDepth 100000 in
theorem gx_w135 : lw_tbl[1119]? = some (Cond.code gx_m135.1 gx_m135.2.1 gx_m135.2.2.1 gx_m135.2.2.2.1) := by rfl
set_option maxRecDepth 100000 in
theorem gx_w136 : lw_tbl[1126]? = some (Cond.code gx_m136.1 gx_m136.2.1 gx_m136.2.2.1 gx_m136.2.2.2.1) := by rfl
set_option maxRecDepth 100000 in
theorem gx_w137 : lw_tbl[1469]? = some (Cond.code gx_m137.1 gx_m137.2.1 gx_m137.2.2.1 gx_m137.2.2.2.1) := by rfl
set_option maxRecDepth 100000 in
theorem gx_w138 : lw_tbl[1474]? = some (Cond.code gx_m138.1 gx_m138.2.1 gx_m138.2.2.1 gx_m138.2.2.2.1) := by rfl
set_option maxRecDepth 100000 in
theorem gx_w139 : lw_tbl[1478]? = some (Cond.code gx_m139.1 gx_m139.2.1 gx_m139.2.2.1 gx_m139.2.2.2.1) := by rfl
set_option maxRecDepth 100000 in
theorem gx_w140 : lw_tbl[1482]? = some (Cond.code gx_m140.1 gx_m140.2.1 gx_m140.2.2.1 gx_m140.2.2.2.1) := by rfl
set_option maxRecDepth 100000 in
theorem gx_w141 : lw_tbl[1486]? = some (Cond.code gx_m141.1 gx_m141.2.1 gx_m141.2.2.1 gx_m141.2.2.2.1) := by rfl
set_option maxRecDepth 100000 in
theorem gx_w142 : lw_tbl[1490]? = some (Cond.code gx_m142.1 gx_m142.2.1 gx_m142.2.2.1 gx_m142.2.2.2.1) := by rfl
set_option maxRecDepth 100000 in
theorem gx_w143 : lw_tbl[1494]? = some (Cond.code gx_m143.1 gx_m143.2.1 gx_m143.2.2.1 gx_m143.2.2.2.1) := by rfl
set_option maxRecDepth 100000 in
theorem gx_w144 : lw_tbl[1498]? = some (Cond.code gx_m144.1 gx_m144.2.1 gx_m144.2.2.1 gx_m144.2.2.2.1) := by rfl
set_option maxRecDepth 100000 in
theorem gx_w145 : lw_tbl[1502]? = some (Cond.code gx_m145.1 gx_m145.2.1 gx_m145.2.2.1 gx_m145.2.2.2.1) := by rfl
set_option maxRecDepth 100000 in
theorem gx_w146 : lw_tbl[1506]? = some (Cond.code gx_m146.1 gx_m146.2.1 gx_m146.2.2.1 gx_m146.2.2.2.1) := by rfl
set_option maxRecDepth 100000 in
theorem gx_w147 : lw_tbl[1510]? = some (Cond.code gx_m147.1 gx_m147.2.1 gx_m147.2.2.1 gx_m147.2.2.2.1) := by rfl
set_option maxRecDepth 100000 in
theorem gx_w148 : lw_tbl[1514]? = some (Cond.code gx_m148.1 gx_m148.2.1 gx_m148.2.2.1 gx_m148.2.2.2.1) := by rfl
set_option maxRecDepth 100000 in
theorem gx_w149 : lw_tbl[1518]? = some (Cond.code gx_m149.1 gx_m149.2.1 gx_m149.2.2.1 gx_m149.2.2.2.1) := by rfl
set_option maxRecDepth 100000 in
theorem gx_w150 : lw_tbl[1522]? = some (Cond.code gx_m150.1 gx_m150.2.1 gx_m150.2.2.1 gx_m150.2.2.2.1) := by rfl
set_option maxRecDepth 100000 in
theorem gx_w151 : lw_tbl[1526]? = some (Cond.code gx_m151.1 gx_m151.2.1 gx_m151.2.2.1 gx_m151.2.2.2.1) := by rfl
set_option maxRecDepth 100000 in
theorem gx_w152 : lw_tbl[1530]? = some (Cond.code gx_m152.1 gx_m152.2.1 gx_m152.2.2.1 gx_m152.2.2.2.1) := by rfl
set_option maxRecDepth 100000 in
theorem gx_w153 : lw_tbl[1534]? = some (Cond.code gx_m153.1 gx_m153.2.1 gx_m153.2.2.1 gx_m153.2.2.2.1) := by rfl
set_option maxRecDepth 100000 in
theorem gx_w154 : lw_tbl[1538]? = some (Cond.code gx_m154.1 gx_m154.2.1 gx_m154.2.2.1 gx_m154.2.2.2.1) := by rfl
set_option maxRecDepth 100000 in
theorem gx_w155 : lw_tbl[1542]? = some (Cond.code gx_m155.1 gx_m155.2.1 gx_m155.2.2.1 gx_m155.2.2.2.1) := by rfl
set_option maxRecDepth 100000 in
theorem gx_w156 : lw_tbl[1546]? = some (Cond.code gx_m156.1 gx_m156.2.1 gx_m156.2.2.1 gx_m156.2.2.2.1) := by rfl
set_option maxRecDepth 100000 in
theorem gx_w157 : lw_tbl[1550]? = some (Cond.code gx_m157.1 gx_m157.2.1 gx_m157.2.2.1 gx_m157.2.2.2.1) := by rfl
set_option maxRecDepth 100000 in
theorem gx_w158 : lw_tbl[1554]? = some (Cond.code gx_m158.1 gx_m158.2.1 gx_m158.2.2.1 gx_m158.2.2.2.1) := by rfl
set_option maxRecDepth 100000 in
theorem gx_w159 : lw_tbl[1558]? = some (Cond.code gx_m159.1 gx_m159.2.1 gx_m159.2.2.1 gx_m159.2.2.2.1) := by rfl
set_option maxRecDepth 100000 in
theorem gx_w160 : lw_tbl[1562]? = some (Cond.code gx_m160.1 gx_m160.2.1 gx_m160.2.2.1 gx_m160.2.2.2.1) := by rfl
set_option maxRecDepth 100000 in
theorem gx_w161 : lw_tbl[1566]? = some (Cond.code gx_m161.1 gx_m161.2.1 gx_m161.2.2.1 gx_m161.2.2.2.1) := by rfl
set_option maxRecDepth 100000 in
theorem gx_w162 : lw_tbl[1570]? = some (Cond.code gx_m162.1 gx_m162.2.1 gx_m162.2.2.1 gx_m162.2.2.2.1) := by rfl
set_option maxRecDepth 100000 in
theorem gx_w163 : lw_tbl[1574]? = some (Cond.code gx_m163.1 gx_m163.2.1 gx_m163.2.2.1 gx_m163.2.2.2.1) := by rfl
set_option maxRecDepth 100000 in
theorem gx_w164 : lw_tbl[1578]? = some (Cond.code gx_m164.1 gx_m164.2.1 gx_m164.2.2.1 gx_m164.2.2.2.1) := by rfl
set_option maxRecDepth 100000 in
theorem gx_w165 : lw_tbl[1582]? = some (Cond.code gx_m165.1 gx_m165.2.1 gx_m165.2.2.1 gx_m165.2.2.2.1) := by rfl
set_option maxRecDepth 100000 in
theorem gx_w166 : lw_tbl[1586]? = some (Cond.code gx_m166.1 gx_m166.2.1 gx_m166.2.2.1 gx_m166.2.2.2.1) := by rfl
set_option maxRecDepth 100000 in
theorem gx_w167 : lw_tbl[1590]? = some (Cond.code gx_m167.1 gx_m167.2.1 gx_m167.2.2.1 gx_m167.2.2.2.1) := by rfl
set_option maxRecDepth 100000 in
theorem gx_w168 : lw_tbl[1594]? = some (Cond.code gx_m168.1 gx_m168.2.1 gx_m168.2.2.1 gx_m168.2.2.2.1) := by rfl
set_option maxRecDepth 100000 in
theorem gx_w169 : lw_tbl[1598]? = some (Cond.code gx_m169.1 gx_m169.2.1 gx_m169.2.2.1 gx_m169.2.2.2.1) := by rfl
set_option maxRecDepth 100000 in
theorem gx_w170 : lw_tbl[1602]? = some (Cond.code gx_m170.1 gx_m170.2.1 gx_m170.2.2.1 gx_m170.2.2.2.1) := by rfl
set_option maxRecDepth 100000 in
theorem gx_w171 : lw_tbl[1606]? = some (Cond.code gx_m171.1 gx_m171.2.1 gx_m171.2.2.1 gx_m171.2.2.2.1) := by rfl
set_option maxRecDepth 100000 in
theorem gx_w172 : lw_tbl[1610]? = some (Cond.code gx_m172.1 gx_m172.2.1 gx_m172.2.2.1 gx_m172.2.2.2.1) := by rfl
set_option maxRecDepth 100000 in
theorem gx_w173 : lw_tbl[1614]? = some (Cond.code gx_m173.1 gx_m173.2.1 gx_m173.2.2.1 gx_m173.2.2.2.1) := by rfl
set_option maxRecDepth 100000 in
theorem gx_w174 : lw_tbl[1618]? = some (Cond.code gx_m174.1 gx_m174.2.1 gx_m174.2.2.1 gx_m174.2.2.2.1) := by rfl
set_option maxRecDepth 100000 in
theorem gx_w175 : lw_tbl[1622]? = some (Cond.code gx_m175.1 gx_m175.2.1 gx_m175.2.2.1 gx_m175.2.2.2.1) := by rfl
set_option maxRecDepth 100000 in
theorem gx_w176 : lw_tbl[1626]? = some (Cond.code gx_m176.1 gx_m176.2.1 gx_m176.2.2.1 gx_m176.2.2.2.1) := by rfl
set_option maxRecDepth 100000 in
theorem gx_w177 : lw_tbl[1630]? = some (Cond.code gx_m177.1 gx_m177.2.1 gx_m177.2.2.1 gx_m177.2.2.2.1) := by rfl
set_option maxRecDepth 100000 in
theorem gx_w178 : lw_tbl[1634]? = some (Cond.code gx_m178.1 gx_m178.2.1 gx_m178.2.2.1 gx_m178.2.2.2.1) := by rfl
set_option maxRecDepth 100000 in
theorem gx_w179 : lw_tbl[1638]? = some (Cond.code gx_m179.1 gx_m179.2.1 gx_m179.2.2.1 gx_m179.2.2.2.1) := by rfl
set_option maxRecDepth 100000 in
theorem gx_w180 : lw_tbl[1642]? = some (Cond.code gx_m180.1 gx_m180.2.1 gx_m180.2.2.1 gx_m180.2.2.2.1) := by rfl
set_option maxRecDepth 100000 in
theorem gx_w181 : lw_tbl[1646]? = some (Cond.code gx_m181.1 gx_m181.2.1 gx_m181.2.2.1 gx_m181.2.2.2.1) := by rfl
set_option maxRecDepth 100000 in
theorem gx_w182 : lw_tbl[1650]? = some (Cond.code gx_m182.1 gx_m182.2.1 gx_m182.2.2.1 gx_m182.2.2.2.1) := by rfl
set_option maxRecDepth 100000 in
theorem gx_w183 : lw_tbl[1654]? = some (Cond.code gx_m183.1 gx_m183.2.1 gx_m183.2.2.1 gx_m183.2.2.2.1) := by rfl
set_option maxRecDepth 100000 in
theorem gx_w184 : lw_tbl[1658]? = some (Cond.code gx_m184.1 gx_m184.2.1 gx_m184.2.2.1 gx_m184.2.2.2.1) := by rfl
set_option maxRecDepth 100000 in
theorem gx_w185 : lw_tbl[1662]? = some (Cond.code gx_m185.1 gx_m185.2.1 gx_m185.2.2.1 gx_m185.2.2.2.1) := by rfl
set_option maxRecDepth 100000 in
theorem gx_w186 : lw_tbl[1666]? = some (Cond.code gx_m186.1 gx_m186.2.1 gx_m186.2.2.1 gx_m186.2.2.2.1) := by rfl
set_option maxRecDepth 100000 in
theorem gx_w187 : lw_tbl[1670]? = some (Cond.code gx_m187.1 gx_m187.2.1 gx_m187.2.2.1 gx_m187.2.2.2.1) := by rfl
set_option maxRecDepth 100000 in
theorem gx_w188 : lw_tbl[1674]? = some (Cond.code gx_m188.1 gx_m188.2.1 gx_m188.2.2.1 gx_m188.2.2.2.1) := by rfl
set_option maxRecDepth 100000 in
theorem gx_w189 : lw_tbl[1678]? = some (Cond.code gx_m189.1 gx_m189.2.1 gx_m189.2.2.1 gx_m189.2.2.2.1) := by rfl
set_option maxRecDepth 100000 in
theorem gx_w190 : lw_tbl[1682]? = some (Cond.code gx_m190.1 gx_m190.2.1 gx_m190.2.2.1 gx_m190.2.2.2.1) := by rfl
set_option maxRecDepth 100000 in
theorem gx_w191 : lw_tbl[1686]? = some (Cond.code gx_m191.1 gx_m191.2.1 gx_m191.2.2.1 gx_m191.2.2.2.1) := by rfl
set_option maxRecDepth 100000 in
theorem gx_w192 : lw_tbl[1690]? = some (Cond.code gx_m192.1 gx_m192.2.1 gx_m192.2.2.1 gx_m192.2.2.2.1) := by rfl
set_option maxRecDepth 100000 in
theorem gx_w193 : lw_tbl[1694]? = some (Cond.code gx_m193.1 gx_m193.2.1 gx_m193.2.2.1 gx_m193.2.2.2.1) := by rfl
set_option maxRecDepth 100000 in
theorem gx_w194 : lw_tbl[1698]? = some (Cond.code gx_m194.1 gx_m194.2.1 gx_m194.2.2.1 gx_m194.2.2.2.1) := by rfl
set_option maxRecDepth 100000 in
theorem gx_w195 : lw_tbl[1702]? = some (Cond.code gx_m195.1 gx_m195.2.1 gx_m195.2.2.1 gx_m195.2.2.2.1) := by rfl
set_option maxRecDepth 100000 in
theorem gx_w196 : lw_tbl[1706]? = some (Cond.code gx_m196.1 gx_m196.2.1 gx_m196.2.2.1 gx_m196.2.2.2.1) := by rfl
set_option maxRecDepth 100000 in
theorem gx_w197 : lw_tbl[1711]? = some (Cond.code gx_m197.1 gx_m197.2.1 gx_m197.2.2.1 gx_m197.2.2.2.1) := by rfl
set_option maxRecDepth 100000 in
theorem gx_w198 : lw_tbl[1715]? = some (Cond.code gx_m198.1 gx_m198.2.1 gx_m198.2.2.1 gx_m198.2.2.2.1) := by rfl
set_option maxRecDepth 100000 in
theorem gx_w199 : lw_tbl[1719]? = some (Cond.code gx_m199.1 gx_m199.2.1 gx_m199.2.2.1 gx_m199.2.2.2.1) := by rfl
set_option maxRecDepth 100000 in
theorem gx_w200 : lw_tbl[1723]? = some (Cond.code gx_m200.1 gx_m200.2.1 gx_m200.2.2.1 gx_m200.2.2.2.1) := by rfl
set_option maxRecDepth 100000 in
theorem gx_w201 : lw_tbl[1727]? = some (Cond.code gx_m201.1 gx_m201.2.1 gx_m201.2.2.1 gx_m201.2.2.2.1) := by rfl
set_option maxRecDepth 100000 in
theorem gx_w202 : lw_tbl[1731]? = some (Cond.code gx_m202.1 gx_m202.2.1 gx_m202.2.2.1 gx_m202.2.2.2.1) := by rfl
set_option maxRecDepth 100000 in
theorem gx_w203 : lw_tbl[1735]? = some (Cond.code gx_m203.1 gx_m203.2.1 gx_m203.2.2.1 gx_m203.2.2.2.1) := by rfl
set_option maxRecDepth 100000 in
theorem gx_w204 : lw_tbl[1739]? = some (Cond.code gx_m204.1 gx_m204.2.1 gx_m204.2.2.1 gx_m204.2.2.2.1) := by rfl
set_option maxRecDepth 100000 in
theorem gx_w205 : lw_tbl[1743]? = some (Cond.code gx_m205.1 gx_m205.2.1 gx_m205.2.2.1 gx_m205.2.2.2.1) := by rfl
set_option maxRecDepth 100000 in
theorem gx_w206 : lw_tbl[1747]? = some (Cond.code gx_m206.1 gx_m206.2.1 gx_m206.2.2.1 gx_m206.2.2.2.1) := by rfl
set_option maxRecDepth 100000 in
theorem gx_w207 : lw_tbl[1751]? = some (Cond.code gx_m207.1 gx_m207.2.1 gx_m207.2.2.1 gx_m207.2.2.2.1) := by rfl
set_option maxRecDepth 100000 in
theorem gx_w208 : lw_tbl[1755]? = some (Cond.code gx_m208.1 gx_m208.2.1 gx_m208.2.2.1 gx_m208.2.2.2.1) := by rfl
set_option maxHeartbeats 4000000 in
set_option maxRecDepth 100000 in
theorem gx_wm : ∀ M ∈ gx_ms, Cond.code M.1 M.2.1 M.2.2.1 M.2.2.2.1 ∈ lw_tbl := List.forall_mem_cons.mpr ⟨List.mem_of_getElem? gx_w0, List.forall_mem_cons.mpr ⟨List.mem_of_getElem? gx_w1, List.forall_mem_cons.mpr ⟨List.mem_of_getElem? gx_w2, List.forall_mem_cons.mpr ⟨List.mem_of_getElem? gx_w3, List.forall_mem_cons.mpr ⟨List.mem_of_getElem? gx_w4, List.forall_mem_cons.mpr ⟨List.mem_of_getElem? gx_w5, List.forall_mem_cons.mpr ⟨List.mem_of_getElem? gx_w6, List.forall_mem_cons.mpr ⟨List.mem_of_getElem? gx_w7, List.forall_mem_cons.mpr ⟨List.mem_of_getElem? gx_w8, List.forall_mem_cons.mpr ⟨List.mem_of_getElem? gx_w9, List.forall_mem_cons.mpr ⟨List.mem_of_getElem? gx_w10, List.forall_mem_cons.mpr ⟨List.mem_of_getElem? gx_w11, List.forall_mem_cons.mpr ⟨List.mem_of_getElem? gx_w12, List.forall_mem_cons.mpr ⟨List.mem_of_getElem? gx_w13, List.forall_mem_cons.mpr ⟨List.mem_of_getElem? gx_w14, List.forall_mem_cons.mpr ⟨List.mem_of_getElem? gx_w15, List.forall_mem_cons.mpr ⟨List.mem_of_getElem? gx_w16, List.forall_mem_cons.mpr ⟨List.mem_of_getElem? gx_w17, List.forall_mem_cons.mpr ⟨List.mem_of_getElem? gx_w18, List.forall_mem_cons.mpr ⟨List.mem_of_getElem? gx_w19, List.forall_mem_cons.mpr ⟨List.mem_of_getElem? gx_w20, List.forall_mem_cons.mpr ⟨List.mem_of_getElem? gx_w21, List.forall_mem_cons.mpr ⟨List.mem_of_getElem? gx_w22, List.forall_mem_cons.mpr ⟨List.mem_of_getElem? gx_w23, List.forall_mem_cons.mpr ⟨List.mem_of_getElem? gx_w24, List.forall_mem_cons.mpr ⟨List.mem_of_getElem? gx_w25, List.forall_mem_cons.mpr ⟨List.mem_of_getElem? gx_w26, List.forall_mem_cons.mpr ⟨List.mem_of_getElem? gx_w27, List.forall_mem_cons.mpr ⟨List.mem_of_getElem? gx_w28, List.forall_mem_cons.mpr ⟨List.mem_of_getElem? gx_w29, List.forall_mem_cons.mpr ⟨List.mem_of_getElem? gx_w30, List.forall_mem_cons.mpr ⟨List.mem_of_getElem? gx_w31, List.forall_mem_cons.mpr ⟨List.mem_of_getElem? gx_w32, List.forall_mem_cons.mpr ⟨List.mem_of_getElem? gx_w33, List.forall_mem_cons.mpr ⟨List.mem_of_getElem? gx_w34, List.forall_mem_cons.mpr ⟨List.mem_of_getElem? gx_w35, List.forall_mem_cons.mpr ⟨List.mem_of_getElem? gx_w36, List.forall_mem_cons.mpr ⟨List.mem_of_getElem? gx_w37, List.forall_mem_cons.mpr ⟨List.mem_of_getElem? gx_w38, List.forall_mem_cons.mpr ⟨List.mem_of_getElem? gx_w39, List.forall_mem_cons.mpr ⟨List.mem_of_getElem? gx_w40, List.forall_mem_cons.mpr ⟨List.mem_of_getElem? gx_w41, List.forall_mem_cons.mpr ⟨List.mem_of_getElem? gx_w42, List.forall_mem_cons.mpr ⟨List.mem_of_getElem? gx_w43, List.forall_mem_cons.mpr ⟨List.mem_of_getElem? gx_w44, List.forall_mem_cons.mpr ⟨List.mem_of_getElem? gx_w45, List.forall_mem_cons.mpr ⟨List.mem_of_getElem? gx_w46, List.forall_mem_cons.mpr ⟨List.mem_of_getElem? gx_w47, List.forall_mem_cons.mpr ⟨List.mem_of_getElem? gx_w48, List.forall_mem_cons.mpr ⟨List.mem_of_getElem? gx_w49, List.forall_mem_cons.mpr ⟨List.mem_of_getElem? gx_w50, List.forall_mem_cons.mpr ⟨List.mem_of_getElem? gx_w51, List.forall_mem_cons.mpr ⟨List.mem_of_getElem? gx_w52, List.forall_mem_cons.mpr ⟨List.mem_of_getElem? gx_w53, List.forall_mem_cons.mpr ⟨List.mem_of_getElem? gx_w54, List.forall_mem_cons.mpr ⟨List.mem_of_getElem? gx_w55, List.forall_mem_cons.mpr ⟨List.mem_of_getElem? gx_w56, List.forall_mem_cons.mpr ⟨List.mem_of_getElem? gx_w57, List.forall_mem_cons.mpr ⟨List.mem_of_getElem? gx_w58, List.forall_mem_cons.mpr ⟨List.mem_of_getElem? gx_w59, List.forall_mem_cons.mpr ⟨List.mem_of_getElem? gx_w60, List.forall_mem_cons.mpr ⟨List.mem_of_getElem? gx_w61, List.forall_mem_cons.mpr ⟨List.mem_of_getElem? gx_w62, List.forall_mem_cons.mpr ⟨List.mem_of_getElem? gx_w63, List.forall_mem_cons.mpr ⟨List.mem_of_getElem? gx_w64, List.forall_mem_cons.mpr ⟨List.mem_of_getElem? gx_w65, List.forall_mem_cons.mpr ⟨List.mem_of_getElem? gx_w66, List.forall_mem_cons.mpr ⟨List.mem_of_getElem? gx_w67, List.forall_mem_cons.mpr ⟨List.mem_of_getElem? gx_w68, List.forall_mem_cons.mpr ⟨List.mem_of_getElem? gx_w69, List.forall_mem_cons.mpr ⟨List.mem_of_getElem? gx_w70, List.forall_mem_cons.mpr ⟨List.mem_of_getElem? gx_w71, List.forall_mem_cons.mpr ⟨List.mem_of_getElem? gx_w72, List.forall_mem_cons.mpr ⟨List.mem_of_getElem? gx_w73, List.forall_mem_cons.mpr ⟨List.mem_of_getElem? gx_w74, List.forall_mem_cons.mpr ⟨List.mem_of_getElem? gx_w75, List.forall_mem_cons.mpr ⟨List.mem_of_getElem? gx_w76, List.forall_mem_cons.mpr ⟨List.mem_of_getElem? gx_w77, List.forall_mem_cons.mpr ⟨List.mem_of_getElem? gx_w78, List.forall_mem_cons.mpr ⟨List.mem_of_getElem? gx_w79, List.forall_mem_cons.mpr ⟨List.mem_of_getElem? gx_w80, List.forall_mem_cons.mpr ⟨List.mem_of_getElem? gx_w81, List.forall_mem_cons.mpr ⟨List.mem_of_getElem? gx_w82, List.forall_mem_cons.mpr ⟨List.mem_of_getElem? gx_w83, List.forall_mem_cons.mpr ⟨List.mem_of_getElem? gx_w84, List.forall_mem_cons.mpr ⟨List.mem_of_getElem? gx_w85, List.forall_mem_cons.mpr ⟨List.mem_of_getElem? gx_w86, List.forall_mem_cons.mpr ⟨List.mem_of_getElem? gx_w87, List.forall_mem_cons.mpr ⟨List.mem_of_getElem? gx_w88, List.forall_mem_cons.mpr ⟨List.mem_of_getElem? gx_w89, List.forall_mem_cons.mpr ⟨List.mem_of_getElem? gx_w90, List.forall_mem_cons.mpr ⟨List.mem_of_getElem? gx_w91, List.forall_mem_cons.mpr ⟨List.mem_of_getElem? gx_w92, List.forall_mem_cons.mpr ⟨List.mem_of_getElem? gx_w93, List.forall_mem_cons.mpr ⟨List.mem_of_getElem? gx_w94, List.forall_mem_cons.mpr ⟨List.mem_of_getElem? gx_w95, List.forall_mem_cons.mpr ⟨List.mem_of_getElem? gx_w96, List.forall_mem_cons.mpr ⟨List.mem_of_getElem? gx_w97, List.forall_mem_cons.mpr ⟨List.mem_of_getElem? gx_w98, List.forall_mem_cons.mpr ⟨List.mem_of_getElem? gx_w99, List.forall_mem_cons.mpr ⟨List.mem_of_getElem? gx_w100, List.forall_mem_cons.mpr ⟨List.mem_of_getElem? gx_w101, List.forall_mem_cons.mpr ⟨List.mem_of_getElem? gx_w102, List.forall_mem_cons.mpr ⟨List.mem_of_getElem? gx_w103, List.forall_mem_cons.mpr ⟨List.mem_of_getElem? gx_w104, List.forall_mem_cons.mpr ⟨List.mem_of_getElem? gx_w105, List.forall_mem_cons.mpr ⟨List.mem_of_getElem? gx_w106, List.forall_mem_cons.mpr ⟨List.mem_of_getElem? gx_w107, List.forall_mem_cons.mpr ⟨List.mem_of_getElem? gx_w108, List.forall_mem_cons.mpr ⟨List.mem_of_getElem? gx_w109, List.forall_mem_cons.mpr ⟨List.mem_of_getElem? gx_w110, List.forall_mem_cons.mpr ⟨List.mem_of_getElem? gx_w111, List.forall_mem_cons.mpr ⟨List.mem_of_getElem? gx_w112, List.forall_mem_cons.mpr ⟨List.mem_of_getElem? gx_w113, List.forall_mem_cons.mpr ⟨List.mem_of_getElem? gx_w114, List.forall_mem_cons.mpr ⟨List.mem_of_getElem? gx_w115, List.forall_mem_cons.mpr ⟨List.mem_of_getElem? gx_w116, List.forall_mem_cons.mpr ⟨List.mem_of_getElem? gx_w117, List.forall_mem_cons.mpr ⟨List.mem_of_getElem? gx_w118, List.forall_mem_cons.mpr ⟨List.mem_of_getElem? gx_w119, List.forall_mem_cons.mpr ⟨List.mem_of_getElem? gx_w120, List.forall_mem_cons.mpr ⟨List.mem_of_getElem? gx_w121, List.forall_mem_cons.mpr ⟨List.mem_of_getElem? gx_w122, List.forall_mem_cons.mpr ⟨List.mem_of_getElem? gx_w123, List.forall_mem_cons.mpr ⟨List.mem_of_getElem? gx_w124, List.forall_mem_cons.mpr ⟨List.mem_of_getElem? gx_w125, List.forall_mem_cons.mpr ⟨List.mem_of_getElem? gx_w126, List.forall_mem_cons.mpr ⟨List.mem_of_getElem? gx_w127, List.forall_mem_cons.mpr ⟨List.mem_of_getElem? gx_w128, List.forall_mem_cons.mpr ⟨List.mem_of_getElem? gx_w129, List.forall_mem_cons.mpr ⟨List.mem_of_getElem? gx_w130, List.forall_mem_cons.mpr ⟨List.mem_of_getElem? gx_w131, List.forall_mem_cons.mpr ⟨List.mem_of_getElem? gx_w132, List.forall_mem_cons.mpr ⟨List.mem_of_getElem? gx_w133, List.forall_mem_cons.mpr ⟨List.mem_of_getElem? gx_w134, List.forall_mem_cons.mpr ⟨List.mem_of_getElem? gx_w135, List.forall_mem_cons.mpr ⟨List.mem_of_getElem? gx_w136, List.forall_mem_cons.mpr ⟨List.mem_of_getElem? gx_w137, List.forall_mem_cons.mpr ⟨List.mem_of_getElem? gx_w138, List.forall_mem_cons.mpr ⟨List.mem_of_getElem? gx_w139, List.forall_mem_cons.mpr ⟨List.mem_of_getElem? gx_w140, List.forall_mem_cons.mpr ⟨List.mem_of_getElem? gx_w141, List.forall_mem_cons.mpr ⟨List.mem_of_getElem? gx_w142, List.forall_mem_cons.mpr ⟨List.mem_of_getElem? gx_w143, List.forall_mem_cons.mpr ⟨List.mem_of_getElem? gx_w144, List.forall_mem_cons.mpr ⟨List.mem_of_getElem? gx_w145, List.forall_mem_cons.mpr ⟨List.mem_of_getElem? gx_w146, List.forall_mem_cons.mpr ⟨List.mem_of_getElem? gx_w147, List.forall_mem_cons.mpr ⟨List.mem_of_getElem? gx_w148, List.forall_mem_cons.mpr ⟨List.mem_of_getElem? gx_w149, List.forall_mem_cons.mpr ⟨List.mem_of_getElem? gx_w150, List.forall_mem_cons.mpr ⟨List.mem_of_getElem? gx_w151, List.forall_mem_cons.mpr ⟨List.mem_of_getElem? gx_w152, List.forall_mem_cons.mpr ⟨List.mem_of_getElem? gx_w153, List.forall_mem_cons.mpr ⟨List.mem_of_getElem? gx_w154, List.forall_mem_cons.mpr ⟨List.mem_of_getElem? gx_w155, List.forall_mem_cons.mpr ⟨List.mem_of_getElem? gx_w156, List.forall_mem_cons.mpr ⟨List.mem_of_getElem? gx_w157, List.forall_mem_cons.mpr ⟨List.mem_of_getElem? gx_w158, List.forall_mem_cons.mpr ⟨List.mem_of_getElem? gx_w159, List.forall_mem_cons.mpr ⟨List.mem_of_getElem? gx_w160, List.forall_mem_cons.mpr ⟨List.mem_of_getElem? gx_w161, List.forall_mem_cons.mpr ⟨List.mem_of_getElem? gx_w162, List.forall_mem_cons.mpr ⟨List.mem_of_getElem? gx_w163, List.forall_mem_cons.mpr ⟨List.mem_of_getElem? gx_w164, List.forall_mem_cons.mpr ⟨List.mem_of_getElem? gx_w165, List.forall_mem_cons.mpr ⟨List.mem_of_getElem? gx_w166, List.forall_mem_cons.mpr ⟨List.mem_of_getElem? gx_w167, List.forall_mem_cons.mpr ⟨List.mem_of_getElem? gx_w168, List.forall_mem_cons.mpr ⟨List.mem_of_getElem? gx_w169, List.forall_mem_cons.mpr ⟨List.mem_of_getElem? gx_w170, List.forall_mem_cons.mpr ⟨List.mem_of_getElem? gx_w171, List.forall_mem_cons.mpr ⟨List.mem_of_getElem? gx_w172, List.forall_mem_cons.mpr ⟨List.mem_of_getElem? gx_w173, List.forall_mem_cons.mpr ⟨List.mem_of_getElem? gx_w174, List.forall_mem_cons.mpr ⟨List.mem_of_getElem? gx_w175, List.forall_mem_cons.mpr ⟨List.mem_of_getElem? gx_w176, List.forall_mem_cons.mpr ⟨List.mem_of_getElem? gx_w177, List.forall_mem_cons.mpr ⟨List.mem_of_getElem? gx_w178, List.forall_mem_cons.mpr ⟨List.mem_of_getElem? gx_w179, List.forall_mem_cons.mpr ⟨List.mem_of_getElem? gx_w180, List.forall_mem_cons.mpr ⟨List.mem_of_getElem? gx_w181, List.forall_mem_cons.mpr ⟨List.mem_of_getElem? gx_w182, List.forall_mem_cons.mpr ⟨List.mem_of_getElem? gx_w183, List.forall_mem_cons.mpr ⟨List.mem_of_getElem? gx_w184, List.forall_mem_cons.mpr ⟨List.mem_of_getElem? gx_w185, List.forall_mem_cons.mpr ⟨List.mem_of_getElem? gx_w186, List.forall_mem_cons.mpr ⟨List.mem_of_getElem? gx_w187, List.forall_mem_cons.mpr ⟨List.mem_of_getElem? gx_w188, List.forall_mem_cons.mpr ⟨List.mem_of_getElem? gx_w189, List.forall_mem_cons.mpr ⟨List.mem_of_getElem? gx_w190, List.forall_mem_cons.mpr ⟨List.mem_of_getElem? gx_w191, List.forall_mem_cons.mpr ⟨List.mem_of_getElem? gx_w192, List.forall_mem_cons.mpr ⟨List.mem_of_getElem? gx_w193, List.forall_mem_cons.mpr ⟨List.mem_of_getElem? gx_w194, List.forall_mem_cons.mpr ⟨List.mem_of_getElem? gx_w195, List.forall_mem_cons.mpr ⟨List.mem_of_getElem? gx_w196, List.forall_mem_cons.mpr ⟨List.mem_of_getElem? gx_w197, List.forall_mem_cons.mpr ⟨List.mem_of_getElem? gx_w198, List.forall_mem_cons.mpr ⟨List.mem_of_getElem? gx_w199, List.forall_mem_cons.mpr ⟨List.mem_of_getElem? gx_w200, List.forall_mem_cons.mpr ⟨List.mem_of_getElem? gx_w201, List.forall_mem_cons.mpr ⟨List.mem_of_getElem? gx_w202, List.forall_mem_cons.mpr ⟨List.mem_of_getElem? gx_w203, List.forall_mem_cons.mpr ⟨List.mem_of_getElem? gx_w204, List.forall_mem_cons.mpr ⟨List.mem_of_getElem? gx_w205, List.forall_mem_cons.mpr ⟨List.mem_of_getElem? gx_w206, List.forall_mem_cons.mpr ⟨List.mem_of_getElem? gx_w207, List.forall_mem_cons.mpr ⟨List.mem_of_getElem? gx_w208, fun _ h => absurd h List.not_mem_nil⟩⟩⟩⟩⟩⟩⟩⟩⟩⟩⟩⟩⟩⟩⟩⟩⟩⟩⟩⟩⟩⟩⟩⟩⟩⟩⟩⟩⟩⟩⟩⟩⟩⟩⟩⟩⟩⟩⟩⟩⟩⟩⟩⟩⟩⟩⟩⟩⟩⟩⟩⟩⟩⟩⟩⟩⟩⟩⟩⟩⟩⟩⟩⟩⟩⟩⟩⟩⟩⟩⟩⟩⟩⟩⟩⟩⟩⟩⟩⟩⟩⟩⟩⟩⟩⟩⟩⟩⟩⟩⟩⟩⟩⟩⟩⟩⟩⟩⟩⟩⟩⟩⟩⟩⟩⟩⟩⟩⟩⟩⟩⟩⟩⟩⟩⟩⟩⟩⟩⟩⟩⟩⟩⟩⟩⟩⟩⟩⟩⟩⟩⟩⟩⟩⟩⟩⟩⟩⟩⟩⟩⟩⟩⟩⟩⟩⟩⟩⟩⟩⟩⟩⟩⟩⟩⟩⟩⟩⟩⟩⟩⟩⟩⟩⟩⟩⟩⟩⟩⟩⟩⟩⟩⟩⟩⟩⟩⟩⟩⟩⟩⟩⟩⟩⟩⟩⟩⟩⟩⟩⟩⟩⟩⟩⟩⟩⟩⟩⟩⟩⟩⟩⟩⟩⟩⟩⟩⟩⟩
