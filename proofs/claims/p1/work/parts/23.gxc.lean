set_option maxRecDepth 100000 in
theorem gx_c0 : gx_l0.all (am_chk gx_cl gx_ms lw_tbl "GrammarStreamModel") = true := by decide +kernel
set_option maxRecDepth 100000 in
theorem gx_c1 : gx_l1.all (am_chk gx_cl gx_ms lw_tbl "GrammarStream$TextReader") = true := by decide +kernel
set_option maxRecDepth 100000 in
theorem gx_c2 : gx_l2.all (am_chk gx_cl gx_ms lw_tbl "GrammarStream") = true := by decide +kernel
set_option maxRecDepth 100000 in
theorem gx_c3 : gx_l3.all (am_chk gx_cl gx_ms lw_tbl "GrammarStream$Grammar") = true := by decide +kernel
set_option maxRecDepth 100000 in
theorem gx_c4 : gx_l4.all (am_chk gx_cl gx_ms lw_tbl "GrammarStream$MachineMaker") = true := by decide +kernel
set_option maxRecDepth 100000 in
theorem gx_c5 : gx_l5.all (am_chk gx_cl gx_ms lw_tbl "GrammarStream$Counts") = true := by decide +kernel
set_option maxRecDepth 100000 in
theorem gx_c6 : gx_l6.all (am_chk gx_cl gx_ms lw_tbl "GrammarStream$Parser") = true := by decide +kernel
set_option maxRecDepth 100000 in
theorem gx_c7 : gx_l7.all (am_chk gx_cl gx_ms lw_tbl "GrammarStream$Reading") = true := by decide +kernel
set_option maxRecDepth 100000 in
theorem gx_c8 : gx_l8.all (am_chk gx_cl gx_ms lw_tbl "GrammarStream$Places") = true := by decide +kernel
set_option maxRecDepth 100000 in
theorem gx_c9 : gx_l9.all (am_chk gx_cl gx_ms lw_tbl "GrammarStream$Outline") = true := by decide +kernel
set_option maxRecDepth 100000 in
theorem gx_c10 : gx_l10.all (am_chk gx_cl gx_ms lw_tbl "GrammarStream$Piece") = true := by decide +kernel
set_option maxRecDepth 100000 in
theorem gx_c11 : gx_l11.all (am_chk gx_cl gx_ms lw_tbl "GrammarStream$Names") = true := by decide +kernel
set_option maxRecDepth 100000 in
theorem gx_c12 : gx_l12.all (am_chk gx_cl gx_ms lw_tbl "GrammarStream$Machine") = true := by decide +kernel
set_option maxRecDepth 100000 in
theorem gx_c13 : gx_l13.all (am_chk gx_cl gx_ms lw_tbl "GrammarStreamLaw") = true := by decide +kernel
set_option maxRecDepth 100000 in
theorem gx_k0 : am_chkC lw_tbl (gx_ty 0) "GrammarStream$Counts" gx_T0 5 gx_fp0 = true := by decide +kernel
set_option maxRecDepth 100000 in
theorem gx_k1 : am_chkC lw_tbl (gx_ty 1) "GrammarStream$Grammar" gx_T1 12 gx_fp1 = true := by decide +kernel
set_option maxRecDepth 100000 in
theorem gx_k2 : am_chkC lw_tbl (gx_ty 2) "GrammarStream$Machine" gx_T2 8 gx_fp2 = true := by decide +kernel
set_option maxRecDepth 100000 in
theorem gx_k3 : am_chkC lw_tbl (gx_ty 3) "GrammarStream$MachineMaker" gx_T3 9 gx_fp3 = true := by decide +kernel
set_option maxRecDepth 100000 in
theorem gx_k4 : am_chkC lw_tbl (gx_ty 4) "GrammarStream$Names" gx_T4 3 gx_fp4 = true := by decide +kernel
set_option maxRecDepth 100000 in
theorem gx_k5 : am_chkC lw_tbl (gx_ty 5) "GrammarStream$Outline" gx_T5 9 gx_fp5 = true := by decide +kernel
set_option maxRecDepth 100000 in
theorem gx_k6 : am_chkC lw_tbl (gx_ty 6) "GrammarStream$Parser" gx_T6 14 gx_fp6 = true := by decide +kernel
set_option maxRecDepth 100000 in
theorem gx_k7 : am_chkC lw_tbl (gx_ty 7) "GrammarStream$Piece" gx_T7 3 gx_fp7 = true := by decide +kernel
set_option maxRecDepth 100000 in
theorem gx_k8 : am_chkC lw_tbl (gx_ty 8) "GrammarStream$Places" gx_T8 5 gx_fp8 = true := by decide +kernel
set_option maxRecDepth 100000 in
theorem gx_k9 : am_chkC lw_tbl (gx_ty 9) "GrammarStream$Reading" gx_T9 16 gx_fp9 = true := by decide +kernel
set_option maxRecDepth 100000 in
theorem gx_k10 : am_chkC lw_tbl (gx_ty 10) "GrammarStream$TextReader" gx_T10 11 gx_fp10 = true := by decide +kernel
set_option maxRecDepth 100000 in
theorem gx_k11 : am_chkC lw_tbl (gx_ty 11) "GrammarStream" gx_T11 10 gx_fp11 = true := by decide +kernel
set_option maxRecDepth 100000 in
theorem gx_k12 : am_chkC lw_tbl (gx_ty 12) "GrammarStreamModel" gx_T12 112 gx_fp12 = true := by decide +kernel
