set_option maxRecDepth 100000 in
theorem gx_cM : (List.range gx_ms.length).all (fun j => match gx_ms[j]? with | some M => am_chkM lw_tbl M (gx_mp.getD j (0, 0)) | none => false) = true := by decide +kernel
