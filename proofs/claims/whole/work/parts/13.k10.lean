/-! part 13.10: the check of the tables, by the kernel -/
set_option maxRecDepth 100000 in
theorem jv_k117 : (List.range' 415 8).all (jv_mchk jv_Tb jv_mf jv_sts jv_ob jv_ac) = true := by decide +kernel
set_option maxRecDepth 100000 in
theorem jv_k118 : (List.range' 423 13).all (jv_mchk jv_Tb jv_mf jv_sts jv_ob jv_ac) = true := by decide +kernel
set_option maxRecDepth 100000 in
theorem jv_k119 : (List.range' 436 3).all (jv_mchk jv_Tb jv_mf jv_sts jv_ob jv_ac) = true := by decide +kernel
