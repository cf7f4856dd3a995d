/-! part 13.06: the check of the tables, by the kernel -/
set_option maxRecDepth 100000 in
theorem jv_k72 : (List.range' 254 2).all (jv_mchk jv_Tb jv_mf jv_sts jv_ob jv_ac) = true := by decide +kernel
set_option maxRecDepth 100000 in
theorem jv_k73 : (List.range' 256 9).all (jv_mchk jv_Tb jv_mf jv_sts jv_ob jv_ac) = true := by decide +kernel
set_option maxRecDepth 100000 in
theorem jv_k74 : (List.range' 265 4).all (jv_mchk jv_Tb jv_mf jv_sts jv_ob jv_ac) = true := by decide +kernel
set_option maxRecDepth 100000 in
theorem jv_k75 : (List.range' 269 2).all (jv_mchk jv_Tb jv_mf jv_sts jv_ob jv_ac) = true := by decide +kernel
set_option maxRecDepth 100000 in
theorem jv_k76 : (List.range' 271 2).all (jv_mchk jv_Tb jv_mf jv_sts jv_ob jv_ac) = true := by decide +kernel
set_option maxRecDepth 100000 in
theorem jv_k77 : (List.range' 273 5).all (jv_mchk jv_Tb jv_mf jv_sts jv_ob jv_ac) = true := by decide +kernel
set_option maxRecDepth 100000 in
theorem jv_k78 : (List.range' 278 6).all (jv_mchk jv_Tb jv_mf jv_sts jv_ob jv_ac) = true := by decide +kernel
set_option maxRecDepth 100000 in
theorem jv_k79 : (List.range' 284 1).all (jv_mchk jv_Tb jv_mf jv_sts jv_ob jv_ac) = true := by decide +kernel
set_option maxRecDepth 100000 in
theorem jv_k80 : (List.range' 285 4).all (jv_mchk jv_Tb jv_mf jv_sts jv_ob jv_ac) = true := by decide +kernel
set_option maxRecDepth 100000 in
theorem jv_k81 : (List.range' 289 1).all (jv_mchk jv_Tb jv_mf jv_sts jv_ob jv_ac) = true := by decide +kernel
set_option maxRecDepth 100000 in
theorem jv_k82 : (List.range' 290 1).all (jv_mchk jv_Tb jv_mf jv_sts jv_ob jv_ac) = true := by decide +kernel
set_option maxRecDepth 100000 in
theorem jv_k83 : (List.range' 291 1).all (jv_mchk jv_Tb jv_mf jv_sts jv_ob jv_ac) = true := by decide +kernel
