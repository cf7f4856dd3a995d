/-! part 13.2: the check of the tables, by the kernel -/
set_option maxRecDepth 100000 in
theorem jv_k18 : (List.range' 216 12).all (jv_mchk jv_Tb jv_mf jv_sts jv_ob jv_ac) = true := by decide +kernel
set_option maxRecDepth 100000 in
theorem jv_k19 : (List.range' 228 12).all (jv_mchk jv_Tb jv_mf jv_sts jv_ob jv_ac) = true := by decide +kernel
set_option maxRecDepth 100000 in
theorem jv_k20 : (List.range' 240 12).all (jv_mchk jv_Tb jv_mf jv_sts jv_ob jv_ac) = true := by decide +kernel
set_option maxRecDepth 100000 in
theorem jv_k21 : (List.range' 252 12).all (jv_mchk jv_Tb jv_mf jv_sts jv_ob jv_ac) = true := by decide +kernel
set_option maxRecDepth 100000 in
theorem jv_k22 : (List.range' 264 12).all (jv_mchk jv_Tb jv_mf jv_sts jv_ob jv_ac) = true := by decide +kernel
set_option maxRecDepth 100000 in
theorem jv_k23 : (List.range' 276 12).all (jv_mchk jv_Tb jv_mf jv_sts jv_ob jv_ac) = true := by decide +kernel
set_option maxRecDepth 100000 in
theorem jv_k24 : (List.range' 288 12).all (jv_mchk jv_Tb jv_mf jv_sts jv_ob jv_ac) = true := by decide +kernel
set_option maxRecDepth 100000 in
theorem jv_k25 : (List.range' 300 12).all (jv_mchk jv_Tb jv_mf jv_sts jv_ob jv_ac) = true := by decide +kernel
set_option maxRecDepth 100000 in
theorem jv_k26 : (List.range' 312 12).all (jv_mchk jv_Tb jv_mf jv_sts jv_ob jv_ac) = true := by decide +kernel
