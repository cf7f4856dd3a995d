/-! part 13.0: the check of the tables, by the kernel -/
set_option maxRecDepth 100000 in
theorem jv_k0 : (List.range' 0 12).all (jv_mchk jv_Tb jv_mf jv_sts jv_ob jv_ac) = true := by decide +kernel
set_option maxRecDepth 100000 in
theorem jv_k1 : (List.range' 12 12).all (jv_mchk jv_Tb jv_mf jv_sts jv_ob jv_ac) = true := by decide +kernel
set_option maxRecDepth 100000 in
theorem jv_k2 : (List.range' 24 12).all (jv_mchk jv_Tb jv_mf jv_sts jv_ob jv_ac) = true := by decide +kernel
set_option maxRecDepth 100000 in
theorem jv_k3 : (List.range' 36 12).all (jv_mchk jv_Tb jv_mf jv_sts jv_ob jv_ac) = true := by decide +kernel
set_option maxRecDepth 100000 in
theorem jv_k4 : (List.range' 48 12).all (jv_mchk jv_Tb jv_mf jv_sts jv_ob jv_ac) = true := by decide +kernel
set_option maxRecDepth 100000 in
theorem jv_k5 : (List.range' 60 12).all (jv_mchk jv_Tb jv_mf jv_sts jv_ob jv_ac) = true := by decide +kernel
set_option maxRecDepth 100000 in
theorem jv_k6 : (List.range' 72 12).all (jv_mchk jv_Tb jv_mf jv_sts jv_ob jv_ac) = true := by decide +kernel
set_option maxRecDepth 100000 in
theorem jv_k7 : (List.range' 84 12).all (jv_mchk jv_Tb jv_mf jv_sts jv_ob jv_ac) = true := by decide +kernel
set_option maxRecDepth 100000 in
theorem jv_k8 : (List.range' 96 12).all (jv_mchk jv_Tb jv_mf jv_sts jv_ob jv_ac) = true := by decide +kernel
