/-! part 13.1: the check of the tables, by the kernel -/
set_option maxRecDepth 100000 in
theorem jv_k9 : (List.range' 108 12).all (jv_mchk jv_Tb jv_mf jv_sts jv_ob jv_ac) = true := by decide +kernel
set_option maxRecDepth 100000 in
theorem jv_k10 : (List.range' 120 12).all (jv_mchk jv_Tb jv_mf jv_sts jv_ob jv_ac) = true := by decide +kernel
set_option maxRecDepth 100000 in
theorem jv_k11 : (List.range' 132 12).all (jv_mchk jv_Tb jv_mf jv_sts jv_ob jv_ac) = true := by decide +kernel
set_option maxRecDepth 100000 in
theorem jv_k12 : (List.range' 144 12).all (jv_mchk jv_Tb jv_mf jv_sts jv_ob jv_ac) = true := by decide +kernel
set_option maxRecDepth 100000 in
theorem jv_k13 : (List.range' 156 12).all (jv_mchk jv_Tb jv_mf jv_sts jv_ob jv_ac) = true := by decide +kernel
set_option maxRecDepth 100000 in
theorem jv_k14 : (List.range' 168 12).all (jv_mchk jv_Tb jv_mf jv_sts jv_ob jv_ac) = true := by decide +kernel
set_option maxRecDepth 100000 in
theorem jv_k15 : (List.range' 180 12).all (jv_mchk jv_Tb jv_mf jv_sts jv_ob jv_ac) = true := by decide +kernel
set_option maxRecDepth 100000 in
theorem jv_k16 : (List.range' 192 12).all (jv_mchk jv_Tb jv_mf jv_sts jv_ob jv_ac) = true := by decide +kernel
set_option maxRecDepth 100000 in
theorem jv_k17 : (List.range' 204 12).all (jv_mchk jv_Tb jv_mf jv_sts jv_ob jv_ac) = true := by decide +kernel
