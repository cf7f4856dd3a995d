/-! part 13.03: the check of the tables, by the kernel -/
set_option maxRecDepth 100000 in
theorem jv_k34 : (List.range' 150 5).all (jv_mchk jv_Tb jv_mf jv_sts jv_ob jv_ac) = true := by decide +kernel
set_option maxRecDepth 100000 in
theorem jv_k35 : (List.range' 155 1).all (jv_mchk jv_Tb jv_mf jv_sts jv_ob jv_ac) = true := by decide +kernel
set_option maxRecDepth 100000 in
theorem jv_k36 : (List.range' 156 3).all (jv_mchk jv_Tb jv_mf jv_sts jv_ob jv_ac) = true := by decide +kernel
set_option maxRecDepth 100000 in
theorem jv_k37 : (List.range' 159 1).all (jv_mchk jv_Tb jv_mf jv_sts jv_ob jv_ac) = true := by decide +kernel
set_option maxRecDepth 100000 in
theorem jv_k38 : (List.range' 160 1).all (jv_mchk jv_Tb jv_mf jv_sts jv_ob jv_ac) = true := by decide +kernel
set_option maxRecDepth 100000 in
theorem jv_k39 : (List.range' 161 4).all (jv_mchk jv_Tb jv_mf jv_sts jv_ob jv_ac) = true := by decide +kernel
set_option maxRecDepth 100000 in
theorem jv_k40 : (List.range' 165 2).all (jv_mchk jv_Tb jv_mf jv_sts jv_ob jv_ac) = true := by decide +kernel
set_option maxRecDepth 100000 in
theorem jv_k41 : (List.range' 167 2).all (jv_mchk jv_Tb jv_mf jv_sts jv_ob jv_ac) = true := by decide +kernel
set_option maxRecDepth 100000 in
theorem jv_k42 : (List.range' 169 3).all (jv_mchk jv_Tb jv_mf jv_sts jv_ob jv_ac) = true := by decide +kernel
set_option maxRecDepth 100000 in
theorem jv_k43 : (List.range' 172 3).all (jv_mchk jv_Tb jv_mf jv_sts jv_ob jv_ac) = true := by decide +kernel
set_option maxRecDepth 100000 in
theorem jv_k44 : (List.range' 175 3).all (jv_mchk jv_Tb jv_mf jv_sts jv_ob jv_ac) = true := by decide +kernel
set_option maxRecDepth 100000 in
theorem jv_k45 : (List.range' 178 4).all (jv_mchk jv_Tb jv_mf jv_sts jv_ob jv_ac) = true := by decide +kernel
