/-! part 13x: the check of the law and its wrappers, by the kernel -/
set_option maxRecDepth 100000 in
theorem jv_k2l0 : (match jv_bytes jv_T2 439 with | ⟨⟨bl⟩⟩ => ((jv_code jv_T2 439).drop 0).take 130 |>.all (fun q => jv_ochk jv_T2 jv_mf2 jv_sts jv_ob jv_ac ⟨⟨bl⟩⟩ 439 q.1 q.2)) = true := by decide +kernel
set_option maxRecDepth 100000 in
theorem jv_k2l1 : (match jv_bytes jv_T2 439 with | ⟨⟨bl⟩⟩ => ((jv_code jv_T2 439).drop 130).take 130 |>.all (fun q => jv_ochk jv_T2 jv_mf2 jv_sts jv_ob jv_ac ⟨⟨bl⟩⟩ 439 q.1 q.2)) = true := by decide +kernel
set_option maxRecDepth 100000 in
theorem jv_k2l2 : (match jv_bytes jv_T2 439 with | ⟨⟨bl⟩⟩ => ((jv_code jv_T2 439).drop 260).take 130 |>.all (fun q => jv_ochk jv_T2 jv_mf2 jv_sts jv_ob jv_ac ⟨⟨bl⟩⟩ 439 q.1 q.2)) = true := by decide +kernel
set_option maxRecDepth 100000 in
theorem jv_k2l3 : (match jv_bytes jv_T2 439 with | ⟨⟨bl⟩⟩ => ((jv_code jv_T2 439).drop 390).take 130 |>.all (fun q => jv_ochk jv_T2 jv_mf2 jv_sts jv_ob jv_ac ⟨⟨bl⟩⟩ 439 q.1 q.2)) = true := by decide +kernel
set_option maxRecDepth 100000 in
theorem jv_k2l4 : (match jv_bytes jv_T2 439 with | ⟨⟨bl⟩⟩ => ((jv_code jv_T2 439).drop 520).take 130 |>.all (fun q => jv_ochk jv_T2 jv_mf2 jv_sts jv_ob jv_ac ⟨⟨bl⟩⟩ 439 q.1 q.2)) = true := by decide +kernel
set_option maxRecDepth 100000 in
theorem jv_k2l5 : (match jv_bytes jv_T2 439 with | ⟨⟨bl⟩⟩ => ((jv_code jv_T2 439).drop 650).take 130 |>.all (fun q => jv_ochk jv_T2 jv_mf2 jv_sts jv_ob jv_ac ⟨⟨bl⟩⟩ 439 q.1 q.2)) = true := by decide +kernel
set_option maxRecDepth 100000 in
theorem jv_k2l6 : (match jv_bytes jv_T2 439 with | ⟨⟨bl⟩⟩ => ((jv_code jv_T2 439).drop 780).take 130 |>.all (fun q => jv_ochk jv_T2 jv_mf2 jv_sts jv_ob jv_ac ⟨⟨bl⟩⟩ 439 q.1 q.2)) = true := by decide +kernel
set_option maxRecDepth 100000 in
theorem jv_k2l7 : (match jv_bytes jv_T2 439 with | ⟨⟨bl⟩⟩ => ((jv_code jv_T2 439).drop 910).take 11 |>.all (fun q => jv_ochk jv_T2 jv_mf2 jv_sts jv_ob jv_ac ⟨⟨bl⟩⟩ 439 q.1 q.2)) = true := by decide +kernel
set_option maxRecDepth 100000 in
theorem jv_k2w : (List.range' 440 18).all jv_mchk2 = true := by decide +kernel
