/-! part 14: the tables are right -/
theorem jv_Tb_ok : jv_TOk jv_Tb := by
  intro y pc o hf
  have key : ∀ a n, (List.range' a n).all (jv_mchk jv_Tb jv_mf jv_sts jv_ob jv_ac) = true → a ≤ y → y < a + n → jv_OOk jv_Tb y pc o ∧ plainName (jv_name jv_Tb y).cls = true ∧ Cond.code (jv_name jv_Tb y) (jv_bytes jv_Tb y) (jv_mL jv_Tb y) (jv_rt jv_Tb y) ∈ lw_ok := by
    intro a n h h1 h2
    exact jv_mchk_ok (VS := jv_sts) rfl rfl (List.all_eq_true.mp h y (List.mem_range'.mpr ⟨y - a, by omega, by omega⟩)) pc o hf
  by_cases h0 : y < 12
  · exact key 0 12 jv_k0 (by omega) (by omega)
  by_cases h1 : y < 24
  · exact key 12 12 jv_k1 (by omega) (by omega)
  by_cases h2 : y < 36
  · exact key 24 12 jv_k2 (by omega) (by omega)
  by_cases h3 : y < 48
  · exact key 36 12 jv_k3 (by omega) (by omega)
  by_cases h4 : y < 60
  · exact key 48 12 jv_k4 (by omega) (by omega)
  by_cases h5 : y < 72
  · exact key 60 12 jv_k5 (by omega) (by omega)
  by_cases h6 : y < 84
  · exact key 72 12 jv_k6 (by omega) (by omega)
  by_cases h7 : y < 96
  · exact key 84 12 jv_k7 (by omega) (by omega)
  by_cases h8 : y < 108
  · exact key 96 12 jv_k8 (by omega) (by omega)
  by_cases h9 : y < 120
  · exact key 108 12 jv_k9 (by omega) (by omega)
  by_cases h10 : y < 132
  · exact key 120 12 jv_k10 (by omega) (by omega)
  by_cases h11 : y < 144
  · exact key 132 12 jv_k11 (by omega) (by omega)
  by_cases h12 : y < 156
  · exact key 144 12 jv_k12 (by omega) (by omega)
  by_cases h13 : y < 168
  · exact key 156 12 jv_k13 (by omega) (by omega)
  by_cases h14 : y < 180
  · exact key 168 12 jv_k14 (by omega) (by omega)
  by_cases h15 : y < 192
  · exact key 180 12 jv_k15 (by omega) (by omega)
  by_cases h16 : y < 204
  · exact key 192 12 jv_k16 (by omega) (by omega)
  by_cases h17 : y < 216
  · exact key 204 12 jv_k17 (by omega) (by omega)
  by_cases h18 : y < 228
  · exact key 216 12 jv_k18 (by omega) (by omega)
  by_cases h19 : y < 240
  · exact key 228 12 jv_k19 (by omega) (by omega)
  by_cases h20 : y < 252
  · exact key 240 12 jv_k20 (by omega) (by omega)
  by_cases h21 : y < 264
  · exact key 252 12 jv_k21 (by omega) (by omega)
  by_cases h22 : y < 276
  · exact key 264 12 jv_k22 (by omega) (by omega)
  by_cases h23 : y < 288
  · exact key 276 12 jv_k23 (by omega) (by omega)
  by_cases h24 : y < 300
  · exact key 288 12 jv_k24 (by omega) (by omega)
  by_cases h25 : y < 312
  · exact key 300 12 jv_k25 (by omega) (by omega)
  by_cases h26 : y < 324
  · exact key 312 12 jv_k26 (by omega) (by omega)
  by_cases h27 : y < 336
  · exact key 324 12 jv_k27 (by omega) (by omega)
  by_cases h28 : y < 348
  · exact key 336 12 jv_k28 (by omega) (by omega)
  by_cases h29 : y < 360
  · exact key 348 12 jv_k29 (by omega) (by omega)
  by_cases h30 : y < 372
  · exact key 360 12 jv_k30 (by omega) (by omega)
  by_cases h31 : y < 384
  · exact key 372 12 jv_k31 (by omega) (by omega)
  by_cases h32 : y < 396
  · exact key 384 12 jv_k32 (by omega) (by omega)
  by_cases h33 : y < 408
  · exact key 396 12 jv_k33 (by omega) (by omega)
  by_cases h34 : y < 420
  · exact key 408 12 jv_k34 (by omega) (by omega)
  by_cases h35 : y < 422
  · exact key 420 2 jv_k35 (by omega) (by omega)
  · exfalso
    have hl : jv_ms.length ≤ y := Nat.le_trans (by decide +kernel : jv_ms.length ≤ 422) (by omega)
    have : jv_code jv_Tb y = [] := by show (jv_ms.getD y jv_no).2.2.2.2.2 = []; rw [List.getD_eq_default _ _ hl]
    rw [this] at hf
    cases hf
