/-! part g51: what calls there are (a hand text: this part is the source) -/
theorem vm_call_i {SE AB i : Int} {S T : vm_S} (h : vm_call SE AB i S = some T) : 1 ≤ i ∧ i ≤ 6 := by
  by_cases c : 1 ≤ i ∧ i ≤ 6
  · exact c
  · unfold vm_call at h
    rw [if_neg (by omega), if_neg (by omega)] at h
    obtain ⟨k, _, h⟩ := Option.bind_eq_some_iff.mp h
    rw [if_neg (by omega), if_neg (by omega), if_neg (by omega), if_neg (by omega)] at h
    cases h
