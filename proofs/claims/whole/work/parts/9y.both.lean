/-! tighten of a row, whatever it held -/
def vb_rtt (r : vb_R) : vb_R := (vb_rtight r).2
/-- both sides' sayings that are the same, made tight, are the same again -/
theorem vb_tt_both {v : vb_S} {r : vb_R} (e : vb_toR v = r) (hv : v.ones &&& v.mask = v.ones) (hc : vb_can v = true) : vb_toR (vb_tt v) = (vb_rtight r).2 ∧ (vb_rtight r).1 = false := by
  subst e
  have h := vb_tight_both (v := v) (r := vb_toR v) (fun n => by rw [vb_toS_toR]) hv (vb_dis_of hv)
  have h1 := h.1
  rw [hc] at h1
  refine ⟨?_, ?_⟩
  · unfold vb_tt
    rw [if_pos hc]; exact h.2 hc
  · cases hb : (vb_rtight (vb_toR v)).1
    · rfl
    · rw [hb] at h1; exact absurd h1 (by decide)
/-- with a number among them they can be made tight -/
theorem vb_can_of {v : vb_S} {n : BitVec 64} (hv : v.ones &&& v.mask = v.ones) (h : vb_mem v n) : vb_can v = true := (vb_can_iff hv).mpr ⟨n, h⟩
theorem vb_tt_tight {v : vb_S} {n : BitVec 64} (hv : v.ones &&& v.mask = v.ones) (h : vb_mem v n) : vb_tight (vb_tt v) ∧ ∀ m, vb_mem (vb_tt v) m ↔ vb_mem v m := by
  have hc := vb_can_of hv h
  have hh := vb_ctight_ok hv hc
  unfold vb_tt
  rw [if_pos hc]
  exact ⟨vb_hull_tight hh, vb_hull_mem hh⟩
