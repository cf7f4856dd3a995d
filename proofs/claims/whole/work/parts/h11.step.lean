/-! part h11: one instruction against the checker's states (a hand text: this part is the source) -/
section
variable {M : vf_M} {A : vt_A} {f : vf_F} {i2 : Int} {w : vm_S} {rho : Int → Option Nat} {wn : Nat → BitVec 64} {we wb : Nat → Nat}
/-- what an instruction leaves: of both machines -/
abbrev vs_st (M : vf_M) (f : vf_F) (i2 : Int) (p : Nat) (A : vt_A) (w : vm_S) (rho : Int → Option Nat) (wn : Nat → BitVec 64) (we wb : Nat → Nat) : Prop := ∃ (q : Int) (B : vt_A) (w' : vm_S) (rho' : Int → Option Nat) (wn' : Nat → BitVec 64) (we' wb' : Nat → Nat), (q, B) ∈ (vx_does M f i2 p A).2 ∧ vs_O M w' B ∧ ∀ SE AB S, vs_b SE AB → vs_A SE AB w rho wn we wb A S → ∃ T, vm_step SE AB f i2 p S = some (q, T) ∧ vs_A SE AB w' rho' wn' we' wb' B T
theorem vs_one0 {r : Nat × vt_A} {q : Int} (h : (vx_one r q).1 = 0) : r.1 = 0 ∧ (q, r.2) ∈ (vx_one r q).2 := by
  unfold vx_one at h ⊢
  by_cases c : r.1 ≠ 0
  · rw [if_pos c] at h; exact absurd h c
  · rw [if_neg c]; exact ⟨Classical.not_not.mp c, List.mem_singleton.mpr rfl⟩
theorem vs_up_O {d : Nat} {t : vt_T} (hO : vs_O M w A) : vs_O M w (vt_up A d t) := hO
theorem vm_st1 {SE AB : Int} {p : Nat} {S : vm_S} (h : f.kind = 1) : vm_step SE AB f i2 p S = (vm_load SE AB f S).map fun T => ((p : Int) + 1, T) := (if_neg (by omega)).trans (if_pos h)
theorem vm_st2 {SE AB : Int} {p : Nat} {S : vm_S} (h : f.kind = 2) : vm_step SE AB f i2 p S = (vm_store SE AB f S).map fun T => ((p : Int) + 1, T) := (if_neg (by omega)).trans ((if_neg (by omega)).trans (if_pos h))
theorem vm_st3 {SE AB : Int} {p : Nat} {S : vm_S} (h : f.kind = 3) : vm_step SE AB f i2 p S = (if f.mode = 6 then vm_atomic SE AB f S else vm_store SE AB f S).map fun T => ((p : Int) + 1, T) := (if_neg (by omega)).trans ((if_neg (by omega)).trans ((if_neg (by omega)).trans (if_pos h)))
theorem vm_st4 {SE AB : Int} {p : Nat} {S : vm_S} (h : f.kind = 4 ∨ f.kind = 7) : vm_step SE AB f i2 p S = (vm_arith f S).map fun T => ((p : Int) + 1, T) := (if_neg (by omega)).trans ((if_neg (by omega)).trans ((if_neg (by omega)).trans ((if_neg (by omega)).trans (if_pos h))))
theorem vm_stj {SE AB : Int} {p : Nat} {S : vm_S} (h : f.kind = 5 ∨ f.kind = 6) : vm_step SE AB f i2 p S = (if f.code = 5 then some ((p : Int) + 1 + f.o, S) else if f.code = 6 then some ((p : Int) + 1 + f.i, S) else if f.code = 133 then (vm_call SE AB f.i S).map fun T => ((p : Int) + 1, T) else (vm_jump f p S).map fun q => (q, S)) := (if_neg (by omega)).trans ((if_neg (by omega)).trans ((if_neg (by omega)).trans ((if_neg (by omega)).trans (if_neg (by omega)))))
theorem vs_step {p : Nat} (hO : vs_O M w A) (okA : vt_okA A) (gA : vt_gA A) (hok : vf_ok f) (har : f.kind = 4 ∨ f.kind = 7 → vf_ar f) (hz : f.kind = 1 → f.mode = 4 → f.z = 1 ∨ f.z = 2 ∨ f.z = 4) (hd : f.d < 11) (hs : f.s < 11) (hi : -2147483648 ≤ f.i ∧ f.i ≤ 2147483647) (h1 : f.kind = 0 → f.s ≠ 0 → i2 = 0 ∧ 0 ≤ f.i) (h9 : f.kind = 5 ∨ f.kind = 6 → f.code ≠ 149) (hr : (vx_does M f i2 p A).1 = 0) (hne : ∃ SE AB S, vs_b SE AB ∧ vs_A SE AB w rho wn we wb A S) : vs_st M f i2 p A w rho wn we wb := by
  have k8 : f.kind = 0 ∨ f.kind = 1 ∨ f.kind = 2 ∨ f.kind = 3 ∨ (f.kind = 4 ∨ f.kind = 7) ∨ (f.kind = 5 ∨ f.kind = 6) := by
    have : f.kind < 8 := Nat.mod_lt _ (by decide)
    omega
  rcases k8 with k | k | k | k | k | k
  · have e := vx_do0 (M := M) (i2 := i2) (p := p) (A := A) k
    unfold vs_st
    rw [e] at hr ⊢
    obtain ⟨z, hm⟩ := vs_one0 hr
    have ez : (vx_wide M f i2 A).2.2 = A.2 := by
      unfold vx_wide
      repeat' split
      all_goals rfl
    obtain ⟨n, en, H⟩ := vs_wide (M := M) (A := A) (w := w) (rho := rho) (wn := wn) (we := we) (wb := wb) hd (fun c => ⟨(h1 k c).1, (h1 k c).2, by omega⟩) z
    refine ⟨_, _, w, rho, vs_u wn f.d n, vs_u we f.d en, wb, hm, ?_, fun SE AB S hb hA => ⟨_, if_pos k, H SE AB S hA⟩⟩
    obtain ⟨o1, o2, o3, o4⟩ := hO
    exact ⟨o1, o2, by rw [ez]; exact o3, o4⟩
  · have e := vx_do1 (M := M) (i2 := i2) (p := p) (A := A) k
    unfold vs_st
    rw [e] at hr ⊢
    obtain ⟨z, hm⟩ := vs_one0 hr
    have ez : (vx_load M f A).2.2 = A.2 := by
      unfold vx_load
      dsimp only
      repeat' split
      all_goals rfl
    obtain ⟨n, en, H⟩ := vs_load (rho := rho) (wn := wn) (we := we) (wb := wb) hO hd hs (hz k) z
    refine ⟨_, _, w, rho, vs_u wn f.d n, vs_u we f.d en, wb, hm, ?_, fun SE AB S hb hA => ?_⟩
    · obtain ⟨o1, o2, o3, o4⟩ := hO
      exact ⟨o1, o2, by rw [ez]; exact o3, o4⟩
    · obtain ⟨T, hT, aT⟩ := H SE AB S hb hA
      exact ⟨T, by rw [vm_st1 k, hT]; rfl, aT⟩
  · have e := vx_do2 (M := M) (i2 := i2) (p := p) (A := A) k
    unfold vs_st
    rw [e] at hr ⊢
    obtain ⟨z, hm⟩ := vs_one0 hr
    obtain ⟨w', wn', we', wb', hO', H⟩ := vs_store (rho := rho) (wn := wn) (we := we) (wb := wb) hO okA (Or.inl k) hd hs z
    refine ⟨_, _, w', rho, wn', we', wb', hm, hO', fun SE AB S hb hA => ?_⟩
    obtain ⟨T, hT, aT⟩ := H SE AB S hb hA
    exact ⟨T, by rw [vm_st2 k, hT]; rfl, aT⟩
  · by_cases m : f.mode = 6
    · have e := vx_do3a (M := M) (i2 := i2) (p := p) (A := A) k m
      unfold vs_st
      rw [e] at hr ⊢
      obtain ⟨z, hm⟩ := vs_one0 hr
      obtain ⟨w', wn', we', hO', H⟩ := vs_atomic (rho := rho) (wn := wn) (we := we) (wb := wb) hO hd hs z
      refine ⟨_, _, w', rho, wn', we', wb, hm, hO', fun SE AB S hb hA => ?_⟩
      obtain ⟨T, hT, aT⟩ := H SE AB S hb hA
      exact ⟨T, by rw [vm_st3 k, if_pos m, hT]; rfl, aT⟩
    · have e := vx_do3s (M := M) (i2 := i2) (p := p) (A := A) k m
      unfold vs_st
      rw [e] at hr ⊢
      obtain ⟨z, hm⟩ := vs_one0 hr
      obtain ⟨w', wn', we', wb', hO', H⟩ := vs_store (rho := rho) (wn := wn) (we := we) (wb := wb) hO okA (Or.inr k) hd hs z
      refine ⟨_, _, w', rho, wn', we', wb', hm, hO', fun SE AB S hb hA => ?_⟩
      obtain ⟨T, hT, aT⟩ := H SE AB S hb hA
      exact ⟨T, by rw [vm_st3 k, if_neg m, hT]; rfl, aT⟩
  · have e := vx_do4 (M := M) (i2 := i2) (p := p) (A := A) k
    unfold vs_st
    rw [e] at hr ⊢
    obtain ⟨z, hm⟩ := vs_one0 hr
    have ez : (vx_arith f A).2.2 = A.2 := by
      unfold vx_arith
      dsimp only
      repeat' split
      all_goals rfl
    obtain ⟨n, en, H⟩ := vs_arith (w := w) (rho := rho) (wn := wn) (we := we) (wb := wb) okA hok (har k) k hd hs z
    refine ⟨_, _, w, rho, vs_u wn f.d n, vs_u we f.d en, wb, hm, ?_, fun SE AB S hb hA => ?_⟩
    · obtain ⟨o1, o2, o3, o4⟩ := hO
      exact ⟨o1, o2, by rw [ez]; exact o3, o4⟩
    · obtain ⟨T, hT, aT⟩ := H SE AB S hA
      exact ⟨T, by rw [vm_st4 k, hT]; rfl, aT⟩
  · by_cases c5 : f.code = 5
    · refine ⟨(p : Int) + 1 + f.o, A, w, rho, wn, we, wb, by rw [vx_do5 k c5]; exact List.mem_singleton.mpr rfl, hO, fun SE AB S hb hA => ⟨S, by rw [vm_stj k, if_pos c5], hA⟩⟩
    by_cases c6 : f.code = 6
    · refine ⟨(p : Int) + 1 + f.i, A, w, rho, wn, we, wb, by rw [vx_do6 k c6]; exact List.mem_singleton.mpr rfl, hO, fun SE AB S hb hA => ⟨S, by rw [vm_stj k, if_neg c5, if_pos c6], hA⟩⟩
    by_cases c1 : f.code = 133
    · have e := vx_do133 (M := M) (i2 := i2) (p := p) (A := A) k c1
      unfold vs_st
      rw [e] at hr ⊢
      obtain ⟨z, hm⟩ := vs_one0 hr
      obtain ⟨w', rho', wn', we', hO', H⟩ := vs_call (rho := rho) (wn := wn) (we := we) (wb := wb) hO gA z
      refine ⟨_, _, w', rho', wn', we', wb, hm, hO', fun SE AB S hb hA => ?_⟩
      obtain ⟨T, hT, aT⟩ := H SE AB S hb hA
      exact ⟨T, by rw [vm_stj k, if_neg c5, if_neg c6, if_pos c1, hT]; rfl, aT⟩
    · have c9 := h9 k
      have e := vx_dojj (M := M) (i2 := i2) (p := p) (A := A) k c5 c6 c1 c9
      unfold vs_st
      rw [e] at hr ⊢
      have z : (vx_jump f A).1 = 0 := Classical.byContradiction fun z => by rw [if_pos z] at hr; exact z hr
      rw [if_neg (fun y => y z)]
      obtain ⟨go, B, wn', we', wb', hB, hO', H⟩ := vs_jump (rho := rho) (wn := wn) (we := we) (wb := wb) hO okA gA k hi hd hs z hne
      refine ⟨if go = true then (p : Int) + 1 + f.o else (p : Int) + 1, B, w, rho, wn', we', wb', ?_, hO', fun SE AB S hb hA => ?_⟩
      · show (_, B) ∈ vx_jl f p (vx_jump f A)
        unfold vx_jl
        by_cases g : go = true
        · rw [if_pos g] at hB ⊢
          rw [hB]
          exact List.mem_append.mpr (Or.inr (List.mem_singleton.mpr rfl))
        · rw [if_neg g] at hB ⊢
          rw [hB]
          exact List.mem_append.mpr (Or.inl (List.mem_singleton.mpr rfl))
      · obtain ⟨hj, aT⟩ := H SE AB S hb hA
        exact ⟨S, by rw [vm_stj k, if_neg c5, if_neg c6, if_neg c1, hj p]; rfl, aT⟩
end
