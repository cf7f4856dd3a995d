/-! part e17: firstWrong of the class (gen/te17.py) -/
/-- the first wrong place of a program of the class; rest: bytes stand behind -/
def vc_bad (W : Nat → Int64) (len : Nat) (rest : Bool) : Option Nat :=
  if vf_fi (vc_g1 W len) len 0 < len then some (vf_fi (vc_g1 W len) len 0) else if rest = true ∨ len = 0 then some len else if vf_fi (vc_g2 W len) len 0 < len then some (vf_fi (vc_g2 W len) len 0) else none
theorem vc_fw_1 {K : Nat → Option (Nat × Nat)} {I : Nat → Nat → Int32} {L : Nat → Nat → Int64} {R : Nat → Nat → Value} {pr ws len : Nat} {W : Nat → Int64} (hP : vc_P K L R pr ws len W) {rest : Bool} {n sl : Nat} {Q : jv_R → Prop} (contE : ¬ vf_fi (vc_g1 W len) len 0 < len → jv_Wp 90 45 [(0, .ref pr), (1, .int (vr_b rest)), (2, .int (vl_I len)), (3, .int (vl_I len))] [] (jv_H K I L R) n sl Q) (contB : vf_fi (vc_g1 W len) len 0 < len → Q (some (.int (vl_I (vf_fi (vc_g1 W len) len 0))), jv_H K I L R, n, sl)) :
    ∀ (k p : Nat), len ≤ p + k → p ≤ len → vf_fs (vc_c W) p = true → (∀ q, q < p → vc_g1 W len q = true) → jv_Wp 90 8 [(0, .ref pr), (1, .int (vr_b rest)), (2, .int (vl_I len)), (3, .int (vl_I p))] [] (jv_H K I L R) n sl Q := by
  have fin : ∀ p, p ≤ len → (∀ q, q < p → vc_g1 W len q = true) → len ≤ p → jv_Wp 90 45 [(0, .ref pr), (1, .int (vr_b rest)), (2, .int (vl_I len)), (3, .int (vl_I p))] [] (jv_H K I L R) n sl Q := fun p hp ok z => by
    have e : vf_fi (vc_g1 W len) len 0 = len := vf_fi_at len 0 len (by omega) (by omega) (fun q _ b => ok q (by omega)) (Or.inl (by omega))
    have ep : p = len := by omega
    rw [ep]; exact contE (by rw [e]; exact Nat.lt_irrefl len)
  intro k
  induction k with
  | zero =>
    intro p hk hp fs ok
    exact vc_fw_1t hP hp (fin p hp ok) (fun z => absurd z (by omega)) (fun z => absurd z (by omega)) (fun z => absurd z (by omega))
  | succ k ih =>
    intro p hk hp fs ok
    have g1 : vc_bI W len p = true → vc_g1 W len p = true := fun y => by unfold vc_g1; rw [y, Bool.or_true]
    refine vc_fw_1t hP hp (fin p hp ok) (fun pN b => ?_) (fun pN b c => ?_) (fun pN b c => ?_)
    · have e : vf_fi (vc_g1 W len) len 0 = p := vf_fi_at len 0 p (by omega) (by omega) (fun q _ b => ok q (by omega)) (Or.inr (by unfold vc_g1; rw [fs, b]; rfl))
      rw [← e]; exact contB (by rw [e]; exact pN)
    · exact ih (p + 1) (by omega) (by omega) (by rw [vf_fs_s, show decide (vc_c W p = 24) = false from decide_eq_false c, Bool.and_false]; rfl) (fun q hq => by
        by_cases e : q = p
        · rw [e]; exact g1 b
        · exact ok q (by omega))
    · have e1 : vf_fs (vc_c W) (p + 1) = false := by rw [vf_fs_s, show decide (vc_c W p = 24) = true from decide_eq_true c, fs]; rfl
      exact ih (p + 2) (by omega) (by have := vc_24 b c; omega) (by rw [vf_fs_s, e1]; rfl) (fun q hq => by
        by_cases e : q = p
        · rw [e]; exact g1 b
        · by_cases e2 : q = p + 1
          · rw [e2]; unfold vc_g1; rw [e1]; rfl
          · exact ok q (by omega))
theorem vc_fw_2 {K : Nat → Option (Nat × Nat)} {I : Nat → Nat → Int32} {L : Nat → Nat → Int64} {R : Nat → Nat → Value} {pr ws len : Nat} {W : Nat → Int64} (hP : vc_P K L R pr ws len W) {rest : Bool} {n sl : Nat} {Q : jv_R → Prop} (contE : ¬ vf_fi (vc_g2 W len) len 0 < len → Q (some (.int (-1)), jv_H K I L R, n, sl)) (contB : vf_fi (vc_g2 W len) len 0 < len → Q (some (.int (vl_I (vf_fi (vc_g2 W len) len 0))), jv_H K I L R, n, sl)) :
    ∀ (k p : Nat), p + k = len → (∀ q, q < p → vc_g2 W len q = true) → jv_Wp 90 57 [(0, .ref pr), (1, .int (vr_b rest)), (2, .int (vl_I len)), (3, .int (vl_I p))] [] (jv_H K I L R) n sl Q := by
  have fin : ∀ p, p ≤ len → (∀ q, q < p → vc_g2 W len q = true) → len ≤ p → jv_Wp 90 87 [(0, .ref pr), (1, .int (vr_b rest)), (2, .int (vl_I len)), (3, .int (vl_I p))] [] (jv_H K I L R) n sl Q := fun p hp ok z => by
    have e : vf_fi (vc_g2 W len) len 0 = len := vf_fi_at len 0 len (by omega) (by omega) (fun q _ b => ok q (by omega)) (Or.inl (by omega))
    refine jv_Wp.lift (fun _ Kz => jv_Ev.steps jv_i90 1 (pc' := 88) (l' := [(0, .ref pr), (1, .int (vr_b rest)), (2, .int (vl_I len)), (3, .int (vl_I p))]) (st' := [.int (-1 : Int32)]) rfl Kz) ?_
    exact jv_Wp.of (jv_Ev.ret jv_i90 rfl rfl) (contE (by rw [e]; exact Nat.lt_irrefl len))
  intro k
  induction k with
  | zero =>
    intro p hk ok
    exact vc_fw_2t hP (by omega) (fin p (by omega) ok) (fun z => absurd z (by omega)) (fun z => absurd z (by omega))
  | succ k ih =>
    intro p hk ok
    refine vc_fw_2t hP (by omega) (fin p (by omega) ok) (fun pN b => ?_) (fun pN b => ?_)
    · have e : vf_fi (vc_g2 W len) len 0 = p := vf_fi_at len 0 p (by omega) (by omega) (fun q _ b => ok q (by omega)) (Or.inr b)
      rw [← e]; exact contB (by rw [e]; exact pN)
    · exact ih (p + 1) (by omega) (fun q hq => by
        by_cases e : q = p
        · rw [e]; exact b
        · exact ok q (by omega))