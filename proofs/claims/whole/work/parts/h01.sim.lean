/-! part h01: states of a run against the checker's states: what both machines share (a hand text: this part is the source) -/
/-- where the stack ends and the area begins: of either machine -/
abbrev vs_b (SE AB : Int) : Prop := 1073750016 ≤ SE ∧ SE ≤ 1073750528 ∧ 1073758208 ≤ AB ∧ AB ≤ 1073807360 ∧ SE % 8 = 0 ∧ AB % 8 = 0
/-- entry e of map k: there, and found -/
def vs_ent (w : vm_S) (k : Int) (e : Nat) : Prop := 0 ≤ k ∧ k.toNat < vm_cnt w ∧ w.2 8 k.toNat ≠ 2 ∧ e < w.2 11 k.toNat ∧ (w.2 8 k.toNat = 0 ∨ w.2 7 (4096 * k.toNat + e) = 1)
/-- the number x that a thing t is: n a number that its sayings have, e an entry, rho what calls found -/
def vs_v (SE AB : Int) (w : vm_S) (rho : Int → Option Nat) (t : vt_T) (n : BitVec 64) (e : Nat) (x : BitVec 64) : Prop :=
  (t.sort = 1 → x = n ∧ vb_mem t.val n) ∧ (t.sort = 2 → x = BitVec.ofInt 64 (1073745920 + t.det)) ∧ (t.sort = 3 → x = BitVec.ofInt 64 (SE + t.det)) ∧
  (t.sort = 4 → vb_mem t.val n ∧ x = BitVec.ofInt 64 1073741824 + n) ∧ (t.sort = 5 → x = BitVec.ofInt 64 (1073741824 + vm_size w)) ∧ (t.sort = 6 → x = BitVec.ofInt 64 t.det) ∧
  (t.sort = 7 → vb_mem t.val n ∧ vs_ent w t.det e ∧ x = BitVec.ofInt 64 (AB + vm_at w t.det.toNat e) + n) ∧
  (t.sort = 8 → (rho t.org = none → x = 0) ∧ ∀ e', rho t.org = some e' → vs_ent w t.det e' ∧ x = BitVec.ofInt 64 (AB + vm_at w t.det.toNat e')) ∧ t.sort ≤ 8
/-- the state has the world's packet, context, area, maps and clock -/
def vs_W (w S : vm_S) : Prop := (∀ c, ¬ (1 ≤ c ∧ c ≤ 3) → S.2 c = w.2 c) ∧ S.1 1 = w.1 1
/-- a state of a run is as the checker's state A says; w: the world, wn, we, wb: what both machines share -/
def vs_A (SE AB : Int) (w : vm_S) (rho : Int → Option Nat) (wn : Nat → BitVec 64) (we wb : Nat → Nat) (A : vt_A) (S : vm_S) : Prop :=
  vs_W w S ∧ (∀ r, r < 11 → (A.1 r).sort ≠ 0 → S.2 1 r = 1 ∧ vs_v SE AB w rho (A.1 r) (wn r) (we r) (S.1 0 r).toBitVec) ∧
  (∀ s, s < 64 → (A.1 (11 + s)).sort ≠ 0 → (∀ i, i < 8 → S.2 3 (8 * s + i) = 1) ∧ vs_v SE AB w rho (A.1 (11 + s)) (wn (11 + s)) (we (11 + s)) (BitVec.ofNat 64 (vm_le (S.2 2) (8 * s) 8))) ∧
  (∀ s, s < 64 → (A.1 (11 + s)).sort = 0 → ∀ i, i < 8 → (A.1 (11 + s)).det.toNat.testBit i = true → S.2 3 (8 * s + i) = 1 ∧ S.2 2 (8 * s + i) = wb (8 * s + i)) ∧
  ∀ k, k < 512 → S.2 3 k = 1 → S.2 2 k < 256
/-- what the world is like -/
def vs_O (M : vf_M) (w : vm_S) (A : vt_A) : Prop := vm_sh w ∧ vm_size w ≤ 2048 ∧ A.2 ≤ vm_size w ∧ (∀ k e, M k = some e → k < vm_cnt w ∧ e = (w.2 8 k, w.2 9 k, w.2 10 k)) ∧ (∀ k, k < 2048 → w.2 4 k < 256) ∧ (∀ k, 16 ≤ k → k < 64 → w.2 5 k < 256) ∧ ∀ k, k < 65536 → w.2 6 k < 256
/-- a value is no longer than the checker was told (nothing, of a map that was not there then) -/
theorem vs_val {M : vf_M} {w : vm_S} (h : ∀ k e, M k = some e → k < vm_cnt w ∧ e = (w.2 8 k, w.2 9 k, w.2 10 k)) (k : Int) : M.value k ≤ w.2 10 k.toNat := by
  unfold vf_M.value
  split
  · next e he => rw [(h _ _ he).2]; exact Nat.le_refl _
  · exact Nat.zero_le _
abbrev vs_u {α : Type} (f : Nat → α) (k : Nat) (x : α) : Nat → α := fun j => if j = k then x else f j
theorem vs_led {w S : vm_S} (h : vs_W w S) (q : Nat) : vm_led S q ↔ vm_led w q := by
  have e := h.1
  unfold vm_led vm_cnt vm_at
  rw [e 0 (by omega), e 8 (by omega), e 11 (by omega), e 12 (by omega), e 10 (by omega), e 7 (by omega)]
theorem vs_size {w S : vm_S} (h : vs_W w S) : vm_size S = vm_size w := congrFun (h.1 0 (by omega)) 0
/-! bytes of the four regions -/
theorem vm_a_ins {c lo n : Int} {k : Nat} (hc : -1099511627776 ≤ c ∧ c ≤ 1099511627776) (hk : k < 1099511627776) : vm_ins (vm_a c k).toInt lo n ↔ (lo ≤ c + k ∧ c + k < lo + n) := by rw [vm_a_int hc hk]
theorem vm_get_s {SE AB : Int} (hb : vs_b SE AB) {S : vm_S} {k : Nat} (hk : k < 512) (hw : S.2 3 k = 1) : vm_get SE AB S (vm_a (SE - 512) k) = some (S.2 2 k) := by
  unfold vm_get
  rw [vm_a_int (by omega) (by omega), if_pos (show vm_ins _ _ _ by omega), show (SE - 512 + (k : Int) - (SE - 512)).toNat = k by omega, if_pos hw]
theorem vm_get_p {SE AB : Int} (hb : vs_b SE AB) {S : vm_S} {k : Nat} (hk : k < vm_size S) (hz : vm_size S ≤ 2048) : vm_get SE AB S (vm_a 1073741824 k) = some (S.2 4 k) := by
  unfold vm_get
  rw [vm_a_int (by omega) (by omega), if_neg (show ¬ vm_ins _ _ _ by omega), if_pos (show vm_ins _ _ _ by omega), show ((1073741824 : Int) + (k : Int) - 1073741824).toNat = k by omega]
theorem vm_get_c {SE AB : Int} (hb : vs_b SE AB) {S : vm_S} {k : Nat} (h16 : 16 ≤ k) (hk : k < 64) (hz : vm_size S ≤ 2048) : vm_get SE AB S (vm_a 1073745920 k) = some (S.2 5 k) := by
  unfold vm_get
  rw [vm_a_int (by omega) (by omega), if_neg (show ¬ vm_ins _ _ _ by omega), if_neg (show ¬ vm_ins _ _ _ by omega), if_pos (show vm_ins _ _ _ by omega), if_pos (by omega), show ((1073745920 : Int) + (k : Int) - 1073745920).toNat = k by omega]
theorem vm_get_a {SE AB : Int} (hb : vs_b SE AB) {S : vm_S} {k : Nat} (hk : k < 65536) (hl : vm_led S k) (hz : vm_size S ≤ 2048) : vm_get SE AB S (vm_a AB k) = some (S.2 6 k) := by
  unfold vm_get
  have e : (AB + (k : Int) - AB).toNat = k := by omega
  rw [vm_a_int (by omega) (by omega), if_neg (show ¬ vm_ins _ _ _ by omega), if_neg (show ¬ vm_ins _ _ _ by omega), if_neg (show ¬ vm_ins _ _ _ by omega), e, if_pos ⟨by omega, hl⟩]
theorem vm_put_s {SE AB : Int} (hb : vs_b SE AB) {S : vm_S} {k b : Nat} (hk : k < 512) : vm_put SE AB S (vm_a (SE - 512) k) b = some (S.1, jv_u (jv_u S.2 2 k b) 3 k 1) := by
  unfold vm_put
  rw [vm_a_int (by omega) (by omega), if_pos (show vm_ins _ _ _ by omega), show (SE - 512 + (k : Int) - (SE - 512)).toNat = k by omega]
theorem vm_put_p {SE AB : Int} (hb : vs_b SE AB) {S : vm_S} {k b : Nat} (hk : k < vm_size S) (hz : vm_size S ≤ 2048) : vm_put SE AB S (vm_a 1073741824 k) b = some (S.1, jv_u S.2 4 k b) := by
  unfold vm_put
  rw [vm_a_int (by omega) (by omega), if_neg (show ¬ vm_ins _ _ _ by omega), if_pos (show vm_ins _ _ _ by omega), show ((1073741824 : Int) + (k : Int) - 1073741824).toNat = k by omega]
theorem vm_put_c {SE AB : Int} (hb : vs_b SE AB) {S : vm_S} {k b : Nat} (h16 : 16 ≤ k) (hk : k < 64) (hz : vm_size S ≤ 2048) : vm_put SE AB S (vm_a 1073745920 k) b = some (S.1, jv_u S.2 5 k b) := by
  unfold vm_put
  rw [vm_a_int (by omega) (by omega), if_neg (show ¬ vm_ins _ _ _ by omega), if_neg (show ¬ vm_ins _ _ _ by omega), if_pos (show vm_ins _ _ _ by omega), if_pos (by omega), show ((1073745920 : Int) + (k : Int) - 1073745920).toNat = k by omega]
theorem vm_put_a {SE AB : Int} (hb : vs_b SE AB) {S : vm_S} {k b : Nat} (hk : k < 65536) (hl : vm_led S k) (hz : vm_size S ≤ 2048) : vm_put SE AB S (vm_a AB k) b = some (S.1, jv_u S.2 6 k b) := by
  unfold vm_put
  have e : (AB + (k : Int) - AB).toNat = k := by omega
  rw [vm_a_int (by omega) (by omega), if_neg (show ¬ vm_ins _ _ _ by omega), if_neg (show ¬ vm_ins _ _ _ by omega), if_neg (show ¬ vm_ins _ _ _ by omega), e, if_pos ⟨by omega, hl⟩]
/-- a number, its bytes being there -/
theorem vm_num_of {SE AB : Int} {S : vm_S} {c : Int} {k n : Nat} {B : Nat → Nat} (hc : -1099511627776 ≤ c ∧ c ≤ 1099511627776) (hk : k < 1099511627776) (h1 : ¬ (n = 8 ∧ c + k = 1073745920)) (h2 : ¬ (n = 8 ∧ c + k = 1073745928)) (h : ∀ i, i < n → vm_get SE AB S (vm_a c (k + i)) = some (B (k + i))) : vm_num SE AB S (vm_a c k) n = some (vm_le B k n) := by
  unfold vm_num
  rw [vm_a_int hc hk, if_neg h1, if_neg h2]
  have al : vm_all SE AB S (vm_a c k) n := fun i hi => ⟨B (k + i), by rw [vm_nx_a]; exact h i hi⟩
  rw [if_pos al]
  congr 1
  have e : ∀ i, i < n → vm_row SE AB S (vm_a c k) i = B (k + i) := fun i hi => by
    show (vm_get SE AB S (vm_nx (vm_a c k) i)).getD 0 = _
    rw [vm_nx_a, h i hi]; rfl
  have key : ∀ m j, j + m = n → vm_le (vm_row SE AB S (vm_a c k)) j m = vm_le B (k + j) m := fun m => by
    induction m with
    | zero => intro j _; rfl
    | succ m ih =>
      intro j hj
      show vm_row SE AB S (vm_a c k) j + 256 * vm_le _ (j + 1) m = B (k + j) + 256 * vm_le B (k + j + 1) m
      rw [e j (by omega), ih (j + 1) (by omega)]; rfl
  exact key n 0 (by omega)
/-- bytes that are put into a region: packet (4), context (5), area (6) -/
theorem vm_keep_1 {SE AB : Int} {S : vm_S} {c : Int} {k d : Nat} {f : Nat → Nat} : ∀ n, (∀ i, i < n → ∀ T : vm_S, T.1 = S.1 → (∀ q, q ≠ d → T.2 q = S.2 q) → vm_put SE AB T (vm_a c (k + i)) (f i) = some (T.1, jv_u T.2 d (k + i) (f i))) → vm_keep SE AB S (vm_a c k) f n = some (S.1, vm_wr S.2 d k n f)
  | 0, _ => by rw [vm_wr_0]; rfl
  | n + 1, h => by
    have ih := vm_keep_1 n (fun i hi => h i (by omega))
    show (vm_keep SE AB S (vm_a c k) f n).bind _ = _
    rw [ih]
    show vm_put SE AB (S.1, vm_wr S.2 d k n f) (vm_nx (vm_a c k) n) (f n) = _
    rw [vm_nx_a, h n (by omega) (S.1, vm_wr S.2 d k n f) rfl (fun q hq => by funext i; exact vm_wr_o (fun z => hq z.1)), vm_wr_s]
/-- bytes that are put into the stack -/
theorem vm_keep_2 {SE AB : Int} (hb : vs_b SE AB) {S : vm_S} {k : Nat} {f : Nat → Nat} : ∀ n, k + n ≤ 512 → vm_keep SE AB S (vm_a (SE - 512) k) f n = some (S.1, vm_wr (vm_wr S.2 2 k n f) 3 k n (fun _ => 1))
  | 0, _ => by rw [vm_wr_0, vm_wr_0]; rfl
  | n + 1, h => by
    have ih := vm_keep_2 hb (S := S) (k := k) (f := f) n (by omega)
    show (vm_keep SE AB S (vm_a (SE - 512) k) f n).bind _ = _
    rw [ih]
    show vm_put SE AB (S.1, vm_wr (vm_wr S.2 2 k n f) 3 k n (fun _ => 1)) (vm_nx (vm_a (SE - 512) k) n) (f n) = _
    rw [vm_nx_a, vm_put_s hb (by omega)]
    congr 2
    have e : jv_u (vm_wr (vm_wr S.2 2 k n f) 3 k n (fun _ => 1)) 2 (k + n) (f n) = vm_wr (vm_wr S.2 2 k (n + 1) f) 3 k n (fun _ => 1) := by
      rw [← vm_wr_s S.2 2 k n f]
      funext q i
      by_cases c : q = 2
      · subst c
        rw [vm_wr_o (show ¬ ((2 : Nat) = 3 ∧ _) from fun z => absurd z.1 (by decide))]
        rw [jv_u_at, jv_u_at, vm_wr_o (show ¬ ((2 : Nat) = 3 ∧ _) from fun z => absurd z.1 (by decide))]
      · rw [jv_u_o _ _ _ _ c]
        unfold vm_wr
        by_cases d : q = 3 ∧ k ≤ i ∧ i < k + n
        · rw [if_pos d, if_pos d]
        · rw [if_neg d, if_neg d]
          exact (jv_u_o (fun q i => if q = 2 ∧ k ≤ i ∧ i < k + n then f (i - k) else S.2 q i) (k + n) i (f n) c).symm
    show jv_u (jv_u (vm_wr (vm_wr S.2 2 k n f) 3 k n (fun _ => 1)) 2 (k + n) (f n)) 3 (k + n) 1 = _
    rw [e]
    exact vm_wr_s (vm_wr S.2 2 k (n + 1) f) 3 k n (fun _ => 1)
/-! registers -/
theorem vs_up {SE AB : Int} {w : vm_S} {rho : Int → Option Nat} {wn : Nat → BitVec 64} {we wb : Nat → Nat} {A : vt_A} {S : vm_S} {d : Nat} {t : vt_T} {n : BitVec 64} {e : Nat} {v : Int64} (h : vs_A SE AB w rho wn we wb A S) (hd : d < 11) (hv : vs_v SE AB w rho t n e v.toBitVec) : vs_A SE AB w rho (vs_u wn d n) (vs_u we d e) wb (vt_up A d t) (vm_gv S d v) := by
  obtain ⟨h1, h2, h3, h4, h5⟩ := h
  have eS : ∀ c i, c ≠ 1 → (vm_gv S d v).2 c i = S.2 c i := fun c i z => jv_u_o _ _ _ _ z
  have e2 : (vm_gv S d v).2 2 = S.2 2 := funext fun i => eS 2 i (by decide)
  refine ⟨⟨fun c hc => ?_, ?_⟩, fun r hr hn => ?_, fun s hs hn => ?_, fun s hs hn i hi ht => ?_, fun k hk hw => ?_⟩
  · rw [← h1.1 c hc]; funext i; exact eS c i (by omega)
  · rw [← h1.2]; funext i; exact jv_u_o S.1 d i v (show 1 ≠ 0 by decide)
  · show jv_u S.2 1 d 1 1 r = 1 ∧ vs_v SE AB w rho (if r = d then t else A.1 r) (if r = d then n else wn r) (if r = d then e else we r) (jv_u S.1 0 d v 0 r).toBitVec
    by_cases c : r = d
    · subst c
      rw [if_pos rfl, if_pos rfl, if_pos rfl, jv_u_self, jv_u_self]; exact ⟨rfl, hv⟩
    · have hn : (if r = d then t else A.1 r).sort ≠ 0 := hn
      rw [if_neg c] at hn
      rw [if_neg c, if_neg c, if_neg c, jv_u_j _ _ _ _ c, jv_u_j _ _ _ _ c]; exact h2 r hr hn
  · have c : ¬ (11 + s = d) := by omega
    have hn : (if 11 + s = d then t else A.1 (11 + s)).sort ≠ 0 := hn
    rw [if_neg c] at hn
    show (∀ i, i < 8 → (vm_gv S d v).2 3 (8 * s + i) = 1) ∧ vs_v SE AB w rho (if 11 + s = d then t else A.1 (11 + s)) (if 11 + s = d then n else wn (11 + s)) (if 11 + s = d then e else we (11 + s)) _
    rw [if_neg c, if_neg c, if_neg c, e2]
    exact ⟨fun i hi => (eS 3 _ (by decide)).trans ((h3 s hs hn).1 i hi), (h3 s hs hn).2⟩
  · have c : ¬ (11 + s = d) := by omega
    have hn : (if 11 + s = d then t else A.1 (11 + s)).sort = 0 := hn
    have ht : (if 11 + s = d then t else A.1 (11 + s)).det.toNat.testBit i = true := ht
    rw [if_neg c] at hn ht
    rw [eS 3 _ (by decide), eS 2 _ (by decide)]; exact h4 s hs hn i hi ht
  · rw [eS 2 _ (by decide)]; exact h5 k hk ((eS 3 _ (by decide)).symm.trans hw)
theorem vs_rd {SE AB : Int} {w : vm_S} {rho : Int → Option Nat} {wn : Nat → BitVec 64} {we wb : Nat → Nat} {A : vt_A} {S : vm_S} (h : vs_A SE AB w rho wn we wb A S) {r : Nat} (hr : r < 11) (hn : (A.1 r).sort ≠ 0) : vm_rd S r = some (S.1 0 r) ∧ vs_v SE AB w rho (A.1 r) (wn r) (we r) (S.1 0 r).toBitVec := by
  have z := h.2.1 r hr hn
  refine ⟨?_, z.2⟩
  unfold vm_rd; rw [if_pos z.1]
theorem vs_num {SE AB : Int} {w : vm_S} {rho : Int → Option Nat} {v : vb_S} {x : BitVec 64} {e : Nat} (h : vb_mem v x) : vs_v SE AB w rho (vt_num v) x e x := ⟨fun _ => ⟨rfl, h⟩, fun z => absurd (show (1 : Nat) = 2 from z) (by decide), fun z => absurd (show (1 : Nat) = 3 from z) (by decide), fun z => absurd (show (1 : Nat) = 4 from z) (by decide), fun z => absurd (show (1 : Nat) = 5 from z) (by decide), fun z => absurd (show (1 : Nat) = 6 from z) (by decide), fun z => absurd (show (1 : Nat) = 7 from z) (by decide), fun z => absurd (show (1 : Nat) = 8 from z) (by decide), (show (1 : Nat) ≤ 8 by decide)⟩
