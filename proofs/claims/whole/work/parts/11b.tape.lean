def shf (i : Nat) : Int32 := Int32.ofInt (24 - 8 * (i : Int))
def sby (x : Int32) (i : Nat) : Nat := ((x >>> (shf i &&& 31)) &&& nI 255).toBitVec.toNat
theorem and255 (y : Int32) : y &&& nI 255 = nI ((y &&& nI 255).toBitVec.toNat) ∧ (y &&& nI 255).toBitVec.toNat < 256 := by
  constructor
  · apply Int32.toBitVec_inj.mp
    show _ = BitVec.ofNat 32 _
    rw [BitVec.ofNat_toNat]
    simp
  · show (y.toBitVec &&& (nI 255).toBitVec).toNat < 256
    rw [BitVec.toNat_and]
    exact Nat.lt_of_le_of_lt Nat.and_le_right (by decide)
theorem sby_eq (x : Int32) (i : Nat) : (x >>> (shf i &&& 31)) &&& nI 255 = nI (sby x i) := (and255 _).1
theorem sby_lt (x : Int32) (i : Nat) : sby x i < 256 := (and255 _).2
theorem shf_nI : ∀ i : Fin 4, nI (24 - 8 * i.val) = shf i.val := by decide
theorem shf_s : ∀ i : Fin 4, shf i.val + Int32.ofInt (-8) = shf (i.val + 1) := by decide
theorem shf_ge : ∀ i : Fin 4, ¬ shf i.val < 0 := by decide
theorem shf_4 : shf 4 < 0 := by decide
def ssort (b : Nat) : Nat := if 97 ≤ b ∧ b ≤ 122 then 1 else if 48 ≤ b ∧ b ≤ 57 then 2 else if b = 59 then 3 else 4
theorem ssort_1 {b : Nat} : ssort b = 1 ↔ 97 ≤ b ∧ b ≤ 122 := by unfold ssort; repeat' split
                                                                 all_goals simp_all
theorem ssort_2 {b : Nat} : ssort b = 2 ↔ 48 ≤ b ∧ b ≤ 57 := by
  unfold ssort
  split
  · constructor
    · intro h; cases h
    · intro h; omega
  · split
    · simp_all
    · split <;> simp_all
theorem ssort_3 {b : Nat} : ssort b = 3 ↔ b = 59 := by
  unfold ssort
  split
  · constructor
    · intro h; cases h
    · intro h; omega
  · split
    · constructor
      · intro h; cases h
      · intro h; omega
    · split <;> simp_all
theorem ssort_le (b : Nat) : 1 ≤ ssort b ∧ ssort b ≤ 4 := by
  unfold ssort
  repeat' split
  all_goals omega
/-- skipping blanks -/
def sskp (B : Nat → Nat) (n : Nat) : Nat → Nat → Nat
  | 0, k => k
  | f + 1, k => if k < n ∧ B k = 32 then sskp B n f (k + 1) else k
/-- the end of a run of bytes of one sort -/
def sre (B : Nat → Nat) (n q : Nat) : Nat → Nat → Nat
  | 0, k => k
  | f + 1, k => if k < n ∧ ssort (B k) = q then sre B n q f (k + 1) else k
def scd (g : Nat → Nat) : Nat → Nat
  | 0 => 0
  | k + 1 => scd g k * 32 + (g k &&& 31)
def svl (g : Nat → Nat) : Nat → Nat
  | 0 => 0
  | k + 1 => svl g k * 10 + (g k - 48)
def sE (B : Nat → Nat) (n q s : Nat) : Nat := if q = 1 ∨ q = 2 then sre B n q (n - s) s else if q = 3 then s + 1 else s
def smo (q : Nat) : Nat := if q = 1 then 8 else if q = 2 then 3 else 1
theorem smo_le (q : Nat) : smo q ≤ 8 := by
  unfold smo
  repeat' split
  all_goals omega
def stq (B : Nat → Nat) (n s q : Nat) : Nat × Nat × Nat := (if sE B n q s - s ≤ smo q then q else 4, s, sE B n q s)
/-- the token from k on: its sort (0 the end, 1 a word, 2 a whole, 3 a semicolon, 4 none), where it begins and ends -/
def stok (B : Nat → Nat) (n k : Nat) : Nat × Nat × Nat := stq B n (sskp B n (n - k) k) (if sskp B n (n - k) k < n then ssort (B (sskp B n (n - k) k)) else 0)
theorem sskp_ge (B : Nat → Nat) (n : Nat) : ∀ f k, k + f = n → k ≤ sskp B n f k ∧ sskp B n f k ≤ n := by
  intro f
  induction f with
  | zero => intro k h; exact ⟨Nat.le_refl _, by show k ≤ n; omega⟩
  | succ f ih =>
    intro k h
    rw [sskp]
    split
    · have := ih (k + 1) (by omega); omega
    · omega
theorem sre_ge (B : Nat → Nat) (n q : Nat) : ∀ f k, k + f = n → k ≤ sre B n q f k ∧ sre B n q f k ≤ n ∧ ∀ j, k ≤ j → j < sre B n q f k → ssort (B j) = q := by
  intro f
  induction f with
  | zero => intro k h; exact ⟨Nat.le_refl _, by show k ≤ n; omega, fun j h1 h2 => absurd h2 (by show ¬ j < k; omega)⟩
  | succ f ih =>
    intro k h
    rw [sre]
    split
    · rename_i q1
      obtain ⟨h1, h2, h3⟩ := ih (k + 1) (by omega)
      refine ⟨by omega, h2, fun j h4 h5 => ?_⟩
      by_cases e : j = k
      · subst e; exact q1.2
      · exact h3 j (by omega) h5
    · exact ⟨Nat.le_refl _, by omega, fun j h1 h2 => by omega⟩
theorem sre_t {B : Nat → Nat} {n q k : Nat} (h1 : k < n) (h2 : ssort (B k) = q) : sre B n q (n - k) k = sre B n q (n - (k + 1)) (k + 1) := by
  rw [show n - k = (n - (k + 1)) + 1 by omega, sre, if_pos ⟨h1, h2⟩]
theorem sre_f {B : Nat → Nat} {n q k : Nat} (h : ¬ (k < n ∧ ssort (B k) = q)) : sre B n q (n - k) k = k := by
  cases e : n - k with
  | zero => rfl
  | succ f => rw [sre, if_neg h]
/-- what a token is -/
def sTk (B : Nat → Nat) (n : Nat) (t : Nat × Nat × Nat) : Prop := t.1 ≤ 4 ∧ t.2.1 ≤ t.2.2 ∧ t.2.2 ≤ n ∧ n ≤ 900 ∧ (∀ j, j < n → B j < 256) ∧ (t.1 = 0 → t.2.2 = t.2.1 ∧ t.2.1 = n) ∧ (t.1 = 1 → t.2.1 < t.2.2 ∧ t.2.2 - t.2.1 ≤ 8 ∧ ∀ j, j < t.2.2 - t.2.1 → 97 ≤ B (t.2.1 + j) ∧ B (t.2.1 + j) ≤ 122) ∧ (t.1 = 2 → t.2.1 < t.2.2 ∧ t.2.2 - t.2.1 ≤ 3 ∧ ∀ j, j < t.2.2 - t.2.1 → 48 ≤ B (t.2.1 + j) ∧ B (t.2.1 + j) ≤ 57) ∧ (t.1 = 3 → t.2.2 = t.2.1 + 1)
theorem sE_ge (B : Nat → Nat) (n q s : Nat) (hs : s ≤ n) (hq : q = 3 → s < n) : s ≤ sE B n q s ∧ sE B n q s ≤ n := by
  unfold sE
  split
  · have := sre_ge B n q (n - s) s (by omega); omega
  · split
    · rename_i q3; have := hq q3; omega
    · omega
theorem stok_ok {B : Nat → Nat} {n k : Nat} (hk : k ≤ n) (hn : n ≤ 900) (hB : ∀ j, j < n → B j < 256) : sTk B n (stok B n k) ∧ k ≤ (stok B n k).2.1 := by
  obtain ⟨a1, a2⟩ := sskp_ge B n (n - k) k (by omega)
  unfold stok
  generalize sskp B n (n - k) k = s at a1 a2
  have hq : ∀ q, q = (if s < n then ssort (B s) else 0) → sTk B n (stq B n s q) := by
    intro q hq
    have hq4 : q ≤ 4 := by
      rw [hq]; split
      · exact (ssort_le _).2
      · omega
    have hqn : q ≠ 0 → s < n ∧ q = ssort (B s) := by
      intro h
      by_cases e : s < n
      · rw [if_pos e] at hq; exact ⟨e, hq⟩
      · rw [if_neg e] at hq; exact absurd hq h
    have hq0 : q = 0 → s = n := by
      intro h
      by_cases e : s < n
      · rw [if_pos e] at hq; have := (ssort_le (B s)).1; omega
      · omega
    obtain ⟨e1, e2⟩ := sE_ge B n q s a2 (fun h => (hqn (by omega)).1)
    unfold stq
    refine ⟨?_, e1, e2, hn, hB, ?_, ?_, ?_, ?_⟩
    · show (if _ then _ else _) ≤ 4; split <;> omega
    · intro h
      have h : (if sE B n q s - s ≤ smo q then q else 4) = 0 := h
      split at h
      · exact ⟨by show sE B n q s = s; unfold sE; rw [if_neg (by omega), if_neg (by omega)], hq0 h⟩
      · cases h
    · intro h
      have h : (if sE B n q s - s ≤ smo q then q else 4) = 1 := h
      split at h
      · rename_i hl
        obtain ⟨b1, b2⟩ := hqn (by omega)
        subst h
        have e3 : sE B n 1 s = sre B n 1 (n - s) s := by unfold sE; rw [if_pos (Or.inl rfl)]
        have e4 := sre_t (q := 1) b1 b2.symm
        obtain ⟨c1, c2, c3⟩ := sre_ge B n 1 (n - s) s (by omega)
        obtain ⟨c4, -, -⟩ := sre_ge B n 1 (n - (s + 1)) (s + 1) (by omega)
        refine ⟨by show s < sE B n 1 s; rw [e3, e4]; omega, hl, fun j hj => ?_⟩
        have hj : j < sE B n 1 s - s := hj
        exact ssort_1.mp (c3 (s + j) (by omega) (by rw [e3] at hj; omega))
      · cases h
    · intro h
      have h : (if sE B n q s - s ≤ smo q then q else 4) = 2 := h
      split at h
      · rename_i hl
        obtain ⟨b1, b2⟩ := hqn (by omega)
        subst h
        have e3 : sE B n 2 s = sre B n 2 (n - s) s := by unfold sE; rw [if_pos (Or.inr rfl)]
        have e4 := sre_t (q := 2) b1 b2.symm
        obtain ⟨c1, c2, c3⟩ := sre_ge B n 2 (n - s) s (by omega)
        obtain ⟨c4, -, -⟩ := sre_ge B n 2 (n - (s + 1)) (s + 1) (by omega)
        refine ⟨by show s < sE B n 2 s; rw [e3, e4]; omega, hl, fun j hj => ?_⟩
        have hj : j < sE B n 2 s - s := hj
        exact ssort_2.mp (c3 (s + j) (by omega) (by rw [e3] at hj; omega))
      · cases h
    · intro h
      have h : (if sE B n q s - s ≤ smo q then q else 4) = 3 := h
      split at h
      · subst h; show sE B n 3 s = s + 1; unfold sE; rw [if_neg (by omega), if_pos rfl]
      · cases h
  exact ⟨hq _ rfl, a1⟩
abbrev tpf (len : Nat) (so st va : Int32) (co : Int64) (en nx : Int32) : List Value := [.int (nI len), .int so, .int st, .int va, .long co, .ref 1003, .int en, .int nx]
/-- the class's tape, at a token -/
def TpA (h : ZH) (len n : Nat) (B : Nat → Nat) (t : Nat × Nat × Nat) : Prop := h 1003 = some (zI 900 B) ∧ h 1002 = some (zO 4 (tpf len (nI t.1) (nI t.2.1) (nI (svl (fun i => B (t.2.1 + i)) (t.2.2 - t.2.1))) (lN (scd (fun i => B (t.2.1 + i)) (t.2.2 - t.2.1))) (nI n) (nI t.2.2)))

set_option maxRecDepth 20000 in
set_option maxHeartbeats 1000000 in
theorem tX7_append {h : ZH} {len : Nat} {so sa va en nx x : Int32} {co : Int64} {B : Nat → Nat} (h2 : h 1002 = some (zO 4 (tpf len so sa va co en nx))) (h3 : h 1003 = some (zI 900 B)) (hl : len + 4 ≤ 900) : ZQ0 mX7_append 0 [.ref 1002, .int x] h (fun hh => hh 1002 = some (zO 4 (tpf (len + 4) so sa va co en nx)) ∧ (∃ B2, hh 1003 = some (zI 900 B2) ∧ (∀ j, j < len ∨ len + 4 ≤ j → B2 j = B j) ∧ ∀ i, i < 4 → B2 (len + i) = sby x i) ∧ ∀ a, a ≠ 1002 → a ≠ 1003 → hh a = h a) := by
  intro n
  refine z_enter (lv := [(0, _), (1, _)]) (by decide) (Nat.le_of_ble_eq_true rfl) rfl (fun X C => ?_)
  refine z_bipush (pc := 0) C dX7_append_0 (shf 0) (by decide) ?_
  refine z_istore_n (pc := 2) (lv' := [(2, _), (0, _), (1, _)]) C dX7_append_2 (by decide) rfl ?_
  refine z_sub (lv' := [(0, _), (1, _), (2, _)]) [1, 2, 0] rfl ?_
  have lp3 : ∀ (f : Nat) (i : Nat) (h1 : ZH) (B2 : Nat → Nat), (i + f = 4 ∧ h1 1002 = some (zO 4 (tpf (len + i) so sa va co en nx)) ∧ h1 1003 = some (zI 900 B2) ∧ (∀ j, j < len ∨ len + i ≤ j → B2 j = B j) ∧ (∀ j, j < i → B2 (len + j) = sby x j) ∧ ∀ a, a ≠ 1002 → a ≠ 1003 → h1 a = h a) → Zc X mX7_append (zEnd X (fun r hh n' => r = none ∧ (hh 1002 = some (zO 4 (tpf (len + 4) so sa va co en nx)) ∧ (∃ B2, hh 1003 = some (zI 900 B2) ∧ (∀ j, j < len ∨ len + 4 ≤ j → B2 j = B j) ∧ ∀ i, i < 4 → B2 (len + i) = sby x i) ∧ ∀ a, a ≠ 1002 → a ≠ 1003 → hh a = h a) ∧ n' = n) 0 0) 3 [(0, .ref 1002), (1, .int x), (2, .int (shf i))] [] h1 n 0 0 := by
    intro f
    induction f using Nat.strongRecOn with
    | _ f ih =>
      intro i h1 B2 hk
      obtain ⟨hk, q2, q3, e1, e2, F1⟩ := hk
      refine z_iload_n (pc := 3) C dX7_append_3 2 rfl ?_
      refine z_if_lt (pc := 4) C 49 dX7_append_4 (by decide) (fun hc4 => ?_) (fun hc4 => ?_)
      · skip
        obtain rfl : i = 4 := by
          rcases (show i = 4 ∨ i < 4 by omega) with z | z
          · exact z
          · exact absurd hc4 (shf_ge ⟨i, z⟩)
        refine z_vret (pc := 49) C dX7_append_49 rfl (Nat.zero_le _) (Nat.zero_le _) ⟨rfl, ?_, rfl⟩
        exact ⟨q2, ⟨B2, q3, e1, e2⟩, F1⟩
      · skip
        have e3 : i < 4 := by
          rcases (show i = 4 ∨ i < 4 by omega) with z | z
          · subst z; exact absurd shf_4 hc4
          · exact z
        refine z_aload_n (pc := 7) C dX7_append_7 0 rfl ?_
        refine z_getf (pc := 8) C dX7_append_8 fX7_15 (by assumption) (by first | rfl | assumption) ?_
        refine z_sipush (pc := 11) C dX7_append_11 (nI 900) (by decide) ?_
        first | refine z_icmpgeN (pc := 14) C 49 dX7_append_14 (by decide) (by omega) (by omega) (fun hc14 => ?_) (fun hc14 => ?_) | refine z_icmp_ge (pc := 14) C 49 dX7_append_14 (by decide) (fun hc14 => ?_) (fun hc14 => ?_)
        · omega
        · skip
          refine z_aload_n (pc := 17) C dX7_append_17 0 rfl ?_
          refine z_getf (pc := 18) C dX7_append_18 fX7_9 (by assumption) (by first | rfl | assumption) ?_
          refine z_aload_n (pc := 21) C dX7_append_21 0 rfl ?_
          refine z_getf (pc := 22) C dX7_append_22 fX7_15 (by assumption) (by first | rfl | assumption) ?_
          refine z_iload_n (pc := 25) C dX7_append_25 1 rfl ?_
          refine z_iload_n (pc := 26) C dX7_append_26 2 rfl ?_
          first | refine z_ishrN (pc := 27) C dX7_append_27 (by omega) (by omega) ?_ | refine z_ishr (pc := 27) C dX7_append_27 ?_
          refine z_sipush (pc := 28) C dX7_append_28 (nI 255) (by decide) ?_
          refine z_iand (pc := 31) C dX7_append_31 ?_
          refine z_top (sby_eq x i) ?_
          first | refine z_iastN (pc := 32) C dX7_append_32 (by assumption) (by omega) (by decide) ?_ | refine z_iastI (pc := 32) C dX7_append_32 (by assumption) (by omega) (by decide) ?_
          refine z_aload_n (pc := 33) C dX7_append_33 0 rfl ?_
          refine z_dup (pc := 34) C dX7_append_34 rfl ?_
          refine z_getf (pc := 35) C dX7_append_35 fX7_15 ((zup_ne (by decide)).trans q2) (by first | rfl | assumption) ?_
          refine z_iconst (pc := 38) C dX7_append_38 (nI 1) (by decide) ?_
          first | refine z_iaddN (pc := 39) C dX7_append_39 ?_ | refine z_iadd (pc := 39) C dX7_append_39 ?_
          refine z_putf (pc := 40) (fs' := [_, _, _, _, _, _, _, _]) C dX7_append_40 gX7_15 ((zup_ne (by decide)).trans q2) (fun _ => ⟨rfl, rfl⟩) (by exact Nat.le_of_ble_eq_true rfl) (by rfl) ?_
          refine z_iinc (pc := 43) (lv' := [(2, _), (0, _), (1, _)]) C dX7_append_43 2 rfl _ rfl (by decide) rfl ?_
          refine z_goto (pc := 46) C 3 dX7_append_46 (by decide) ?_
          refine z_sub (lv' := [(0, _), (1, _), (2, _)]) [1, 2, 0] rfl ?_
          (rw [shf_s ⟨i, by omega⟩]; exact ih (f - 1) (by omega) (i + 1) _ (nup B2 (len + i) (sby x i)) ⟨by omega, zup_same _ _ _, (zup_ne (by decide)).trans (zup_same _ _ _), fun j hj => (nup_ne (by omega)).trans (e1 j (by omega)), fun j hj => by by_cases q : j = i; (subst q; exact nup_same _ _ _); (rw [nup_ne (by omega)]; exact e2 j (by omega)), fun a q1 q2 => (zup_ne q1).trans ((zup_ne q2).trans (F1 a q1 q2))⟩)
  exact lp3 4 0 h B ⟨rfl, h2, h3, fun _ _ => rfl, fun j hj => by omega, fun _ _ _ => rfl⟩

set_option maxRecDepth 20000 in
set_option maxHeartbeats 1000000 in
theorem tX7_sortOf {h : ZH} {b : Nat} (hb : b < 2147483648) : ZD mX7_sortOf 0 [.int (nI b)] h (some (.int (nI (ssort b)))) h := by
  intro n
  refine z_enter (lv := [(0, _)]) (by decide) (Nat.le_of_ble_eq_true rfl) rfl (fun X C => ?_)
  refine z_iload_n (pc := 0) C dX7_sortOf_0 0 rfl ?_
  refine z_bipush (pc := 1) C dX7_sortOf_1 (nI 97) (by decide) ?_
  first | refine z_icmpltN (pc := 3) C 14 dX7_sortOf_3 (by decide) (by omega) (by omega) (fun hc3 => ?_) (fun hc3 => ?_) | refine z_icmp_lt (pc := 3) C 14 dX7_sortOf_3 (by decide) (fun hc3 => ?_) (fun hc3 => ?_)
  · skip
    refine z_iload_n (pc := 14) C dX7_sortOf_14 0 rfl ?_
    refine z_bipush (pc := 15) C dX7_sortOf_15 (nI 48) (by decide) ?_
    first | refine z_icmpltN (pc := 17) C 28 dX7_sortOf_17 (by decide) (by omega) (by omega) (fun hc17 => ?_) (fun hc17 => ?_) | refine z_icmp_lt (pc := 17) C 28 dX7_sortOf_17 (by decide) (fun hc17 => ?_) (fun hc17 => ?_)
    · skip
      refine z_iload_n (pc := 28) C dX7_sortOf_28 0 rfl ?_
      refine z_bipush (pc := 29) C dX7_sortOf_29 (nI 59) (by decide) ?_
      first | refine z_icmpneN (pc := 31) C 38 dX7_sortOf_31 (by decide) (by omega) (by omega) (fun hc31 => ?_) (fun hc31 => ?_) | refine z_icmp_ne (pc := 31) C 38 dX7_sortOf_31 (by decide) (fun hc31 => ?_) (fun hc31 => ?_)
      · skip
        refine z_iconst (pc := 38) C dX7_sortOf_38 (nI 4) (by decide) ?_
        refine z_iret (pc := 39) C dX7_sortOf_39 rfl (Nat.zero_le _) (Nat.zero_le _) ⟨?_, ?_, rfl⟩
        · first | (rw [ssort_1.mpr (by omega)]; done) | (rw [ssort_2.mpr (by omega)]; done) | (rw [ssort_3.mpr (by omega)]; done) | (unfold ssort; rw [if_neg (by omega), if_neg (by omega), if_neg (by omega)])
        · rfl
      · skip
        refine z_iconst (pc := 34) C dX7_sortOf_34 (nI 3) (by decide) ?_
        refine z_goto (pc := 35) C 39 dX7_sortOf_35 (by decide) ?_
        refine z_iret (pc := 39) C dX7_sortOf_39 rfl (Nat.zero_le _) (Nat.zero_le _) ⟨?_, ?_, rfl⟩
        · first | (rw [ssort_1.mpr (by omega)]; done) | (rw [ssort_2.mpr (by omega)]; done) | (rw [ssort_3.mpr (by omega)]; done) | (unfold ssort; rw [if_neg (by omega), if_neg (by omega), if_neg (by omega)])
        · rfl
    · skip
      refine z_iload_n (pc := 20) C dX7_sortOf_20 0 rfl ?_
      refine z_bipush (pc := 21) C dX7_sortOf_21 (nI 57) (by decide) ?_
      first | refine z_icmpgtN (pc := 23) C 28 dX7_sortOf_23 (by decide) (by omega) (by omega) (fun hc23 => ?_) (fun hc23 => ?_) | refine z_icmp_gt (pc := 23) C 28 dX7_sortOf_23 (by decide) (fun hc23 => ?_) (fun hc23 => ?_)
      · skip
        refine z_iload_n (pc := 28) C dX7_sortOf_28 0 rfl ?_
        refine z_bipush (pc := 29) C dX7_sortOf_29 (nI 59) (by decide) ?_
        first | refine z_icmpneN (pc := 31) C 38 dX7_sortOf_31 (by decide) (by omega) (by omega) (fun hc31 => ?_) (fun hc31 => ?_) | refine z_icmp_ne (pc := 31) C 38 dX7_sortOf_31 (by decide) (fun hc31 => ?_) (fun hc31 => ?_)
        · skip
          refine z_iconst (pc := 38) C dX7_sortOf_38 (nI 4) (by decide) ?_
          refine z_iret (pc := 39) C dX7_sortOf_39 rfl (Nat.zero_le _) (Nat.zero_le _) ⟨?_, ?_, rfl⟩
          · first | (rw [ssort_1.mpr (by omega)]; done) | (rw [ssort_2.mpr (by omega)]; done) | (rw [ssort_3.mpr (by omega)]; done) | (unfold ssort; rw [if_neg (by omega), if_neg (by omega), if_neg (by omega)])
          · rfl
        · skip
          refine z_iconst (pc := 34) C dX7_sortOf_34 (nI 3) (by decide) ?_
          refine z_goto (pc := 35) C 39 dX7_sortOf_35 (by decide) ?_
          refine z_iret (pc := 39) C dX7_sortOf_39 rfl (Nat.zero_le _) (Nat.zero_le _) ⟨?_, ?_, rfl⟩
          · first | (rw [ssort_1.mpr (by omega)]; done) | (rw [ssort_2.mpr (by omega)]; done) | (rw [ssort_3.mpr (by omega)]; done) | (unfold ssort; rw [if_neg (by omega), if_neg (by omega), if_neg (by omega)])
          · rfl
      · skip
        refine z_iconst (pc := 26) C dX7_sortOf_26 (nI 2) (by decide) ?_
        refine z_iret (pc := 27) C dX7_sortOf_27 rfl (Nat.zero_le _) (Nat.zero_le _) ⟨?_, ?_, rfl⟩
        · first | (rw [ssort_1.mpr (by omega)]; done) | (rw [ssort_2.mpr (by omega)]; done) | (rw [ssort_3.mpr (by omega)]; done) | (unfold ssort; rw [if_neg (by omega), if_neg (by omega), if_neg (by omega)])
        · rfl
  · skip
    refine z_iload_n (pc := 6) C dX7_sortOf_6 0 rfl ?_
    refine z_bipush (pc := 7) C dX7_sortOf_7 (nI 122) (by decide) ?_
    first | refine z_icmpgtN (pc := 9) C 14 dX7_sortOf_9 (by decide) (by omega) (by omega) (fun hc9 => ?_) (fun hc9 => ?_) | refine z_icmp_gt (pc := 9) C 14 dX7_sortOf_9 (by decide) (fun hc9 => ?_) (fun hc9 => ?_)
    · skip
      refine z_iload_n (pc := 14) C dX7_sortOf_14 0 rfl ?_
      refine z_bipush (pc := 15) C dX7_sortOf_15 (nI 48) (by decide) ?_
      first | refine z_icmpltN (pc := 17) C 28 dX7_sortOf_17 (by decide) (by omega) (by omega) (fun hc17 => ?_) (fun hc17 => ?_) | refine z_icmp_lt (pc := 17) C 28 dX7_sortOf_17 (by decide) (fun hc17 => ?_) (fun hc17 => ?_)
      · skip
        refine z_iload_n (pc := 28) C dX7_sortOf_28 0 rfl ?_
        refine z_bipush (pc := 29) C dX7_sortOf_29 (nI 59) (by decide) ?_
        first | refine z_icmpneN (pc := 31) C 38 dX7_sortOf_31 (by decide) (by omega) (by omega) (fun hc31 => ?_) (fun hc31 => ?_) | refine z_icmp_ne (pc := 31) C 38 dX7_sortOf_31 (by decide) (fun hc31 => ?_) (fun hc31 => ?_)
        · skip
          refine z_iconst (pc := 38) C dX7_sortOf_38 (nI 4) (by decide) ?_
          refine z_iret (pc := 39) C dX7_sortOf_39 rfl (Nat.zero_le _) (Nat.zero_le _) ⟨?_, ?_, rfl⟩
          · first | (rw [ssort_1.mpr (by omega)]; done) | (rw [ssort_2.mpr (by omega)]; done) | (rw [ssort_3.mpr (by omega)]; done) | (unfold ssort; rw [if_neg (by omega), if_neg (by omega), if_neg (by omega)])
          · rfl
        · skip
          refine z_iconst (pc := 34) C dX7_sortOf_34 (nI 3) (by decide) ?_
          refine z_goto (pc := 35) C 39 dX7_sortOf_35 (by decide) ?_
          refine z_iret (pc := 39) C dX7_sortOf_39 rfl (Nat.zero_le _) (Nat.zero_le _) ⟨?_, ?_, rfl⟩
          · first | (rw [ssort_1.mpr (by omega)]; done) | (rw [ssort_2.mpr (by omega)]; done) | (rw [ssort_3.mpr (by omega)]; done) | (unfold ssort; rw [if_neg (by omega), if_neg (by omega), if_neg (by omega)])
          · rfl
      · skip
        refine z_iload_n (pc := 20) C dX7_sortOf_20 0 rfl ?_
        refine z_bipush (pc := 21) C dX7_sortOf_21 (nI 57) (by decide) ?_
        first | refine z_icmpgtN (pc := 23) C 28 dX7_sortOf_23 (by decide) (by omega) (by omega) (fun hc23 => ?_) (fun hc23 => ?_) | refine z_icmp_gt (pc := 23) C 28 dX7_sortOf_23 (by decide) (fun hc23 => ?_) (fun hc23 => ?_)
        · skip
          refine z_iload_n (pc := 28) C dX7_sortOf_28 0 rfl ?_
          refine z_bipush (pc := 29) C dX7_sortOf_29 (nI 59) (by decide) ?_
          first | refine z_icmpneN (pc := 31) C 38 dX7_sortOf_31 (by decide) (by omega) (by omega) (fun hc31 => ?_) (fun hc31 => ?_) | refine z_icmp_ne (pc := 31) C 38 dX7_sortOf_31 (by decide) (fun hc31 => ?_) (fun hc31 => ?_)
          · skip
            refine z_iconst (pc := 38) C dX7_sortOf_38 (nI 4) (by decide) ?_
            refine z_iret (pc := 39) C dX7_sortOf_39 rfl (Nat.zero_le _) (Nat.zero_le _) ⟨?_, ?_, rfl⟩
            · first | (rw [ssort_1.mpr (by omega)]; done) | (rw [ssort_2.mpr (by omega)]; done) | (rw [ssort_3.mpr (by omega)]; done) | (unfold ssort; rw [if_neg (by omega), if_neg (by omega), if_neg (by omega)])
            · rfl
          · skip
            refine z_iconst (pc := 34) C dX7_sortOf_34 (nI 3) (by decide) ?_
            refine z_goto (pc := 35) C 39 dX7_sortOf_35 (by decide) ?_
            refine z_iret (pc := 39) C dX7_sortOf_39 rfl (Nat.zero_le _) (Nat.zero_le _) ⟨?_, ?_, rfl⟩
            · first | (rw [ssort_1.mpr (by omega)]; done) | (rw [ssort_2.mpr (by omega)]; done) | (rw [ssort_3.mpr (by omega)]; done) | (unfold ssort; rw [if_neg (by omega), if_neg (by omega), if_neg (by omega)])
            · rfl
        · skip
          refine z_iconst (pc := 26) C dX7_sortOf_26 (nI 2) (by decide) ?_
          refine z_iret (pc := 27) C dX7_sortOf_27 rfl (Nat.zero_le _) (Nat.zero_le _) ⟨?_, ?_, rfl⟩
          · first | (rw [ssort_1.mpr (by omega)]; done) | (rw [ssort_2.mpr (by omega)]; done) | (rw [ssort_3.mpr (by omega)]; done) | (unfold ssort; rw [if_neg (by omega), if_neg (by omega), if_neg (by omega)])
          · rfl
    · skip
      refine z_iconst (pc := 12) C dX7_sortOf_12 (nI 1) (by decide) ?_
      refine z_iret (pc := 13) C dX7_sortOf_13 rfl (Nat.zero_le _) (Nat.zero_le _) ⟨?_, ?_, rfl⟩
      · first | (rw [ssort_1.mpr (by omega)]; done) | (rw [ssort_2.mpr (by omega)]; done) | (rw [ssort_3.mpr (by omega)]; done) | (unfold ssort; rw [if_neg (by omega), if_neg (by omega), if_neg (by omega)])
      · rfl

set_option maxRecDepth 20000 in
set_option maxHeartbeats 1000000 in
theorem tX7_advance {h : ZH} {len n0 k : Nat} {so sa va : Int32} {co : Int64} {B : Nat → Nat} (hT2 : h 1002 = some (zO 4 (tpf len so sa va co (nI n0) (nI k)))) (hT3 : h 1003 = some (zI 900 B)) (hk : k ≤ n0) (hn : n0 ≤ 900) (hB : ∀ j, j < n0 → B j < 256) : ZQ0 mX7_advance 1 [.ref 1002] h (fun hh => TpA hh len n0 B (stok B n0 k) ∧ ∀ a, a ≠ 1002 → hh a = h a) := by
  intro n
  refine z_enter (lv := [(0, _)]) (by decide) (Nat.le_of_ble_eq_true rfl) rfl (fun X C => ?_)
  have lp0 : ∀ (f0 : Nat) (j : Nat) (h1 : ZH), (j + f0 = n0 ∧ sskp B n0 (n0 - k) k = sskp B n0 f0 j ∧ h1 1002 = some (zO 4 (tpf len so sa va co (nI n0) (nI j))) ∧ ∀ a, a ≠ 1002 → h1 a = h a) → Zc X mX7_advance (zEnd X (fun r hh n' => r = none ∧ (TpA hh len n0 B (stok B n0 k) ∧ ∀ a, a ≠ 1002 → hh a = h a) ∧ n' = n) 0 0) 0 [(0, .ref 1002)] [] h1 n 0 0 := by
    intro f0
    induction f0 using Nat.strongRecOn with
    | _ f0 ih0 =>
      intro j h1 hk0
      obtain ⟨hk0, he0, q2, F1⟩ := hk0
      have q3 : h1 1003 = _ := (F1 1003 (by decide)).trans hT3
      refine z_aload_n (pc := 0) C dX7_advance_0 0 rfl ?_
      refine z_getf (pc := 1) C dX7_advance_1 fX7_19 (by assumption) (by first | rfl | assumption) ?_
      refine z_aload_n (pc := 4) C dX7_advance_4 0 rfl ?_
      refine z_getf (pc := 5) C dX7_advance_5 fX7_28 (by assumption) (by first | rfl | assumption) ?_
      first | refine z_icmpgeN (pc := 8) C 38 dX7_advance_8 (by decide) (by omega) (by omega) (fun hc8 => ?_) (fun hc8 => ?_) | refine z_icmp_ge (pc := 8) C 38 dX7_advance_8 (by decide) (fun hc8 => ?_) (fun hc8 => ?_)
      · skip
        have hs : sskp B n0 (n0 - k) k = j := by rw [he0, show f0 = 0 by omega]; rfl
        obtain ⟨s, hsj⟩ : ∃ s, j = s := ⟨j, rfl⟩
        subst hsj
        have hsn : j = n0 := by omega
        obtain ⟨s, hsj⟩ : ∃ s, s = j := ⟨j, rfl⟩
        rw [← hsj] at hs q2 hsn
        refine z_aload_n (pc := 38) C dX7_advance_38 0 rfl ?_
        refine z_aload_n (pc := 39) C dX7_advance_39 0 rfl ?_
        refine z_getf (pc := 40) C dX7_advance_40 fX7_19 (by assumption) (by first | rfl | assumption) ?_
        refine z_putf (pc := 43) (fs' := [_, _, _, _, _, _, _, _]) C dX7_advance_43 gX7_34 (by assumption) (fun _ => ⟨rfl, rfl⟩) (by exact Nat.le_of_ble_eq_true rfl) (by rfl) ?_
        refine z_aload_n (pc := 46) C dX7_advance_46 0 rfl ?_
        refine z_lconst (pc := 47) C dX7_advance_47 (0) (by decide) ?_
        refine z_putf (pc := 48) (fs' := [_, _, _, _, _, _, _, _]) C dX7_advance_48 gX7_37 (zup_same _ _ _) (fun _ => ⟨rfl, rfl⟩) (by exact Nat.le_of_ble_eq_true rfl) (by rfl) ?_
        refine z_aload_n (pc := 51) C dX7_advance_51 0 rfl ?_
        refine z_iconst (pc := 52) C dX7_advance_52 (nI 0) (by decide) ?_
        refine z_putf (pc := 53) (fs' := [_, _, _, _, _, _, _, _]) C dX7_advance_53 gX7_41 (zup_same _ _ _) (fun _ => ⟨rfl, rfl⟩) (by exact Nat.le_of_ble_eq_true rfl) (by rfl) ?_
        refine z_aload_n (pc := 56) C dX7_advance_56 0 rfl ?_
        refine z_aload_n (pc := 57) C dX7_advance_57 0 rfl ?_
        refine z_getf (pc := 58) C dX7_advance_58 fX7_19 (zup_same _ _ _) (by first | rfl | assumption) ?_
        refine z_aload_n (pc := 61) C dX7_advance_61 0 rfl ?_
        refine z_getf (pc := 62) C dX7_advance_62 fX7_28 (zup_same _ _ _) (by first | rfl | assumption) ?_
        first | refine z_icmpgeN (pc := 65) C 83 dX7_advance_65 (by decide) (by omega) (by omega) (fun hc65 => ?_) (fun hc65 => ?_) | refine z_icmp_ge (pc := 65) C 83 dX7_advance_65 (by decide) (fun hc65 => ?_) (fun hc65 => ?_)
        · skip
          refine z_iconst (pc := 83) C dX7_advance_83 (nI 0) (by decide) ?_
          obtain ⟨q, hq⟩ : ∃ q, q = 0 := ⟨0, rfl⟩
          have hq4 : q ≤ 4 := by omega
          refine z_top (show nI 0 = nI q from by rw [hq]) ?_
          have hqt : (if s < n0 then ssort (B s) else 0) = q := by rw [if_neg (by omega), hq]
          refine z_putf (pc := 84) (fs' := [_, _, _, _, _, _, _, _]) C dX7_advance_84 gX7_48 (zup_same _ _ _) (fun _ => ⟨rfl, rfl⟩) (by exact Nat.le_of_ble_eq_true rfl) (by rfl) ?_
          refine z_aload_n (pc := 87) C dX7_advance_87 0 rfl ?_
          refine z_getf (pc := 88) C dX7_advance_88 fX7_48 (zup_same _ _ _) (by first | rfl | assumption) ?_
          refine z_iconst (pc := 91) C dX7_advance_91 (nI 1) (by decide) ?_
          first | refine z_icmpneN (pc := 92) C 100 dX7_advance_92 (by decide) (by omega) (by omega) (fun hc92 => ?_) (fun hc92 => ?_) | refine z_icmp_ne (pc := 92) C 100 dX7_advance_92 (by decide) (fun hc92 => ?_) (fun hc92 => ?_)
          · skip
            refine z_aload_n (pc := 100) C dX7_advance_100 0 rfl ?_
            refine z_getf (pc := 101) C dX7_advance_101 fX7_48 (zup_same _ _ _) (by first | rfl | assumption) ?_
            refine z_iconst (pc := 104) C dX7_advance_104 (nI 2) (by decide) ?_
            first | refine z_icmpneN (pc := 105) C 112 dX7_advance_105 (by decide) (by omega) (by omega) (fun hc105 => ?_) (fun hc105 => ?_) | refine z_icmp_ne (pc := 105) C 112 dX7_advance_105 (by decide) (fun hc105 => ?_) (fun hc105 => ?_)
            · skip
              refine z_iconst (pc := 112) C dX7_advance_112 (nI 1) (by decide) ?_
              refine z_top (show nI 1 = nI (smo q) from by unfold smo; rw [if_neg hc92, if_neg hc105]) ?_
              refine z_istore_n (pc := 113) (lv' := [(1, _), (0, _)]) C dX7_advance_113 (by decide) rfl ?_
              refine z_aload_n (pc := 114) C dX7_advance_114 1 rfl ?_
              refine z_getf (pc := 115) C dX7_advance_115 fX7_48 (zup_same _ _ _) (by first | rfl | assumption) ?_
              first | refine z_ifeqB (pc := 118) C 133 dX7_advance_118 (by decide) (fun hc118 => ?_) (fun hc118 => ?_) | refine z_ifeqN (pc := 118) C 133 dX7_advance_118 (by decide) (by omega) (fun hc118 => ?_) (fun hc118 => ?_) | refine z_if_eq (pc := 118) C 133 dX7_advance_118 (by decide) (fun hc118 => ?_) (fun hc118 => ?_)
              · skip
                refine z_iconst (pc := 133) C dX7_advance_133 (zb false) (by decide) ?_
                refine z_istore_n (pc := 134) (lv' := [(2, _), (1, _), (0, _)]) C dX7_advance_134 (by decide) rfl ?_
                refine z_sub (lv' := [(0, _), (1, _), (2, _)]) [2, 1, 0] rfl ?_
                have lp135 : ∀ (f2 : Nat) (j : Nat) (g : Bool) (h2 : ZH), (s + j + f2 = n0 ∧ h2 1002 = some (zO 4 (tpf len (nI q) (nI s) (nI (svl (fun i => B (s + i)) j)) (lN (scd (fun i => B (s + i)) j)) (nI n0) (nI (s + j)))) ∧ (g = true → s + j < n0 ∧ (j = 0 ∨ ssort (B (s + j)) = q) ∧ (q = 1 ∨ q = 2 ∨ q = 3 ∧ j = 0) ∧ (q ≠ 3 → sre B n0 q (n0 - s) s = sre B n0 q (n0 - (s + j)) (s + j))) ∧ (g = false → s + j = sE B n0 q s) ∧ ∀ a, a ≠ 1002 → h2 a = h a) → Zc X mX7_advance (zEnd X (fun r hh n' => r = none ∧ (TpA hh len n0 B (stok B n0 k) ∧ ∀ a, a ≠ 1002 → hh a = h a) ∧ n' = n) 0 0) 135 [(0, .ref 1002), (1, .int (nI (smo q))), (2, .int (zb g))] [] h2 n 0 0 := by
                  intro f2
                  induction f2 using Nat.strongRecOn with
                  | _ f2 ih2 =>
                    intro j g h2 hk2
                    obtain ⟨hk2, r2, gt, gf, F2⟩ := hk2
                    have r3 : h2 1003 = _ := (F2 1003 (by decide)).trans hT3
                    refine z_iload_n (pc := 135) C dX7_advance_135 2 rfl ?_
                    first | refine z_ifeqB (pc := 136) C 257 dX7_advance_136 (by decide) (fun hc136 => ?_) (fun hc136 => ?_) | refine z_ifeqN (pc := 136) C 257 dX7_advance_136 (by decide) (by omega) (fun hc136 => ?_) (fun hc136 => ?_) | refine z_if_eq (pc := 136) C 257 dX7_advance_136 (by decide) (fun hc136 => ?_) (fun hc136 => ?_)
                    · skip
                      have e6 := gf hc136
                      refine z_aload_n (pc := 257) C dX7_advance_257 0 rfl ?_
                      refine z_getf (pc := 258) C dX7_advance_258 fX7_19 (by assumption) (by first | rfl | assumption) ?_
                      refine z_aload_n (pc := 261) C dX7_advance_261 0 rfl ?_
                      refine z_getf (pc := 262) C dX7_advance_262 fX7_34 (by assumption) (by first | rfl | assumption) ?_
                      first | refine z_isubN (pc := 265) C dX7_advance_265 (by omega) ?_ | refine z_isub (pc := 265) C dX7_advance_265 ?_
                      refine z_iload_n (pc := 266) C dX7_advance_266 1 rfl ?_
                      have hmo := smo_le q
                      first | refine z_icmpleN (pc := 267) C 275 dX7_advance_267 (by decide) (by omega) (by omega) (fun hc267 => ?_) (fun hc267 => ?_) | refine z_icmp_le (pc := 267) C 275 dX7_advance_267 (by decide) (fun hc267 => ?_) (fun hc267 => ?_)
                      · skip
                        have et : stok B n0 k = (q, s, s + j) := by unfold stok; rw [hs, hqt]; unfold stq; rw [← e6, if_pos hc267]
                        refine z_vret (pc := 275) C dX7_advance_275 rfl (Nat.zero_le _) (Nat.zero_le _) ⟨rfl, ?_, rfl⟩
                        rw [et]; first | exact ⟨⟨r3, by rw [show ((q, s, s + j) : Nat × Nat × Nat).2.2 - ((q, s, s + j) : Nat × Nat × Nat).2.1 = j from Nat.add_sub_cancel_left s j]; exact r2⟩, F2⟩ | exact ⟨⟨(zup_ne (by decide)).trans r3, by rw [show ((4, s, s + j) : Nat × Nat × Nat).2.2 - ((4, s, s + j) : Nat × Nat × Nat).2.1 = j from Nat.add_sub_cancel_left s j]; exact zup_same _ _ _⟩, fun a q1 => (zup_ne q1).trans (F2 a q1)⟩
                      · skip
                        have et : stok B n0 k = (4, s, s + j) := by unfold stok; rw [hs, hqt]; unfold stq; rw [← e6, if_neg (by omega)]
                        refine z_aload_n (pc := 270) C dX7_advance_270 0 rfl ?_
                        refine z_iconst (pc := 271) C dX7_advance_271 (nI 4) (by decide) ?_
                        refine z_putf (pc := 272) (fs' := [_, _, _, _, _, _, _, _]) C dX7_advance_272 gX7_48 (by assumption) (fun _ => ⟨rfl, rfl⟩) (by exact Nat.le_of_ble_eq_true rfl) (by rfl) ?_
                        refine z_vret (pc := 275) C dX7_advance_275 rfl (Nat.zero_le _) (Nat.zero_le _) ⟨rfl, ?_, rfl⟩
                        rw [et]; first | exact ⟨⟨r3, by rw [show ((q, s, s + j) : Nat × Nat × Nat).2.2 - ((q, s, s + j) : Nat × Nat × Nat).2.1 = j from Nat.add_sub_cancel_left s j]; exact r2⟩, F2⟩ | exact ⟨⟨(zup_ne (by decide)).trans r3, by rw [show ((4, s, s + j) : Nat × Nat × Nat).2.2 - ((4, s, s + j) : Nat × Nat × Nat).2.1 = j from Nat.add_sub_cancel_left s j]; exact zup_same _ _ _⟩, fun a q1 => (zup_ne q1).trans (F2 a q1)⟩
                    · obtain ⟨g1, g2, g3, g4⟩ := gt hc136; omega
                first | exact lp135 (n0 - s) 0 true _ ⟨by omega, zup_same _ _ _, fun _ => ⟨by omega, Or.inl rfl, by omega, fun _ => rfl⟩, (fun z => by cases z), (fun a q1 => (zup_ne q1).trans ((zup_ne q1).trans ((zup_ne q1).trans ((zup_ne q1).trans (F1 a q1)))))⟩ | exact lp135 (n0 - s) 0 false _ ⟨by omega, zup_same _ _ _, (fun z => by cases z), fun _ => (by unfold sE; rw [if_neg (by omega), if_neg (by omega)]; rfl), (fun a q1 => (zup_ne q1).trans ((zup_ne q1).trans ((zup_ne q1).trans ((zup_ne q1).trans (F1 a q1)))))⟩
              · omega
            · omega
          · omega
        · omega
      · skip
        refine z_aload_n (pc := 11) C dX7_advance_11 0 rfl ?_
        refine z_getf (pc := 12) C dX7_advance_12 fX7_9 (by assumption) (by first | rfl | assumption) ?_
        refine z_aload_n (pc := 15) C dX7_advance_15 0 rfl ?_
        refine z_getf (pc := 16) C dX7_advance_16 fX7_19 (by assumption) (by first | rfl | assumption) ?_
        first | refine z_ialdN (pc := 19) C dX7_advance_19 (by assumption) (by omega) (by decide) ?_ | refine z_ialdI (pc := 19) C dX7_advance_19 (by assumption) (by omega) (by decide) ?_
        refine z_bipush (pc := 20) C dX7_advance_20 (nI 32) (by decide) ?_
        have b0 := hB j (by omega)
        first | refine z_icmpneN (pc := 22) C 38 dX7_advance_22 (by decide) (by omega) (by omega) (fun hc22 => ?_) (fun hc22 => ?_) | refine z_icmp_ne (pc := 22) C 38 dX7_advance_22 (by decide) (fun hc22 => ?_) (fun hc22 => ?_)
        · skip
          have hs : sskp B n0 (n0 - k) k = j := by rw [he0]; obtain ⟨f0, rfl⟩ : ∃ y, f0 = y + 1 := ⟨f0 - 1, by omega⟩; rw [sskp, if_neg (fun z => hc22 z.2)]
          have hsn : j < n0 := by omega
          obtain ⟨s, hsj⟩ : ∃ s, s = j := ⟨j, rfl⟩
          rw [← hsj] at hs q2 hsn
          refine z_aload_n (pc := 38) C dX7_advance_38 0 rfl ?_
          refine z_aload_n (pc := 39) C dX7_advance_39 0 rfl ?_
          refine z_getf (pc := 40) C dX7_advance_40 fX7_19 (by assumption) (by first | rfl | assumption) ?_
          refine z_putf (pc := 43) (fs' := [_, _, _, _, _, _, _, _]) C dX7_advance_43 gX7_34 (by assumption) (fun _ => ⟨rfl, rfl⟩) (by exact Nat.le_of_ble_eq_true rfl) (by rfl) ?_
          refine z_aload_n (pc := 46) C dX7_advance_46 0 rfl ?_
          refine z_lconst (pc := 47) C dX7_advance_47 (0) (by decide) ?_
          refine z_putf (pc := 48) (fs' := [_, _, _, _, _, _, _, _]) C dX7_advance_48 gX7_37 (zup_same _ _ _) (fun _ => ⟨rfl, rfl⟩) (by exact Nat.le_of_ble_eq_true rfl) (by rfl) ?_
          refine z_aload_n (pc := 51) C dX7_advance_51 0 rfl ?_
          refine z_iconst (pc := 52) C dX7_advance_52 (nI 0) (by decide) ?_
          refine z_putf (pc := 53) (fs' := [_, _, _, _, _, _, _, _]) C dX7_advance_53 gX7_41 (zup_same _ _ _) (fun _ => ⟨rfl, rfl⟩) (by exact Nat.le_of_ble_eq_true rfl) (by rfl) ?_
          refine z_aload_n (pc := 56) C dX7_advance_56 0 rfl ?_
          refine z_aload_n (pc := 57) C dX7_advance_57 0 rfl ?_
          refine z_getf (pc := 58) C dX7_advance_58 fX7_19 (zup_same _ _ _) (by first | rfl | assumption) ?_
          refine z_aload_n (pc := 61) C dX7_advance_61 0 rfl ?_
          refine z_getf (pc := 62) C dX7_advance_62 fX7_28 (zup_same _ _ _) (by first | rfl | assumption) ?_
          first | refine z_icmpgeN (pc := 65) C 83 dX7_advance_65 (by decide) (by omega) (by omega) (fun hc65 => ?_) (fun hc65 => ?_) | refine z_icmp_ge (pc := 65) C 83 dX7_advance_65 (by decide) (fun hc65 => ?_) (fun hc65 => ?_)
          · omega
          · skip
            refine z_aload_n (pc := 68) C dX7_advance_68 0 rfl ?_
            refine z_getf (pc := 69) C dX7_advance_69 fX7_9 (zup_same _ _ _) (by first | rfl | assumption) ?_
            refine z_aload_n (pc := 72) C dX7_advance_72 0 rfl ?_
            refine z_getf (pc := 73) C dX7_advance_73 fX7_19 (zup_same _ _ _) (by first | rfl | assumption) ?_
            first | refine z_ialdN (pc := 76) C dX7_advance_76 ((zup_ne (by decide)).trans ((zup_ne (by decide)).trans ((zup_ne (by decide)).trans q3))) (by omega) (by decide) ?_ | refine z_ialdI (pc := 76) C dX7_advance_76 ((zup_ne (by decide)).trans ((zup_ne (by decide)).trans ((zup_ne (by decide)).trans q3))) (by omega) (by decide) ?_
            refine z_cS1 (pc := 77) mX7_sortOf C [_] dX7_advance_77 lX7_44 mtX7_sortOf (tX7_sortOf (by have := hB s (by omega); omega)) rfl rfl (by decide) (Nat.le_of_ble_eq_true rfl) (Nat.zero_le _) (Nat.zero_le _) ?_
            obtain ⟨q, hq⟩ : ∃ q, q = ssort (B s) := ⟨_, rfl⟩
            have hq4 := ssort_le (B s)
            rw [← hq] at hq4
            rw [← hq]
            have hqt : (if s < n0 then ssort (B s) else 0) = q := by rw [if_pos hsn, hq]
            refine z_goto (pc := 80) C 84 dX7_advance_80 (by decide) ?_
            refine z_putf (pc := 84) (fs' := [_, _, _, _, _, _, _, _]) C dX7_advance_84 gX7_48 (zup_same _ _ _) (fun _ => ⟨rfl, rfl⟩) (by exact Nat.le_of_ble_eq_true rfl) (by rfl) ?_
            refine z_aload_n (pc := 87) C dX7_advance_87 0 rfl ?_
            refine z_getf (pc := 88) C dX7_advance_88 fX7_48 (zup_same _ _ _) (by first | rfl | assumption) ?_
            refine z_iconst (pc := 91) C dX7_advance_91 (nI 1) (by decide) ?_
            first | refine z_icmpneN (pc := 92) C 100 dX7_advance_92 (by decide) (by omega) (by omega) (fun hc92 => ?_) (fun hc92 => ?_) | refine z_icmp_ne (pc := 92) C 100 dX7_advance_92 (by decide) (fun hc92 => ?_) (fun hc92 => ?_)
            · skip
              refine z_aload_n (pc := 100) C dX7_advance_100 0 rfl ?_
              refine z_getf (pc := 101) C dX7_advance_101 fX7_48 (zup_same _ _ _) (by first | rfl | assumption) ?_
              refine z_iconst (pc := 104) C dX7_advance_104 (nI 2) (by decide) ?_
              first | refine z_icmpneN (pc := 105) C 112 dX7_advance_105 (by decide) (by omega) (by omega) (fun hc105 => ?_) (fun hc105 => ?_) | refine z_icmp_ne (pc := 105) C 112 dX7_advance_105 (by decide) (fun hc105 => ?_) (fun hc105 => ?_)
              · skip
                refine z_iconst (pc := 112) C dX7_advance_112 (nI 1) (by decide) ?_
                refine z_top (show nI 1 = nI (smo q) from by unfold smo; rw [if_neg hc92, if_neg hc105]) ?_
                refine z_istore_n (pc := 113) (lv' := [(1, _), (0, _)]) C dX7_advance_113 (by decide) rfl ?_
                refine z_aload_n (pc := 114) C dX7_advance_114 1 rfl ?_
                refine z_getf (pc := 115) C dX7_advance_115 fX7_48 (zup_same _ _ _) (by first | rfl | assumption) ?_
                first | refine z_ifeqB (pc := 118) C 133 dX7_advance_118 (by decide) (fun hc118 => ?_) (fun hc118 => ?_) | refine z_ifeqN (pc := 118) C 133 dX7_advance_118 (by decide) (by omega) (fun hc118 => ?_) (fun hc118 => ?_) | refine z_if_eq (pc := 118) C 133 dX7_advance_118 (by decide) (fun hc118 => ?_) (fun hc118 => ?_)
                · omega
                · skip
                  refine z_aload_n (pc := 121) C dX7_advance_121 1 rfl ?_
                  refine z_getf (pc := 122) C dX7_advance_122 fX7_48 (zup_same _ _ _) (by first | rfl | assumption) ?_
                  refine z_iconst (pc := 125) C dX7_advance_125 (nI 4) (by decide) ?_
                  first | refine z_icmpeqN (pc := 126) C 133 dX7_advance_126 (by decide) (by omega) (by omega) (fun hc126 => ?_) (fun hc126 => ?_) | refine z_icmp_eq (pc := 126) C 133 dX7_advance_126 (by decide) (fun hc126 => ?_) (fun hc126 => ?_)
                  · skip
                    refine z_iconst (pc := 133) C dX7_advance_133 (zb false) (by decide) ?_
                    refine z_istore_n (pc := 134) (lv' := [(2, _), (1, _), (0, _)]) C dX7_advance_134 (by decide) rfl ?_
                    refine z_sub (lv' := [(0, _), (1, _), (2, _)]) [2, 1, 0] rfl ?_
                    have lp135 : ∀ (f2 : Nat) (j : Nat) (g : Bool) (h2 : ZH), (s + j + f2 = n0 ∧ h2 1002 = some (zO 4 (tpf len (nI q) (nI s) (nI (svl (fun i => B (s + i)) j)) (lN (scd (fun i => B (s + i)) j)) (nI n0) (nI (s + j)))) ∧ (g = true → s + j < n0 ∧ (j = 0 ∨ ssort (B (s + j)) = q) ∧ (q = 1 ∨ q = 2 ∨ q = 3 ∧ j = 0) ∧ (q ≠ 3 → sre B n0 q (n0 - s) s = sre B n0 q (n0 - (s + j)) (s + j))) ∧ (g = false → s + j = sE B n0 q s) ∧ ∀ a, a ≠ 1002 → h2 a = h a) → Zc X mX7_advance (zEnd X (fun r hh n' => r = none ∧ (TpA hh len n0 B (stok B n0 k) ∧ ∀ a, a ≠ 1002 → hh a = h a) ∧ n' = n) 0 0) 135 [(0, .ref 1002), (1, .int (nI (smo q))), (2, .int (zb g))] [] h2 n 0 0 := by
                      intro f2
                      induction f2 using Nat.strongRecOn with
                      | _ f2 ih2 =>
                        intro j g h2 hk2
                        obtain ⟨hk2, r2, gt, gf, F2⟩ := hk2
                        have r3 : h2 1003 = _ := (F2 1003 (by decide)).trans hT3
                        refine z_iload_n (pc := 135) C dX7_advance_135 2 rfl ?_
                        first | refine z_ifeqB (pc := 136) C 257 dX7_advance_136 (by decide) (fun hc136 => ?_) (fun hc136 => ?_) | refine z_ifeqN (pc := 136) C 257 dX7_advance_136 (by decide) (by omega) (fun hc136 => ?_) (fun hc136 => ?_) | refine z_if_eq (pc := 136) C 257 dX7_advance_136 (by decide) (fun hc136 => ?_) (fun hc136 => ?_)
                        · skip
                          have e6 := gf hc136
                          refine z_aload_n (pc := 257) C dX7_advance_257 0 rfl ?_
                          refine z_getf (pc := 258) C dX7_advance_258 fX7_19 (by assumption) (by first | rfl | assumption) ?_
                          refine z_aload_n (pc := 261) C dX7_advance_261 0 rfl ?_
                          refine z_getf (pc := 262) C dX7_advance_262 fX7_34 (by assumption) (by first | rfl | assumption) ?_
                          first | refine z_isubN (pc := 265) C dX7_advance_265 (by omega) ?_ | refine z_isub (pc := 265) C dX7_advance_265 ?_
                          refine z_iload_n (pc := 266) C dX7_advance_266 1 rfl ?_
                          have hmo := smo_le q
                          first | refine z_icmpleN (pc := 267) C 275 dX7_advance_267 (by decide) (by omega) (by omega) (fun hc267 => ?_) (fun hc267 => ?_) | refine z_icmp_le (pc := 267) C 275 dX7_advance_267 (by decide) (fun hc267 => ?_) (fun hc267 => ?_)
                          · skip
                            have et : stok B n0 k = (q, s, s + j) := by unfold stok; rw [hs, hqt]; unfold stq; rw [← e6, if_pos hc267]
                            refine z_vret (pc := 275) C dX7_advance_275 rfl (Nat.zero_le _) (Nat.zero_le _) ⟨rfl, ?_, rfl⟩
                            rw [et]; first | exact ⟨⟨r3, by rw [show ((q, s, s + j) : Nat × Nat × Nat).2.2 - ((q, s, s + j) : Nat × Nat × Nat).2.1 = j from Nat.add_sub_cancel_left s j]; exact r2⟩, F2⟩ | exact ⟨⟨(zup_ne (by decide)).trans r3, by rw [show ((4, s, s + j) : Nat × Nat × Nat).2.2 - ((4, s, s + j) : Nat × Nat × Nat).2.1 = j from Nat.add_sub_cancel_left s j]; exact zup_same _ _ _⟩, fun a q1 => (zup_ne q1).trans (F2 a q1)⟩
                          · skip
                            have et : stok B n0 k = (4, s, s + j) := by unfold stok; rw [hs, hqt]; unfold stq; rw [← e6, if_neg (by omega)]
                            refine z_aload_n (pc := 270) C dX7_advance_270 0 rfl ?_
                            refine z_iconst (pc := 271) C dX7_advance_271 (nI 4) (by decide) ?_
                            refine z_putf (pc := 272) (fs' := [_, _, _, _, _, _, _, _]) C dX7_advance_272 gX7_48 (by assumption) (fun _ => ⟨rfl, rfl⟩) (by exact Nat.le_of_ble_eq_true rfl) (by rfl) ?_
                            refine z_vret (pc := 275) C dX7_advance_275 rfl (Nat.zero_le _) (Nat.zero_le _) ⟨rfl, ?_, rfl⟩
                            rw [et]; first | exact ⟨⟨r3, by rw [show ((q, s, s + j) : Nat × Nat × Nat).2.2 - ((q, s, s + j) : Nat × Nat × Nat).2.1 = j from Nat.add_sub_cancel_left s j]; exact r2⟩, F2⟩ | exact ⟨⟨(zup_ne (by decide)).trans r3, by rw [show ((4, s, s + j) : Nat × Nat × Nat).2.2 - ((4, s, s + j) : Nat × Nat × Nat).2.1 = j from Nat.add_sub_cancel_left s j]; exact zup_same _ _ _⟩, fun a q1 => (zup_ne q1).trans (F2 a q1)⟩
                        · obtain ⟨g1, g2, g3, g4⟩ := gt hc136; omega
                    first | exact lp135 (n0 - s) 0 true _ ⟨by omega, zup_same _ _ _, fun _ => ⟨by omega, Or.inl rfl, by omega, fun _ => rfl⟩, (fun z => by cases z), (fun a q1 => (zup_ne q1).trans ((zup_ne q1).trans ((zup_ne q1).trans ((zup_ne q1).trans (F1 a q1)))))⟩ | exact lp135 (n0 - s) 0 false _ ⟨by omega, zup_same _ _ _, (fun z => by cases z), fun _ => (by unfold sE; rw [if_neg (by omega), if_neg (by omega)]; rfl), (fun a q1 => (zup_ne q1).trans ((zup_ne q1).trans ((zup_ne q1).trans ((zup_ne q1).trans (F1 a q1)))))⟩
                  · skip
                    refine z_iconst (pc := 129) C dX7_advance_129 (zb true) (by decide) ?_
                    refine z_goto (pc := 130) C 134 dX7_advance_130 (by decide) ?_
                    refine z_istore_n (pc := 134) (lv' := [(2, _), (1, _), (0, _)]) C dX7_advance_134 (by decide) rfl ?_
                    refine z_sub (lv' := [(0, _), (1, _), (2, _)]) [2, 1, 0] rfl ?_
                    have lp135 : ∀ (f2 : Nat) (j : Nat) (g : Bool) (h2 : ZH), (s + j + f2 = n0 ∧ h2 1002 = some (zO 4 (tpf len (nI q) (nI s) (nI (svl (fun i => B (s + i)) j)) (lN (scd (fun i => B (s + i)) j)) (nI n0) (nI (s + j)))) ∧ (g = true → s + j < n0 ∧ (j = 0 ∨ ssort (B (s + j)) = q) ∧ (q = 1 ∨ q = 2 ∨ q = 3 ∧ j = 0) ∧ (q ≠ 3 → sre B n0 q (n0 - s) s = sre B n0 q (n0 - (s + j)) (s + j))) ∧ (g = false → s + j = sE B n0 q s) ∧ ∀ a, a ≠ 1002 → h2 a = h a) → Zc X mX7_advance (zEnd X (fun r hh n' => r = none ∧ (TpA hh len n0 B (stok B n0 k) ∧ ∀ a, a ≠ 1002 → hh a = h a) ∧ n' = n) 0 0) 135 [(0, .ref 1002), (1, .int (nI (smo q))), (2, .int (zb g))] [] h2 n 0 0 := by
                      intro f2
                      induction f2 using Nat.strongRecOn with
                      | _ f2 ih2 =>
                        intro j g h2 hk2
                        obtain ⟨hk2, r2, gt, gf, F2⟩ := hk2
                        have r3 : h2 1003 = _ := (F2 1003 (by decide)).trans hT3
                        refine z_iload_n (pc := 135) C dX7_advance_135 2 rfl ?_
                        first | refine z_ifeqB (pc := 136) C 257 dX7_advance_136 (by decide) (fun hc136 => ?_) (fun hc136 => ?_) | refine z_ifeqN (pc := 136) C 257 dX7_advance_136 (by decide) (by omega) (fun hc136 => ?_) (fun hc136 => ?_) | refine z_if_eq (pc := 136) C 257 dX7_advance_136 (by decide) (fun hc136 => ?_) (fun hc136 => ?_)
                        · skip
                          have e6 := gf hc136
                          refine z_aload_n (pc := 257) C dX7_advance_257 0 rfl ?_
                          refine z_getf (pc := 258) C dX7_advance_258 fX7_19 (by assumption) (by first | rfl | assumption) ?_
                          refine z_aload_n (pc := 261) C dX7_advance_261 0 rfl ?_
                          refine z_getf (pc := 262) C dX7_advance_262 fX7_34 (by assumption) (by first | rfl | assumption) ?_
                          first | refine z_isubN (pc := 265) C dX7_advance_265 (by omega) ?_ | refine z_isub (pc := 265) C dX7_advance_265 ?_
                          refine z_iload_n (pc := 266) C dX7_advance_266 1 rfl ?_
                          have hmo := smo_le q
                          first | refine z_icmpleN (pc := 267) C 275 dX7_advance_267 (by decide) (by omega) (by omega) (fun hc267 => ?_) (fun hc267 => ?_) | refine z_icmp_le (pc := 267) C 275 dX7_advance_267 (by decide) (fun hc267 => ?_) (fun hc267 => ?_)
                          · skip
                            have et : stok B n0 k = (q, s, s + j) := by unfold stok; rw [hs, hqt]; unfold stq; rw [← e6, if_pos hc267]
                            refine z_vret (pc := 275) C dX7_advance_275 rfl (Nat.zero_le _) (Nat.zero_le _) ⟨rfl, ?_, rfl⟩
                            rw [et]; first | exact ⟨⟨r3, by rw [show ((q, s, s + j) : Nat × Nat × Nat).2.2 - ((q, s, s + j) : Nat × Nat × Nat).2.1 = j from Nat.add_sub_cancel_left s j]; exact r2⟩, F2⟩ | exact ⟨⟨(zup_ne (by decide)).trans r3, by rw [show ((4, s, s + j) : Nat × Nat × Nat).2.2 - ((4, s, s + j) : Nat × Nat × Nat).2.1 = j from Nat.add_sub_cancel_left s j]; exact zup_same _ _ _⟩, fun a q1 => (zup_ne q1).trans (F2 a q1)⟩
                          · skip
                            have et : stok B n0 k = (4, s, s + j) := by unfold stok; rw [hs, hqt]; unfold stq; rw [← e6, if_neg (by omega)]
                            refine z_aload_n (pc := 270) C dX7_advance_270 0 rfl ?_
                            refine z_iconst (pc := 271) C dX7_advance_271 (nI 4) (by decide) ?_
                            refine z_putf (pc := 272) (fs' := [_, _, _, _, _, _, _, _]) C dX7_advance_272 gX7_48 (by assumption) (fun _ => ⟨rfl, rfl⟩) (by exact Nat.le_of_ble_eq_true rfl) (by rfl) ?_
                            refine z_vret (pc := 275) C dX7_advance_275 rfl (Nat.zero_le _) (Nat.zero_le _) ⟨rfl, ?_, rfl⟩
                            rw [et]; first | exact ⟨⟨r3, by rw [show ((q, s, s + j) : Nat × Nat × Nat).2.2 - ((q, s, s + j) : Nat × Nat × Nat).2.1 = j from Nat.add_sub_cancel_left s j]; exact r2⟩, F2⟩ | exact ⟨⟨(zup_ne (by decide)).trans r3, by rw [show ((4, s, s + j) : Nat × Nat × Nat).2.2 - ((4, s, s + j) : Nat × Nat × Nat).2.1 = j from Nat.add_sub_cancel_left s j]; exact zup_same _ _ _⟩, fun a q1 => (zup_ne q1).trans (F2 a q1)⟩
                        · skip
                          obtain ⟨g1, g2, g3, g4⟩ := gt hc136
                          have b1 := hB (s + j) g1
                          have b2 : 48 ≤ B (s + j) := by
                            rcases g2 with z | z
                            · subst z
                              rcases g3 with y | y | y
                              · have := ssort_1.mp (hq.symm.trans y); show 48 ≤ B s; omega
                              · have := ssort_2.mp (hq.symm.trans y); show 48 ≤ B s; omega
                              · have := ssort_3.mp (hq.symm.trans y.1); show 48 ≤ B s; omega
                            · rcases g3 with y | y | y
                              · have := ssort_1.mp (z.trans y); omega
                              · have := ssort_2.mp (z.trans y); omega
                              · have := ssort_3.mp (z.trans y.1); omega
                          refine z_aload_n (pc := 139) C dX7_advance_139 0 rfl ?_
                          refine z_getf (pc := 140) C dX7_advance_140 fX7_19 (by assumption) (by first | rfl | assumption) ?_
                          refine z_aload_n (pc := 143) C dX7_advance_143 0 rfl ?_
                          refine z_getf (pc := 144) C dX7_advance_144 fX7_28 (by assumption) (by first | rfl | assumption) ?_
                          first | refine z_icmpgeN (pc := 147) C 257 dX7_advance_147 (by decide) (by omega) (by omega) (fun hc147 => ?_) (fun hc147 => ?_) | refine z_icmp_ge (pc := 147) C 257 dX7_advance_147 (by decide) (fun hc147 => ?_) (fun hc147 => ?_)
                          · omega
                          · skip
                            refine z_aload_n (pc := 150) C dX7_advance_150 0 rfl ?_
                            refine z_aload_n (pc := 151) C dX7_advance_151 0 rfl ?_
                            refine z_getf (pc := 152) C dX7_advance_152 fX7_37 (by assumption) (by first | rfl | assumption) ?_
                            refine z_ldc2 (pc := 155) C dX7_advance_155 kX7_51 ?_
                            refine z_topl (show (32 : Int64) = lN 32 from rfl) ?_
                            refine z_lmul (pc := 158) C dX7_advance_158 ?_
                            rw [lN_mul]
                            refine z_aload_n (pc := 159) C dX7_advance_159 0 rfl ?_
                            refine z_getf (pc := 160) C dX7_advance_160 fX7_9 (by assumption) (by first | rfl | assumption) ?_
                            refine z_aload_n (pc := 163) C dX7_advance_163 0 rfl ?_
                            refine z_getf (pc := 164) C dX7_advance_164 fX7_19 (by assumption) (by first | rfl | assumption) ?_
                            first | refine z_ialdN (pc := 167) C dX7_advance_167 (by assumption) (by omega) (by decide) ?_ | refine z_ialdI (pc := 167) C dX7_advance_167 (by assumption) (by omega) (by decide) ?_
                            refine z_bipush (pc := 168) C dX7_advance_168 (nI 31) (by decide) ?_
                            first | refine z_iandN (pc := 170) C dX7_advance_170 ?_ | refine z_iand (pc := 170) C dX7_advance_170 ?_
                            refine z_i2l (pc := 171) C dX7_advance_171 ?_
                            refine z_topl (nI_l (Nat.lt_of_le_of_lt Nat.and_le_right (by decide))) ?_
                            refine z_ladd (pc := 172) C dX7_advance_172 ?_
                            rw [lN_add]
                            refine z_putf (pc := 173) (fs' := [_, _, _, _, _, _, _, _]) C dX7_advance_173 gX7_37 (by assumption) (fun _ => ⟨rfl, rfl⟩) (by exact Nat.le_of_ble_eq_true rfl) (by rfl) ?_
                            refine z_aload_n (pc := 176) C dX7_advance_176 0 rfl ?_
                            refine z_aload_n (pc := 177) C dX7_advance_177 0 rfl ?_
                            refine z_getf (pc := 178) C dX7_advance_178 fX7_41 (zup_same _ _ _) (by first | rfl | assumption) ?_
                            refine z_bipush (pc := 181) C dX7_advance_181 (nI 10) (by decide) ?_
                            first | refine z_imulN (pc := 183) C dX7_advance_183 ?_ | refine z_imul (pc := 183) C dX7_advance_183 ?_
                            refine z_aload_n (pc := 184) C dX7_advance_184 0 rfl ?_
                            refine z_getf (pc := 185) C dX7_advance_185 fX7_9 (zup_same _ _ _) (by first | rfl | assumption) ?_
                            refine z_aload_n (pc := 188) C dX7_advance_188 0 rfl ?_
                            refine z_getf (pc := 189) C dX7_advance_189 fX7_19 (zup_same _ _ _) (by first | rfl | assumption) ?_
                            first | refine z_ialdN (pc := 192) C dX7_advance_192 ((zup_ne (by decide)).trans r3) (by omega) (by decide) ?_ | refine z_ialdI (pc := 192) C dX7_advance_192 ((zup_ne (by decide)).trans r3) (by omega) (by decide) ?_
                            refine z_bipush (pc := 193) C dX7_advance_193 (nI 48) (by decide) ?_
                            first | refine z_isubN (pc := 195) C dX7_advance_195 (by omega) ?_ | refine z_isub (pc := 195) C dX7_advance_195 ?_
                            first | refine z_iaddN (pc := 196) C dX7_advance_196 ?_ | refine z_iadd (pc := 196) C dX7_advance_196 ?_
                            refine z_putf (pc := 197) (fs' := [_, _, _, _, _, _, _, _]) C dX7_advance_197 gX7_41 (zup_same _ _ _) (fun _ => ⟨rfl, rfl⟩) (by exact Nat.le_of_ble_eq_true rfl) (by rfl) ?_
                            refine z_aload_n (pc := 200) C dX7_advance_200 0 rfl ?_
                            refine z_dup (pc := 201) C dX7_advance_201 rfl ?_
                            refine z_getf (pc := 202) C dX7_advance_202 fX7_19 (zup_same _ _ _) (by first | rfl | assumption) ?_
                            refine z_iconst (pc := 205) C dX7_advance_205 (nI 1) (by decide) ?_
                            first | refine z_iaddN (pc := 206) C dX7_advance_206 ?_ | refine z_iadd (pc := 206) C dX7_advance_206 ?_
                            refine z_putf (pc := 207) (fs' := [_, _, _, _, _, _, _, _]) C dX7_advance_207 gX7_19 (zup_same _ _ _) (fun _ => ⟨rfl, rfl⟩) (by exact Nat.le_of_ble_eq_true rfl) (by rfl) ?_
                            refine z_aload_n (pc := 210) C dX7_advance_210 0 rfl ?_
                            refine z_getf (pc := 211) C dX7_advance_211 fX7_48 (zup_same _ _ _) (by first | rfl | assumption) ?_
                            refine z_iconst (pc := 214) C dX7_advance_214 (nI 3) (by decide) ?_
                            first | refine z_icmpeqN (pc := 215) C 252 dX7_advance_215 (by decide) (by omega) (by omega) (fun hc215 => ?_) (fun hc215 => ?_) | refine z_icmp_eq (pc := 215) C 252 dX7_advance_215 (by decide) (fun hc215 => ?_) (fun hc215 => ?_)
                            · skip
                              have e9 := ih2 (f2 - 1) (by omega) (j + 1) false (zup (zup (zup h2 1002 (zO 4 (tpf len (nI q) (nI s) (nI (svl (fun i => B (s + i)) j)) (lN (scd (fun i => B (s + i)) j * 32 + (B (s + j) &&& 31))) (nI n0) (nI (s + j))))) 1002 (zO 4 (tpf len (nI q) (nI s) (nI (svl (fun i => B (s + i)) j * 10 + (B (s + j) - 48))) (lN (scd (fun i => B (s + i)) j * 32 + (B (s + j) &&& 31))) (nI n0) (nI (s + j))))) 1002 (zO 4 (tpf len (nI q) (nI s) (nI (svl (fun i => B (s + i)) j * 10 + (B (s + j) - 48))) (lN (scd (fun i => B (s + i)) j * 32 + (B (s + j) &&& 31))) (nI n0) (nI (s + j + 1))))) ⟨by omega, zup_same _ _ _, (fun z => by cases z), fun _ => (by unfold sE; rw [if_neg (by omega), if_pos hc215]; rcases g3 with y | y | y <;> omega), (fun a q1 => (zup_ne q1).trans ((zup_ne q1).trans ((zup_ne q1).trans (F2 a q1))))⟩
                              refine z_iconst (pc := 252) C dX7_advance_252 (zb false) (by decide) ?_
                              refine z_istore_n (pc := 253) (lv' := [(2, _), (0, _), (1, _)]) C dX7_advance_253 (by decide) rfl ?_
                              refine z_goto (pc := 254) C 135 dX7_advance_254 (by decide) ?_
                              refine z_sub (lv' := [(0, _), (1, _), (2, _)]) [1, 2, 0] rfl ?_
                              exact e9
                            · skip
                              have e7 : ssort (B (s + j)) = q := by
                                rcases g2 with z | z
                                · subst z; exact hq.symm
                                · exact z
                              refine z_aload_n (pc := 218) C dX7_advance_218 0 rfl ?_
                              refine z_getf (pc := 219) C dX7_advance_219 fX7_19 (zup_same _ _ _) (by first | rfl | assumption) ?_
                              refine z_aload_n (pc := 222) C dX7_advance_222 0 rfl ?_
                              refine z_getf (pc := 223) C dX7_advance_223 fX7_28 (zup_same _ _ _) (by first | rfl | assumption) ?_
                              first | refine z_icmpgeN (pc := 226) C 252 dX7_advance_226 (by decide) (by omega) (by omega) (fun hc226 => ?_) (fun hc226 => ?_) | refine z_icmp_ge (pc := 226) C 252 dX7_advance_226 (by decide) (fun hc226 => ?_) (fun hc226 => ?_)
                              · skip
                                have e9 := ih2 (f2 - 1) (by omega) (j + 1) false (zup (zup (zup h2 1002 (zO 4 (tpf len (nI q) (nI s) (nI (svl (fun i => B (s + i)) j)) (lN (scd (fun i => B (s + i)) j * 32 + (B (s + j) &&& 31))) (nI n0) (nI (s + j))))) 1002 (zO 4 (tpf len (nI q) (nI s) (nI (svl (fun i => B (s + i)) j * 10 + (B (s + j) - 48))) (lN (scd (fun i => B (s + i)) j * 32 + (B (s + j) &&& 31))) (nI n0) (nI (s + j))))) 1002 (zO 4 (tpf len (nI q) (nI s) (nI (svl (fun i => B (s + i)) j * 10 + (B (s + j) - 48))) (lN (scd (fun i => B (s + i)) j * 32 + (B (s + j) &&& 31))) (nI n0) (nI (s + j + 1))))) ⟨by omega, zup_same _ _ _, (fun z => by cases z), fun _ => (by unfold sE; rw [if_pos (by rcases g3 with y | y | y <;> omega), g4 (by omega), sre_t g1 e7, sre_f (fun z => by omega)]; omega), (fun a q1 => (zup_ne q1).trans ((zup_ne q1).trans ((zup_ne q1).trans (F2 a q1))))⟩
                                refine z_iconst (pc := 252) C dX7_advance_252 (zb false) (by decide) ?_
                                refine z_istore_n (pc := 253) (lv' := [(2, _), (0, _), (1, _)]) C dX7_advance_253 (by decide) rfl ?_
                                refine z_goto (pc := 254) C 135 dX7_advance_254 (by decide) ?_
                                refine z_sub (lv' := [(0, _), (1, _), (2, _)]) [1, 2, 0] rfl ?_
                                exact e9
                              · skip
                                refine z_aload_n (pc := 229) C dX7_advance_229 0 rfl ?_
                                refine z_getf (pc := 230) C dX7_advance_230 fX7_9 (zup_same _ _ _) (by first | rfl | assumption) ?_
                                refine z_aload_n (pc := 233) C dX7_advance_233 0 rfl ?_
                                refine z_getf (pc := 234) C dX7_advance_234 fX7_19 (zup_same _ _ _) (by first | rfl | assumption) ?_
                                first | refine z_ialdN (pc := 237) C dX7_advance_237 ((zup_ne (by decide)).trans ((zup_ne (by decide)).trans ((zup_ne (by decide)).trans r3))) (by omega) (by decide) ?_ | refine z_ialdI (pc := 237) C dX7_advance_237 ((zup_ne (by decide)).trans ((zup_ne (by decide)).trans ((zup_ne (by decide)).trans r3))) (by omega) (by decide) ?_
                                refine z_cS1 (pc := 238) mX7_sortOf C [_] dX7_advance_238 lX7_44 mtX7_sortOf (tX7_sortOf (by have := hB (s + j + 1) (by omega); omega)) rfl rfl (by decide) (Nat.le_of_ble_eq_true rfl) (Nat.zero_le _) (Nat.zero_le _) ?_
                                refine z_aload_n (pc := 241) C dX7_advance_241 0 rfl ?_
                                refine z_getf (pc := 242) C dX7_advance_242 fX7_48 (zup_same _ _ _) (by first | rfl | assumption) ?_
                                have b4 := ssort_le (B (s + j + 1))
                                first | refine z_icmpneN (pc := 245) C 252 dX7_advance_245 (by decide) (by omega) (by omega) (fun hc245 => ?_) (fun hc245 => ?_) | refine z_icmp_ne (pc := 245) C 252 dX7_advance_245 (by decide) (fun hc245 => ?_) (fun hc245 => ?_)
                                · skip
                                  have e9 := ih2 (f2 - 1) (by omega) (j + 1) false (zup (zup (zup h2 1002 (zO 4 (tpf len (nI q) (nI s) (nI (svl (fun i => B (s + i)) j)) (lN (scd (fun i => B (s + i)) j * 32 + (B (s + j) &&& 31))) (nI n0) (nI (s + j))))) 1002 (zO 4 (tpf len (nI q) (nI s) (nI (svl (fun i => B (s + i)) j * 10 + (B (s + j) - 48))) (lN (scd (fun i => B (s + i)) j * 32 + (B (s + j) &&& 31))) (nI n0) (nI (s + j))))) 1002 (zO 4 (tpf len (nI q) (nI s) (nI (svl (fun i => B (s + i)) j * 10 + (B (s + j) - 48))) (lN (scd (fun i => B (s + i)) j * 32 + (B (s + j) &&& 31))) (nI n0) (nI (s + j + 1))))) ⟨by omega, zup_same _ _ _, (fun z => by cases z), fun _ => (by unfold sE; rw [if_pos (by rcases g3 with y | y | y <;> omega), g4 (by omega), sre_t g1 e7, sre_f (fun z => hc245 z.2)]; omega), (fun a q1 => (zup_ne q1).trans ((zup_ne q1).trans ((zup_ne q1).trans (F2 a q1))))⟩
                                  refine z_iconst (pc := 252) C dX7_advance_252 (zb false) (by decide) ?_
                                  refine z_istore_n (pc := 253) (lv' := [(2, _), (0, _), (1, _)]) C dX7_advance_253 (by decide) rfl ?_
                                  refine z_goto (pc := 254) C 135 dX7_advance_254 (by decide) ?_
                                  refine z_sub (lv' := [(0, _), (1, _), (2, _)]) [1, 2, 0] rfl ?_
                                  exact e9
                                · skip
                                  have e9 := ih2 (f2 - 1) (by omega) (j + 1) true (zup (zup (zup h2 1002 (zO 4 (tpf len (nI q) (nI s) (nI (svl (fun i => B (s + i)) j)) (lN (scd (fun i => B (s + i)) j * 32 + (B (s + j) &&& 31))) (nI n0) (nI (s + j))))) 1002 (zO 4 (tpf len (nI q) (nI s) (nI (svl (fun i => B (s + i)) j * 10 + (B (s + j) - 48))) (lN (scd (fun i => B (s + i)) j * 32 + (B (s + j) &&& 31))) (nI n0) (nI (s + j))))) 1002 (zO 4 (tpf len (nI q) (nI s) (nI (svl (fun i => B (s + i)) j * 10 + (B (s + j) - 48))) (lN (scd (fun i => B (s + i)) j * 32 + (B (s + j) &&& 31))) (nI n0) (nI (s + j + 1))))) ⟨by omega, zup_same _ _ _, fun _ => ⟨by omega, Or.inr hc245, (by rcases g3 with y | y | y <;> omega), fun _ => (by rw [g4 (by omega), sre_t g1 e7]; rfl)⟩, (fun z => by cases z), (fun a q1 => (zup_ne q1).trans ((zup_ne q1).trans ((zup_ne q1).trans (F2 a q1))))⟩
                                  refine z_iconst (pc := 248) C dX7_advance_248 (zb true) (by decide) ?_
                                  refine z_goto (pc := 249) C 253 dX7_advance_249 (by decide) ?_
                                  refine z_istore_n (pc := 253) (lv' := [(2, _), (0, _), (1, _)]) C dX7_advance_253 (by decide) rfl ?_
                                  refine z_goto (pc := 254) C 135 dX7_advance_254 (by decide) ?_
                                  refine z_sub (lv' := [(0, _), (1, _), (2, _)]) [1, 2, 0] rfl ?_
                                  exact e9
                    first | exact lp135 (n0 - s) 0 true _ ⟨by omega, zup_same _ _ _, fun _ => ⟨by omega, Or.inl rfl, by omega, fun _ => rfl⟩, (fun z => by cases z), (fun a q1 => (zup_ne q1).trans ((zup_ne q1).trans ((zup_ne q1).trans ((zup_ne q1).trans (F1 a q1)))))⟩ | exact lp135 (n0 - s) 0 false _ ⟨by omega, zup_same _ _ _, (fun z => by cases z), fun _ => (by unfold sE; rw [if_neg (by omega), if_neg (by omega)]; rfl), (fun a q1 => (zup_ne q1).trans ((zup_ne q1).trans ((zup_ne q1).trans ((zup_ne q1).trans (F1 a q1)))))⟩
              · skip
                refine z_iconst (pc := 108) C dX7_advance_108 (nI 3) (by decide) ?_
                refine z_top (show nI 3 = nI (smo q) from by unfold smo; rw [if_neg hc92, if_pos hc105]) ?_
                refine z_goto (pc := 109) C 113 dX7_advance_109 (by decide) ?_
                refine z_istore_n (pc := 113) (lv' := [(1, _), (0, _)]) C dX7_advance_113 (by decide) rfl ?_
                refine z_aload_n (pc := 114) C dX7_advance_114 1 rfl ?_
                refine z_getf (pc := 115) C dX7_advance_115 fX7_48 (zup_same _ _ _) (by first | rfl | assumption) ?_
                first | refine z_ifeqB (pc := 118) C 133 dX7_advance_118 (by decide) (fun hc118 => ?_) (fun hc118 => ?_) | refine z_ifeqN (pc := 118) C 133 dX7_advance_118 (by decide) (by omega) (fun hc118 => ?_) (fun hc118 => ?_) | refine z_if_eq (pc := 118) C 133 dX7_advance_118 (by decide) (fun hc118 => ?_) (fun hc118 => ?_)
                · omega
                · skip
                  refine z_aload_n (pc := 121) C dX7_advance_121 1 rfl ?_
                  refine z_getf (pc := 122) C dX7_advance_122 fX7_48 (zup_same _ _ _) (by first | rfl | assumption) ?_
                  refine z_iconst (pc := 125) C dX7_advance_125 (nI 4) (by decide) ?_
                  first | refine z_icmpeqN (pc := 126) C 133 dX7_advance_126 (by decide) (by omega) (by omega) (fun hc126 => ?_) (fun hc126 => ?_) | refine z_icmp_eq (pc := 126) C 133 dX7_advance_126 (by decide) (fun hc126 => ?_) (fun hc126 => ?_)
                  · omega
                  · skip
                    refine z_iconst (pc := 129) C dX7_advance_129 (zb true) (by decide) ?_
                    refine z_goto (pc := 130) C 134 dX7_advance_130 (by decide) ?_
                    refine z_istore_n (pc := 134) (lv' := [(2, _), (1, _), (0, _)]) C dX7_advance_134 (by decide) rfl ?_
                    refine z_sub (lv' := [(0, _), (1, _), (2, _)]) [2, 1, 0] rfl ?_
                    have lp135 : ∀ (f2 : Nat) (j : Nat) (g : Bool) (h2 : ZH), (s + j + f2 = n0 ∧ h2 1002 = some (zO 4 (tpf len (nI q) (nI s) (nI (svl (fun i => B (s + i)) j)) (lN (scd (fun i => B (s + i)) j)) (nI n0) (nI (s + j)))) ∧ (g = true → s + j < n0 ∧ (j = 0 ∨ ssort (B (s + j)) = q) ∧ (q = 1 ∨ q = 2 ∨ q = 3 ∧ j = 0) ∧ (q ≠ 3 → sre B n0 q (n0 - s) s = sre B n0 q (n0 - (s + j)) (s + j))) ∧ (g = false → s + j = sE B n0 q s) ∧ ∀ a, a ≠ 1002 → h2 a = h a) → Zc X mX7_advance (zEnd X (fun r hh n' => r = none ∧ (TpA hh len n0 B (stok B n0 k) ∧ ∀ a, a ≠ 1002 → hh a = h a) ∧ n' = n) 0 0) 135 [(0, .ref 1002), (1, .int (nI (smo q))), (2, .int (zb g))] [] h2 n 0 0 := by
                      intro f2
                      induction f2 using Nat.strongRecOn with
                      | _ f2 ih2 =>
                        intro j g h2 hk2
                        obtain ⟨hk2, r2, gt, gf, F2⟩ := hk2
                        have r3 : h2 1003 = _ := (F2 1003 (by decide)).trans hT3
                        refine z_iload_n (pc := 135) C dX7_advance_135 2 rfl ?_
                        first | refine z_ifeqB (pc := 136) C 257 dX7_advance_136 (by decide) (fun hc136 => ?_) (fun hc136 => ?_) | refine z_ifeqN (pc := 136) C 257 dX7_advance_136 (by decide) (by omega) (fun hc136 => ?_) (fun hc136 => ?_) | refine z_if_eq (pc := 136) C 257 dX7_advance_136 (by decide) (fun hc136 => ?_) (fun hc136 => ?_)
                        · skip
                          have e6 := gf hc136
                          refine z_aload_n (pc := 257) C dX7_advance_257 0 rfl ?_
                          refine z_getf (pc := 258) C dX7_advance_258 fX7_19 (by assumption) (by first | rfl | assumption) ?_
                          refine z_aload_n (pc := 261) C dX7_advance_261 0 rfl ?_
                          refine z_getf (pc := 262) C dX7_advance_262 fX7_34 (by assumption) (by first | rfl | assumption) ?_
                          first | refine z_isubN (pc := 265) C dX7_advance_265 (by omega) ?_ | refine z_isub (pc := 265) C dX7_advance_265 ?_
                          refine z_iload_n (pc := 266) C dX7_advance_266 1 rfl ?_
                          have hmo := smo_le q
                          first | refine z_icmpleN (pc := 267) C 275 dX7_advance_267 (by decide) (by omega) (by omega) (fun hc267 => ?_) (fun hc267 => ?_) | refine z_icmp_le (pc := 267) C 275 dX7_advance_267 (by decide) (fun hc267 => ?_) (fun hc267 => ?_)
                          · skip
                            have et : stok B n0 k = (q, s, s + j) := by unfold stok; rw [hs, hqt]; unfold stq; rw [← e6, if_pos hc267]
                            refine z_vret (pc := 275) C dX7_advance_275 rfl (Nat.zero_le _) (Nat.zero_le _) ⟨rfl, ?_, rfl⟩
                            rw [et]; first | exact ⟨⟨r3, by rw [show ((q, s, s + j) : Nat × Nat × Nat).2.2 - ((q, s, s + j) : Nat × Nat × Nat).2.1 = j from Nat.add_sub_cancel_left s j]; exact r2⟩, F2⟩ | exact ⟨⟨(zup_ne (by decide)).trans r3, by rw [show ((4, s, s + j) : Nat × Nat × Nat).2.2 - ((4, s, s + j) : Nat × Nat × Nat).2.1 = j from Nat.add_sub_cancel_left s j]; exact zup_same _ _ _⟩, fun a q1 => (zup_ne q1).trans (F2 a q1)⟩
                          · skip
                            have et : stok B n0 k = (4, s, s + j) := by unfold stok; rw [hs, hqt]; unfold stq; rw [← e6, if_neg (by omega)]
                            refine z_aload_n (pc := 270) C dX7_advance_270 0 rfl ?_
                            refine z_iconst (pc := 271) C dX7_advance_271 (nI 4) (by decide) ?_
                            refine z_putf (pc := 272) (fs' := [_, _, _, _, _, _, _, _]) C dX7_advance_272 gX7_48 (by assumption) (fun _ => ⟨rfl, rfl⟩) (by exact Nat.le_of_ble_eq_true rfl) (by rfl) ?_
                            refine z_vret (pc := 275) C dX7_advance_275 rfl (Nat.zero_le _) (Nat.zero_le _) ⟨rfl, ?_, rfl⟩
                            rw [et]; first | exact ⟨⟨r3, by rw [show ((q, s, s + j) : Nat × Nat × Nat).2.2 - ((q, s, s + j) : Nat × Nat × Nat).2.1 = j from Nat.add_sub_cancel_left s j]; exact r2⟩, F2⟩ | exact ⟨⟨(zup_ne (by decide)).trans r3, by rw [show ((4, s, s + j) : Nat × Nat × Nat).2.2 - ((4, s, s + j) : Nat × Nat × Nat).2.1 = j from Nat.add_sub_cancel_left s j]; exact zup_same _ _ _⟩, fun a q1 => (zup_ne q1).trans (F2 a q1)⟩
                        · skip
                          obtain ⟨g1, g2, g3, g4⟩ := gt hc136
                          have b1 := hB (s + j) g1
                          have b2 : 48 ≤ B (s + j) := by
                            rcases g2 with z | z
                            · subst z
                              rcases g3 with y | y | y
                              · have := ssort_1.mp (hq.symm.trans y); show 48 ≤ B s; omega
                              · have := ssort_2.mp (hq.symm.trans y); show 48 ≤ B s; omega
                              · have := ssort_3.mp (hq.symm.trans y.1); show 48 ≤ B s; omega
                            · rcases g3 with y | y | y
                              · have := ssort_1.mp (z.trans y); omega
                              · have := ssort_2.mp (z.trans y); omega
                              · have := ssort_3.mp (z.trans y.1); omega
                          refine z_aload_n (pc := 139) C dX7_advance_139 0 rfl ?_
                          refine z_getf (pc := 140) C dX7_advance_140 fX7_19 (by assumption) (by first | rfl | assumption) ?_
                          refine z_aload_n (pc := 143) C dX7_advance_143 0 rfl ?_
                          refine z_getf (pc := 144) C dX7_advance_144 fX7_28 (by assumption) (by first | rfl | assumption) ?_
                          first | refine z_icmpgeN (pc := 147) C 257 dX7_advance_147 (by decide) (by omega) (by omega) (fun hc147 => ?_) (fun hc147 => ?_) | refine z_icmp_ge (pc := 147) C 257 dX7_advance_147 (by decide) (fun hc147 => ?_) (fun hc147 => ?_)
                          · omega
                          · skip
                            refine z_aload_n (pc := 150) C dX7_advance_150 0 rfl ?_
                            refine z_aload_n (pc := 151) C dX7_advance_151 0 rfl ?_
                            refine z_getf (pc := 152) C dX7_advance_152 fX7_37 (by assumption) (by first | rfl | assumption) ?_
                            refine z_ldc2 (pc := 155) C dX7_advance_155 kX7_51 ?_
                            refine z_topl (show (32 : Int64) = lN 32 from rfl) ?_
                            refine z_lmul (pc := 158) C dX7_advance_158 ?_
                            rw [lN_mul]
                            refine z_aload_n (pc := 159) C dX7_advance_159 0 rfl ?_
                            refine z_getf (pc := 160) C dX7_advance_160 fX7_9 (by assumption) (by first | rfl | assumption) ?_
                            refine z_aload_n (pc := 163) C dX7_advance_163 0 rfl ?_
                            refine z_getf (pc := 164) C dX7_advance_164 fX7_19 (by assumption) (by first | rfl | assumption) ?_
                            first | refine z_ialdN (pc := 167) C dX7_advance_167 (by assumption) (by omega) (by decide) ?_ | refine z_ialdI (pc := 167) C dX7_advance_167 (by assumption) (by omega) (by decide) ?_
                            refine z_bipush (pc := 168) C dX7_advance_168 (nI 31) (by decide) ?_
                            first | refine z_iandN (pc := 170) C dX7_advance_170 ?_ | refine z_iand (pc := 170) C dX7_advance_170 ?_
                            refine z_i2l (pc := 171) C dX7_advance_171 ?_
                            refine z_topl (nI_l (Nat.lt_of_le_of_lt Nat.and_le_right (by decide))) ?_
                            refine z_ladd (pc := 172) C dX7_advance_172 ?_
                            rw [lN_add]
                            refine z_putf (pc := 173) (fs' := [_, _, _, _, _, _, _, _]) C dX7_advance_173 gX7_37 (by assumption) (fun _ => ⟨rfl, rfl⟩) (by exact Nat.le_of_ble_eq_true rfl) (by rfl) ?_
                            refine z_aload_n (pc := 176) C dX7_advance_176 0 rfl ?_
                            refine z_aload_n (pc := 177) C dX7_advance_177 0 rfl ?_
                            refine z_getf (pc := 178) C dX7_advance_178 fX7_41 (zup_same _ _ _) (by first | rfl | assumption) ?_
                            refine z_bipush (pc := 181) C dX7_advance_181 (nI 10) (by decide) ?_
                            first | refine z_imulN (pc := 183) C dX7_advance_183 ?_ | refine z_imul (pc := 183) C dX7_advance_183 ?_
                            refine z_aload_n (pc := 184) C dX7_advance_184 0 rfl ?_
                            refine z_getf (pc := 185) C dX7_advance_185 fX7_9 (zup_same _ _ _) (by first | rfl | assumption) ?_
                            refine z_aload_n (pc := 188) C dX7_advance_188 0 rfl ?_
                            refine z_getf (pc := 189) C dX7_advance_189 fX7_19 (zup_same _ _ _) (by first | rfl | assumption) ?_
                            first | refine z_ialdN (pc := 192) C dX7_advance_192 ((zup_ne (by decide)).trans r3) (by omega) (by decide) ?_ | refine z_ialdI (pc := 192) C dX7_advance_192 ((zup_ne (by decide)).trans r3) (by omega) (by decide) ?_
                            refine z_bipush (pc := 193) C dX7_advance_193 (nI 48) (by decide) ?_
                            first | refine z_isubN (pc := 195) C dX7_advance_195 (by omega) ?_ | refine z_isub (pc := 195) C dX7_advance_195 ?_
                            first | refine z_iaddN (pc := 196) C dX7_advance_196 ?_ | refine z_iadd (pc := 196) C dX7_advance_196 ?_
                            refine z_putf (pc := 197) (fs' := [_, _, _, _, _, _, _, _]) C dX7_advance_197 gX7_41 (zup_same _ _ _) (fun _ => ⟨rfl, rfl⟩) (by exact Nat.le_of_ble_eq_true rfl) (by rfl) ?_
                            refine z_aload_n (pc := 200) C dX7_advance_200 0 rfl ?_
                            refine z_dup (pc := 201) C dX7_advance_201 rfl ?_
                            refine z_getf (pc := 202) C dX7_advance_202 fX7_19 (zup_same _ _ _) (by first | rfl | assumption) ?_
                            refine z_iconst (pc := 205) C dX7_advance_205 (nI 1) (by decide) ?_
                            first | refine z_iaddN (pc := 206) C dX7_advance_206 ?_ | refine z_iadd (pc := 206) C dX7_advance_206 ?_
                            refine z_putf (pc := 207) (fs' := [_, _, _, _, _, _, _, _]) C dX7_advance_207 gX7_19 (zup_same _ _ _) (fun _ => ⟨rfl, rfl⟩) (by exact Nat.le_of_ble_eq_true rfl) (by rfl) ?_
                            refine z_aload_n (pc := 210) C dX7_advance_210 0 rfl ?_
                            refine z_getf (pc := 211) C dX7_advance_211 fX7_48 (zup_same _ _ _) (by first | rfl | assumption) ?_
                            refine z_iconst (pc := 214) C dX7_advance_214 (nI 3) (by decide) ?_
                            first | refine z_icmpeqN (pc := 215) C 252 dX7_advance_215 (by decide) (by omega) (by omega) (fun hc215 => ?_) (fun hc215 => ?_) | refine z_icmp_eq (pc := 215) C 252 dX7_advance_215 (by decide) (fun hc215 => ?_) (fun hc215 => ?_)
                            · skip
                              have e9 := ih2 (f2 - 1) (by omega) (j + 1) false (zup (zup (zup h2 1002 (zO 4 (tpf len (nI q) (nI s) (nI (svl (fun i => B (s + i)) j)) (lN (scd (fun i => B (s + i)) j * 32 + (B (s + j) &&& 31))) (nI n0) (nI (s + j))))) 1002 (zO 4 (tpf len (nI q) (nI s) (nI (svl (fun i => B (s + i)) j * 10 + (B (s + j) - 48))) (lN (scd (fun i => B (s + i)) j * 32 + (B (s + j) &&& 31))) (nI n0) (nI (s + j))))) 1002 (zO 4 (tpf len (nI q) (nI s) (nI (svl (fun i => B (s + i)) j * 10 + (B (s + j) - 48))) (lN (scd (fun i => B (s + i)) j * 32 + (B (s + j) &&& 31))) (nI n0) (nI (s + j + 1))))) ⟨by omega, zup_same _ _ _, (fun z => by cases z), fun _ => (by unfold sE; rw [if_neg (by omega), if_pos hc215]; rcases g3 with y | y | y <;> omega), (fun a q1 => (zup_ne q1).trans ((zup_ne q1).trans ((zup_ne q1).trans (F2 a q1))))⟩
                              refine z_iconst (pc := 252) C dX7_advance_252 (zb false) (by decide) ?_
                              refine z_istore_n (pc := 253) (lv' := [(2, _), (0, _), (1, _)]) C dX7_advance_253 (by decide) rfl ?_
                              refine z_goto (pc := 254) C 135 dX7_advance_254 (by decide) ?_
                              refine z_sub (lv' := [(0, _), (1, _), (2, _)]) [1, 2, 0] rfl ?_
                              exact e9
                            · skip
                              have e7 : ssort (B (s + j)) = q := by
                                rcases g2 with z | z
                                · subst z; exact hq.symm
                                · exact z
                              refine z_aload_n (pc := 218) C dX7_advance_218 0 rfl ?_
                              refine z_getf (pc := 219) C dX7_advance_219 fX7_19 (zup_same _ _ _) (by first | rfl | assumption) ?_
                              refine z_aload_n (pc := 222) C dX7_advance_222 0 rfl ?_
                              refine z_getf (pc := 223) C dX7_advance_223 fX7_28 (zup_same _ _ _) (by first | rfl | assumption) ?_
                              first | refine z_icmpgeN (pc := 226) C 252 dX7_advance_226 (by decide) (by omega) (by omega) (fun hc226 => ?_) (fun hc226 => ?_) | refine z_icmp_ge (pc := 226) C 252 dX7_advance_226 (by decide) (fun hc226 => ?_) (fun hc226 => ?_)
                              · skip
                                have e9 := ih2 (f2 - 1) (by omega) (j + 1) false (zup (zup (zup h2 1002 (zO 4 (tpf len (nI q) (nI s) (nI (svl (fun i => B (s + i)) j)) (lN (scd (fun i => B (s + i)) j * 32 + (B (s + j) &&& 31))) (nI n0) (nI (s + j))))) 1002 (zO 4 (tpf len (nI q) (nI s) (nI (svl (fun i => B (s + i)) j * 10 + (B (s + j) - 48))) (lN (scd (fun i => B (s + i)) j * 32 + (B (s + j) &&& 31))) (nI n0) (nI (s + j))))) 1002 (zO 4 (tpf len (nI q) (nI s) (nI (svl (fun i => B (s + i)) j * 10 + (B (s + j) - 48))) (lN (scd (fun i => B (s + i)) j * 32 + (B (s + j) &&& 31))) (nI n0) (nI (s + j + 1))))) ⟨by omega, zup_same _ _ _, (fun z => by cases z), fun _ => (by unfold sE; rw [if_pos (by rcases g3 with y | y | y <;> omega), g4 (by omega), sre_t g1 e7, sre_f (fun z => by omega)]; omega), (fun a q1 => (zup_ne q1).trans ((zup_ne q1).trans ((zup_ne q1).trans (F2 a q1))))⟩
                                refine z_iconst (pc := 252) C dX7_advance_252 (zb false) (by decide) ?_
                                refine z_istore_n (pc := 253) (lv' := [(2, _), (0, _), (1, _)]) C dX7_advance_253 (by decide) rfl ?_
                                refine z_goto (pc := 254) C 135 dX7_advance_254 (by decide) ?_
                                refine z_sub (lv' := [(0, _), (1, _), (2, _)]) [1, 2, 0] rfl ?_
                                exact e9
                              · skip
                                refine z_aload_n (pc := 229) C dX7_advance_229 0 rfl ?_
                                refine z_getf (pc := 230) C dX7_advance_230 fX7_9 (zup_same _ _ _) (by first | rfl | assumption) ?_
                                refine z_aload_n (pc := 233) C dX7_advance_233 0 rfl ?_
                                refine z_getf (pc := 234) C dX7_advance_234 fX7_19 (zup_same _ _ _) (by first | rfl | assumption) ?_
                                first | refine z_ialdN (pc := 237) C dX7_advance_237 ((zup_ne (by decide)).trans ((zup_ne (by decide)).trans ((zup_ne (by decide)).trans r3))) (by omega) (by decide) ?_ | refine z_ialdI (pc := 237) C dX7_advance_237 ((zup_ne (by decide)).trans ((zup_ne (by decide)).trans ((zup_ne (by decide)).trans r3))) (by omega) (by decide) ?_
                                refine z_cS1 (pc := 238) mX7_sortOf C [_] dX7_advance_238 lX7_44 mtX7_sortOf (tX7_sortOf (by have := hB (s + j + 1) (by omega); omega)) rfl rfl (by decide) (Nat.le_of_ble_eq_true rfl) (Nat.zero_le _) (Nat.zero_le _) ?_
                                refine z_aload_n (pc := 241) C dX7_advance_241 0 rfl ?_
                                refine z_getf (pc := 242) C dX7_advance_242 fX7_48 (zup_same _ _ _) (by first | rfl | assumption) ?_
                                have b4 := ssort_le (B (s + j + 1))
                                first | refine z_icmpneN (pc := 245) C 252 dX7_advance_245 (by decide) (by omega) (by omega) (fun hc245 => ?_) (fun hc245 => ?_) | refine z_icmp_ne (pc := 245) C 252 dX7_advance_245 (by decide) (fun hc245 => ?_) (fun hc245 => ?_)
                                · skip
                                  have e9 := ih2 (f2 - 1) (by omega) (j + 1) false (zup (zup (zup h2 1002 (zO 4 (tpf len (nI q) (nI s) (nI (svl (fun i => B (s + i)) j)) (lN (scd (fun i => B (s + i)) j * 32 + (B (s + j) &&& 31))) (nI n0) (nI (s + j))))) 1002 (zO 4 (tpf len (nI q) (nI s) (nI (svl (fun i => B (s + i)) j * 10 + (B (s + j) - 48))) (lN (scd (fun i => B (s + i)) j * 32 + (B (s + j) &&& 31))) (nI n0) (nI (s + j))))) 1002 (zO 4 (tpf len (nI q) (nI s) (nI (svl (fun i => B (s + i)) j * 10 + (B (s + j) - 48))) (lN (scd (fun i => B (s + i)) j * 32 + (B (s + j) &&& 31))) (nI n0) (nI (s + j + 1))))) ⟨by omega, zup_same _ _ _, (fun z => by cases z), fun _ => (by unfold sE; rw [if_pos (by rcases g3 with y | y | y <;> omega), g4 (by omega), sre_t g1 e7, sre_f (fun z => hc245 z.2)]; omega), (fun a q1 => (zup_ne q1).trans ((zup_ne q1).trans ((zup_ne q1).trans (F2 a q1))))⟩
                                  refine z_iconst (pc := 252) C dX7_advance_252 (zb false) (by decide) ?_
                                  refine z_istore_n (pc := 253) (lv' := [(2, _), (0, _), (1, _)]) C dX7_advance_253 (by decide) rfl ?_
                                  refine z_goto (pc := 254) C 135 dX7_advance_254 (by decide) ?_
                                  refine z_sub (lv' := [(0, _), (1, _), (2, _)]) [1, 2, 0] rfl ?_
                                  exact e9
                                · skip
                                  have e9 := ih2 (f2 - 1) (by omega) (j + 1) true (zup (zup (zup h2 1002 (zO 4 (tpf len (nI q) (nI s) (nI (svl (fun i => B (s + i)) j)) (lN (scd (fun i => B (s + i)) j * 32 + (B (s + j) &&& 31))) (nI n0) (nI (s + j))))) 1002 (zO 4 (tpf len (nI q) (nI s) (nI (svl (fun i => B (s + i)) j * 10 + (B (s + j) - 48))) (lN (scd (fun i => B (s + i)) j * 32 + (B (s + j) &&& 31))) (nI n0) (nI (s + j))))) 1002 (zO 4 (tpf len (nI q) (nI s) (nI (svl (fun i => B (s + i)) j * 10 + (B (s + j) - 48))) (lN (scd (fun i => B (s + i)) j * 32 + (B (s + j) &&& 31))) (nI n0) (nI (s + j + 1))))) ⟨by omega, zup_same _ _ _, fun _ => ⟨by omega, Or.inr hc245, (by rcases g3 with y | y | y <;> omega), fun _ => (by rw [g4 (by omega), sre_t g1 e7]; rfl)⟩, (fun z => by cases z), (fun a q1 => (zup_ne q1).trans ((zup_ne q1).trans ((zup_ne q1).trans (F2 a q1))))⟩
                                  refine z_iconst (pc := 248) C dX7_advance_248 (zb true) (by decide) ?_
                                  refine z_goto (pc := 249) C 253 dX7_advance_249 (by decide) ?_
                                  refine z_istore_n (pc := 253) (lv' := [(2, _), (0, _), (1, _)]) C dX7_advance_253 (by decide) rfl ?_
                                  refine z_goto (pc := 254) C 135 dX7_advance_254 (by decide) ?_
                                  refine z_sub (lv' := [(0, _), (1, _), (2, _)]) [1, 2, 0] rfl ?_
                                  exact e9
                    first | exact lp135 (n0 - s) 0 true _ ⟨by omega, zup_same _ _ _, fun _ => ⟨by omega, Or.inl rfl, by omega, fun _ => rfl⟩, (fun z => by cases z), (fun a q1 => (zup_ne q1).trans ((zup_ne q1).trans ((zup_ne q1).trans ((zup_ne q1).trans (F1 a q1)))))⟩ | exact lp135 (n0 - s) 0 false _ ⟨by omega, zup_same _ _ _, (fun z => by cases z), fun _ => (by unfold sE; rw [if_neg (by omega), if_neg (by omega)]; rfl), (fun a q1 => (zup_ne q1).trans ((zup_ne q1).trans ((zup_ne q1).trans ((zup_ne q1).trans (F1 a q1)))))⟩
            · skip
              refine z_bipush (pc := 95) C dX7_advance_95 (nI 8) (by decide) ?_
              refine z_top (show nI 8 = nI (smo q) from by unfold smo; rw [if_pos hc92]) ?_
              refine z_goto (pc := 97) C 113 dX7_advance_97 (by decide) ?_
              refine z_istore_n (pc := 113) (lv' := [(1, _), (0, _)]) C dX7_advance_113 (by decide) rfl ?_
              refine z_aload_n (pc := 114) C dX7_advance_114 1 rfl ?_
              refine z_getf (pc := 115) C dX7_advance_115 fX7_48 (zup_same _ _ _) (by first | rfl | assumption) ?_
              first | refine z_ifeqB (pc := 118) C 133 dX7_advance_118 (by decide) (fun hc118 => ?_) (fun hc118 => ?_) | refine z_ifeqN (pc := 118) C 133 dX7_advance_118 (by decide) (by omega) (fun hc118 => ?_) (fun hc118 => ?_) | refine z_if_eq (pc := 118) C 133 dX7_advance_118 (by decide) (fun hc118 => ?_) (fun hc118 => ?_)
              · omega
              · skip
                refine z_aload_n (pc := 121) C dX7_advance_121 1 rfl ?_
                refine z_getf (pc := 122) C dX7_advance_122 fX7_48 (zup_same _ _ _) (by first | rfl | assumption) ?_
                refine z_iconst (pc := 125) C dX7_advance_125 (nI 4) (by decide) ?_
                first | refine z_icmpeqN (pc := 126) C 133 dX7_advance_126 (by decide) (by omega) (by omega) (fun hc126 => ?_) (fun hc126 => ?_) | refine z_icmp_eq (pc := 126) C 133 dX7_advance_126 (by decide) (fun hc126 => ?_) (fun hc126 => ?_)
                · omega
                · skip
                  refine z_iconst (pc := 129) C dX7_advance_129 (zb true) (by decide) ?_
                  refine z_goto (pc := 130) C 134 dX7_advance_130 (by decide) ?_
                  refine z_istore_n (pc := 134) (lv' := [(2, _), (1, _), (0, _)]) C dX7_advance_134 (by decide) rfl ?_
                  refine z_sub (lv' := [(0, _), (1, _), (2, _)]) [2, 1, 0] rfl ?_
                  have lp135 : ∀ (f2 : Nat) (j : Nat) (g : Bool) (h2 : ZH), (s + j + f2 = n0 ∧ h2 1002 = some (zO 4 (tpf len (nI q) (nI s) (nI (svl (fun i => B (s + i)) j)) (lN (scd (fun i => B (s + i)) j)) (nI n0) (nI (s + j)))) ∧ (g = true → s + j < n0 ∧ (j = 0 ∨ ssort (B (s + j)) = q) ∧ (q = 1 ∨ q = 2 ∨ q = 3 ∧ j = 0) ∧ (q ≠ 3 → sre B n0 q (n0 - s) s = sre B n0 q (n0 - (s + j)) (s + j))) ∧ (g = false → s + j = sE B n0 q s) ∧ ∀ a, a ≠ 1002 → h2 a = h a) → Zc X mX7_advance (zEnd X (fun r hh n' => r = none ∧ (TpA hh len n0 B (stok B n0 k) ∧ ∀ a, a ≠ 1002 → hh a = h a) ∧ n' = n) 0 0) 135 [(0, .ref 1002), (1, .int (nI (smo q))), (2, .int (zb g))] [] h2 n 0 0 := by
                    intro f2
                    induction f2 using Nat.strongRecOn with
                    | _ f2 ih2 =>
                      intro j g h2 hk2
                      obtain ⟨hk2, r2, gt, gf, F2⟩ := hk2
                      have r3 : h2 1003 = _ := (F2 1003 (by decide)).trans hT3
                      refine z_iload_n (pc := 135) C dX7_advance_135 2 rfl ?_
                      first | refine z_ifeqB (pc := 136) C 257 dX7_advance_136 (by decide) (fun hc136 => ?_) (fun hc136 => ?_) | refine z_ifeqN (pc := 136) C 257 dX7_advance_136 (by decide) (by omega) (fun hc136 => ?_) (fun hc136 => ?_) | refine z_if_eq (pc := 136) C 257 dX7_advance_136 (by decide) (fun hc136 => ?_) (fun hc136 => ?_)
                      · skip
                        have e6 := gf hc136
                        refine z_aload_n (pc := 257) C dX7_advance_257 0 rfl ?_
                        refine z_getf (pc := 258) C dX7_advance_258 fX7_19 (by assumption) (by first | rfl | assumption) ?_
                        refine z_aload_n (pc := 261) C dX7_advance_261 0 rfl ?_
                        refine z_getf (pc := 262) C dX7_advance_262 fX7_34 (by assumption) (by first | rfl | assumption) ?_
                        first | refine z_isubN (pc := 265) C dX7_advance_265 (by omega) ?_ | refine z_isub (pc := 265) C dX7_advance_265 ?_
                        refine z_iload_n (pc := 266) C dX7_advance_266 1 rfl ?_
                        have hmo := smo_le q
                        first | refine z_icmpleN (pc := 267) C 275 dX7_advance_267 (by decide) (by omega) (by omega) (fun hc267 => ?_) (fun hc267 => ?_) | refine z_icmp_le (pc := 267) C 275 dX7_advance_267 (by decide) (fun hc267 => ?_) (fun hc267 => ?_)
                        · skip
                          have et : stok B n0 k = (q, s, s + j) := by unfold stok; rw [hs, hqt]; unfold stq; rw [← e6, if_pos hc267]
                          refine z_vret (pc := 275) C dX7_advance_275 rfl (Nat.zero_le _) (Nat.zero_le _) ⟨rfl, ?_, rfl⟩
                          rw [et]; first | exact ⟨⟨r3, by rw [show ((q, s, s + j) : Nat × Nat × Nat).2.2 - ((q, s, s + j) : Nat × Nat × Nat).2.1 = j from Nat.add_sub_cancel_left s j]; exact r2⟩, F2⟩ | exact ⟨⟨(zup_ne (by decide)).trans r3, by rw [show ((4, s, s + j) : Nat × Nat × Nat).2.2 - ((4, s, s + j) : Nat × Nat × Nat).2.1 = j from Nat.add_sub_cancel_left s j]; exact zup_same _ _ _⟩, fun a q1 => (zup_ne q1).trans (F2 a q1)⟩
                        · skip
                          have et : stok B n0 k = (4, s, s + j) := by unfold stok; rw [hs, hqt]; unfold stq; rw [← e6, if_neg (by omega)]
                          refine z_aload_n (pc := 270) C dX7_advance_270 0 rfl ?_
                          refine z_iconst (pc := 271) C dX7_advance_271 (nI 4) (by decide) ?_
                          refine z_putf (pc := 272) (fs' := [_, _, _, _, _, _, _, _]) C dX7_advance_272 gX7_48 (by assumption) (fun _ => ⟨rfl, rfl⟩) (by exact Nat.le_of_ble_eq_true rfl) (by rfl) ?_
                          refine z_vret (pc := 275) C dX7_advance_275 rfl (Nat.zero_le _) (Nat.zero_le _) ⟨rfl, ?_, rfl⟩
                          rw [et]; first | exact ⟨⟨r3, by rw [show ((q, s, s + j) : Nat × Nat × Nat).2.2 - ((q, s, s + j) : Nat × Nat × Nat).2.1 = j from Nat.add_sub_cancel_left s j]; exact r2⟩, F2⟩ | exact ⟨⟨(zup_ne (by decide)).trans r3, by rw [show ((4, s, s + j) : Nat × Nat × Nat).2.2 - ((4, s, s + j) : Nat × Nat × Nat).2.1 = j from Nat.add_sub_cancel_left s j]; exact zup_same _ _ _⟩, fun a q1 => (zup_ne q1).trans (F2 a q1)⟩
                      · skip
                        obtain ⟨g1, g2, g3, g4⟩ := gt hc136
                        have b1 := hB (s + j) g1
                        have b2 : 48 ≤ B (s + j) := by
                          rcases g2 with z | z
                          · subst z
                            rcases g3 with y | y | y
                            · have := ssort_1.mp (hq.symm.trans y); show 48 ≤ B s; omega
                            · have := ssort_2.mp (hq.symm.trans y); show 48 ≤ B s; omega
                            · have := ssort_3.mp (hq.symm.trans y.1); show 48 ≤ B s; omega
                          · rcases g3 with y | y | y
                            · have := ssort_1.mp (z.trans y); omega
                            · have := ssort_2.mp (z.trans y); omega
                            · have := ssort_3.mp (z.trans y.1); omega
                        refine z_aload_n (pc := 139) C dX7_advance_139 0 rfl ?_
                        refine z_getf (pc := 140) C dX7_advance_140 fX7_19 (by assumption) (by first | rfl | assumption) ?_
                        refine z_aload_n (pc := 143) C dX7_advance_143 0 rfl ?_
                        refine z_getf (pc := 144) C dX7_advance_144 fX7_28 (by assumption) (by first | rfl | assumption) ?_
                        first | refine z_icmpgeN (pc := 147) C 257 dX7_advance_147 (by decide) (by omega) (by omega) (fun hc147 => ?_) (fun hc147 => ?_) | refine z_icmp_ge (pc := 147) C 257 dX7_advance_147 (by decide) (fun hc147 => ?_) (fun hc147 => ?_)
                        · omega
                        · skip
                          refine z_aload_n (pc := 150) C dX7_advance_150 0 rfl ?_
                          refine z_aload_n (pc := 151) C dX7_advance_151 0 rfl ?_
                          refine z_getf (pc := 152) C dX7_advance_152 fX7_37 (by assumption) (by first | rfl | assumption) ?_
                          refine z_ldc2 (pc := 155) C dX7_advance_155 kX7_51 ?_
                          refine z_topl (show (32 : Int64) = lN 32 from rfl) ?_
                          refine z_lmul (pc := 158) C dX7_advance_158 ?_
                          rw [lN_mul]
                          refine z_aload_n (pc := 159) C dX7_advance_159 0 rfl ?_
                          refine z_getf (pc := 160) C dX7_advance_160 fX7_9 (by assumption) (by first | rfl | assumption) ?_
                          refine z_aload_n (pc := 163) C dX7_advance_163 0 rfl ?_
                          refine z_getf (pc := 164) C dX7_advance_164 fX7_19 (by assumption) (by first | rfl | assumption) ?_
                          first | refine z_ialdN (pc := 167) C dX7_advance_167 (by assumption) (by omega) (by decide) ?_ | refine z_ialdI (pc := 167) C dX7_advance_167 (by assumption) (by omega) (by decide) ?_
                          refine z_bipush (pc := 168) C dX7_advance_168 (nI 31) (by decide) ?_
                          first | refine z_iandN (pc := 170) C dX7_advance_170 ?_ | refine z_iand (pc := 170) C dX7_advance_170 ?_
                          refine z_i2l (pc := 171) C dX7_advance_171 ?_
                          refine z_topl (nI_l (Nat.lt_of_le_of_lt Nat.and_le_right (by decide))) ?_
                          refine z_ladd (pc := 172) C dX7_advance_172 ?_
                          rw [lN_add]
                          refine z_putf (pc := 173) (fs' := [_, _, _, _, _, _, _, _]) C dX7_advance_173 gX7_37 (by assumption) (fun _ => ⟨rfl, rfl⟩) (by exact Nat.le_of_ble_eq_true rfl) (by rfl) ?_
                          refine z_aload_n (pc := 176) C dX7_advance_176 0 rfl ?_
                          refine z_aload_n (pc := 177) C dX7_advance_177 0 rfl ?_
                          refine z_getf (pc := 178) C dX7_advance_178 fX7_41 (zup_same _ _ _) (by first | rfl | assumption) ?_
                          refine z_bipush (pc := 181) C dX7_advance_181 (nI 10) (by decide) ?_
                          first | refine z_imulN (pc := 183) C dX7_advance_183 ?_ | refine z_imul (pc := 183) C dX7_advance_183 ?_
                          refine z_aload_n (pc := 184) C dX7_advance_184 0 rfl ?_
                          refine z_getf (pc := 185) C dX7_advance_185 fX7_9 (zup_same _ _ _) (by first | rfl | assumption) ?_
                          refine z_aload_n (pc := 188) C dX7_advance_188 0 rfl ?_
                          refine z_getf (pc := 189) C dX7_advance_189 fX7_19 (zup_same _ _ _) (by first | rfl | assumption) ?_
                          first | refine z_ialdN (pc := 192) C dX7_advance_192 ((zup_ne (by decide)).trans r3) (by omega) (by decide) ?_ | refine z_ialdI (pc := 192) C dX7_advance_192 ((zup_ne (by decide)).trans r3) (by omega) (by decide) ?_
                          refine z_bipush (pc := 193) C dX7_advance_193 (nI 48) (by decide) ?_
                          first | refine z_isubN (pc := 195) C dX7_advance_195 (by omega) ?_ | refine z_isub (pc := 195) C dX7_advance_195 ?_
                          first | refine z_iaddN (pc := 196) C dX7_advance_196 ?_ | refine z_iadd (pc := 196) C dX7_advance_196 ?_
                          refine z_putf (pc := 197) (fs' := [_, _, _, _, _, _, _, _]) C dX7_advance_197 gX7_41 (zup_same _ _ _) (fun _ => ⟨rfl, rfl⟩) (by exact Nat.le_of_ble_eq_true rfl) (by rfl) ?_
                          refine z_aload_n (pc := 200) C dX7_advance_200 0 rfl ?_
                          refine z_dup (pc := 201) C dX7_advance_201 rfl ?_
                          refine z_getf (pc := 202) C dX7_advance_202 fX7_19 (zup_same _ _ _) (by first | rfl | assumption) ?_
                          refine z_iconst (pc := 205) C dX7_advance_205 (nI 1) (by decide) ?_
                          first | refine z_iaddN (pc := 206) C dX7_advance_206 ?_ | refine z_iadd (pc := 206) C dX7_advance_206 ?_
                          refine z_putf (pc := 207) (fs' := [_, _, _, _, _, _, _, _]) C dX7_advance_207 gX7_19 (zup_same _ _ _) (fun _ => ⟨rfl, rfl⟩) (by exact Nat.le_of_ble_eq_true rfl) (by rfl) ?_
                          refine z_aload_n (pc := 210) C dX7_advance_210 0 rfl ?_
                          refine z_getf (pc := 211) C dX7_advance_211 fX7_48 (zup_same _ _ _) (by first | rfl | assumption) ?_
                          refine z_iconst (pc := 214) C dX7_advance_214 (nI 3) (by decide) ?_
                          first | refine z_icmpeqN (pc := 215) C 252 dX7_advance_215 (by decide) (by omega) (by omega) (fun hc215 => ?_) (fun hc215 => ?_) | refine z_icmp_eq (pc := 215) C 252 dX7_advance_215 (by decide) (fun hc215 => ?_) (fun hc215 => ?_)
                          · skip
                            have e9 := ih2 (f2 - 1) (by omega) (j + 1) false (zup (zup (zup h2 1002 (zO 4 (tpf len (nI q) (nI s) (nI (svl (fun i => B (s + i)) j)) (lN (scd (fun i => B (s + i)) j * 32 + (B (s + j) &&& 31))) (nI n0) (nI (s + j))))) 1002 (zO 4 (tpf len (nI q) (nI s) (nI (svl (fun i => B (s + i)) j * 10 + (B (s + j) - 48))) (lN (scd (fun i => B (s + i)) j * 32 + (B (s + j) &&& 31))) (nI n0) (nI (s + j))))) 1002 (zO 4 (tpf len (nI q) (nI s) (nI (svl (fun i => B (s + i)) j * 10 + (B (s + j) - 48))) (lN (scd (fun i => B (s + i)) j * 32 + (B (s + j) &&& 31))) (nI n0) (nI (s + j + 1))))) ⟨by omega, zup_same _ _ _, (fun z => by cases z), fun _ => (by unfold sE; rw [if_neg (by omega), if_pos hc215]; rcases g3 with y | y | y <;> omega), (fun a q1 => (zup_ne q1).trans ((zup_ne q1).trans ((zup_ne q1).trans (F2 a q1))))⟩
                            refine z_iconst (pc := 252) C dX7_advance_252 (zb false) (by decide) ?_
                            refine z_istore_n (pc := 253) (lv' := [(2, _), (0, _), (1, _)]) C dX7_advance_253 (by decide) rfl ?_
                            refine z_goto (pc := 254) C 135 dX7_advance_254 (by decide) ?_
                            refine z_sub (lv' := [(0, _), (1, _), (2, _)]) [1, 2, 0] rfl ?_
                            exact e9
                          · skip
                            have e7 : ssort (B (s + j)) = q := by
                              rcases g2 with z | z
                              · subst z; exact hq.symm
                              · exact z
                            refine z_aload_n (pc := 218) C dX7_advance_218 0 rfl ?_
                            refine z_getf (pc := 219) C dX7_advance_219 fX7_19 (zup_same _ _ _) (by first | rfl | assumption) ?_
                            refine z_aload_n (pc := 222) C dX7_advance_222 0 rfl ?_
                            refine z_getf (pc := 223) C dX7_advance_223 fX7_28 (zup_same _ _ _) (by first | rfl | assumption) ?_
                            first | refine z_icmpgeN (pc := 226) C 252 dX7_advance_226 (by decide) (by omega) (by omega) (fun hc226 => ?_) (fun hc226 => ?_) | refine z_icmp_ge (pc := 226) C 252 dX7_advance_226 (by decide) (fun hc226 => ?_) (fun hc226 => ?_)
                            · skip
                              have e9 := ih2 (f2 - 1) (by omega) (j + 1) false (zup (zup (zup h2 1002 (zO 4 (tpf len (nI q) (nI s) (nI (svl (fun i => B (s + i)) j)) (lN (scd (fun i => B (s + i)) j * 32 + (B (s + j) &&& 31))) (nI n0) (nI (s + j))))) 1002 (zO 4 (tpf len (nI q) (nI s) (nI (svl (fun i => B (s + i)) j * 10 + (B (s + j) - 48))) (lN (scd (fun i => B (s + i)) j * 32 + (B (s + j) &&& 31))) (nI n0) (nI (s + j))))) 1002 (zO 4 (tpf len (nI q) (nI s) (nI (svl (fun i => B (s + i)) j * 10 + (B (s + j) - 48))) (lN (scd (fun i => B (s + i)) j * 32 + (B (s + j) &&& 31))) (nI n0) (nI (s + j + 1))))) ⟨by omega, zup_same _ _ _, (fun z => by cases z), fun _ => (by unfold sE; rw [if_pos (by rcases g3 with y | y | y <;> omega), g4 (by omega), sre_t g1 e7, sre_f (fun z => by omega)]; omega), (fun a q1 => (zup_ne q1).trans ((zup_ne q1).trans ((zup_ne q1).trans (F2 a q1))))⟩
                              refine z_iconst (pc := 252) C dX7_advance_252 (zb false) (by decide) ?_
                              refine z_istore_n (pc := 253) (lv' := [(2, _), (0, _), (1, _)]) C dX7_advance_253 (by decide) rfl ?_
                              refine z_goto (pc := 254) C 135 dX7_advance_254 (by decide) ?_
                              refine z_sub (lv' := [(0, _), (1, _), (2, _)]) [1, 2, 0] rfl ?_
                              exact e9
                            · skip
                              refine z_aload_n (pc := 229) C dX7_advance_229 0 rfl ?_
                              refine z_getf (pc := 230) C dX7_advance_230 fX7_9 (zup_same _ _ _) (by first | rfl | assumption) ?_
                              refine z_aload_n (pc := 233) C dX7_advance_233 0 rfl ?_
                              refine z_getf (pc := 234) C dX7_advance_234 fX7_19 (zup_same _ _ _) (by first | rfl | assumption) ?_
                              first | refine z_ialdN (pc := 237) C dX7_advance_237 ((zup_ne (by decide)).trans ((zup_ne (by decide)).trans ((zup_ne (by decide)).trans r3))) (by omega) (by decide) ?_ | refine z_ialdI (pc := 237) C dX7_advance_237 ((zup_ne (by decide)).trans ((zup_ne (by decide)).trans ((zup_ne (by decide)).trans r3))) (by omega) (by decide) ?_
                              refine z_cS1 (pc := 238) mX7_sortOf C [_] dX7_advance_238 lX7_44 mtX7_sortOf (tX7_sortOf (by have := hB (s + j + 1) (by omega); omega)) rfl rfl (by decide) (Nat.le_of_ble_eq_true rfl) (Nat.zero_le _) (Nat.zero_le _) ?_
                              refine z_aload_n (pc := 241) C dX7_advance_241 0 rfl ?_
                              refine z_getf (pc := 242) C dX7_advance_242 fX7_48 (zup_same _ _ _) (by first | rfl | assumption) ?_
                              have b4 := ssort_le (B (s + j + 1))
                              first | refine z_icmpneN (pc := 245) C 252 dX7_advance_245 (by decide) (by omega) (by omega) (fun hc245 => ?_) (fun hc245 => ?_) | refine z_icmp_ne (pc := 245) C 252 dX7_advance_245 (by decide) (fun hc245 => ?_) (fun hc245 => ?_)
                              · skip
                                have e9 := ih2 (f2 - 1) (by omega) (j + 1) false (zup (zup (zup h2 1002 (zO 4 (tpf len (nI q) (nI s) (nI (svl (fun i => B (s + i)) j)) (lN (scd (fun i => B (s + i)) j * 32 + (B (s + j) &&& 31))) (nI n0) (nI (s + j))))) 1002 (zO 4 (tpf len (nI q) (nI s) (nI (svl (fun i => B (s + i)) j * 10 + (B (s + j) - 48))) (lN (scd (fun i => B (s + i)) j * 32 + (B (s + j) &&& 31))) (nI n0) (nI (s + j))))) 1002 (zO 4 (tpf len (nI q) (nI s) (nI (svl (fun i => B (s + i)) j * 10 + (B (s + j) - 48))) (lN (scd (fun i => B (s + i)) j * 32 + (B (s + j) &&& 31))) (nI n0) (nI (s + j + 1))))) ⟨by omega, zup_same _ _ _, (fun z => by cases z), fun _ => (by unfold sE; rw [if_pos (by rcases g3 with y | y | y <;> omega), g4 (by omega), sre_t g1 e7, sre_f (fun z => hc245 z.2)]; omega), (fun a q1 => (zup_ne q1).trans ((zup_ne q1).trans ((zup_ne q1).trans (F2 a q1))))⟩
                                refine z_iconst (pc := 252) C dX7_advance_252 (zb false) (by decide) ?_
                                refine z_istore_n (pc := 253) (lv' := [(2, _), (0, _), (1, _)]) C dX7_advance_253 (by decide) rfl ?_
                                refine z_goto (pc := 254) C 135 dX7_advance_254 (by decide) ?_
                                refine z_sub (lv' := [(0, _), (1, _), (2, _)]) [1, 2, 0] rfl ?_
                                exact e9
                              · skip
                                have e9 := ih2 (f2 - 1) (by omega) (j + 1) true (zup (zup (zup h2 1002 (zO 4 (tpf len (nI q) (nI s) (nI (svl (fun i => B (s + i)) j)) (lN (scd (fun i => B (s + i)) j * 32 + (B (s + j) &&& 31))) (nI n0) (nI (s + j))))) 1002 (zO 4 (tpf len (nI q) (nI s) (nI (svl (fun i => B (s + i)) j * 10 + (B (s + j) - 48))) (lN (scd (fun i => B (s + i)) j * 32 + (B (s + j) &&& 31))) (nI n0) (nI (s + j))))) 1002 (zO 4 (tpf len (nI q) (nI s) (nI (svl (fun i => B (s + i)) j * 10 + (B (s + j) - 48))) (lN (scd (fun i => B (s + i)) j * 32 + (B (s + j) &&& 31))) (nI n0) (nI (s + j + 1))))) ⟨by omega, zup_same _ _ _, fun _ => ⟨by omega, Or.inr hc245, (by rcases g3 with y | y | y <;> omega), fun _ => (by rw [g4 (by omega), sre_t g1 e7]; rfl)⟩, (fun z => by cases z), (fun a q1 => (zup_ne q1).trans ((zup_ne q1).trans ((zup_ne q1).trans (F2 a q1))))⟩
                                refine z_iconst (pc := 248) C dX7_advance_248 (zb true) (by decide) ?_
                                refine z_goto (pc := 249) C 253 dX7_advance_249 (by decide) ?_
                                refine z_istore_n (pc := 253) (lv' := [(2, _), (0, _), (1, _)]) C dX7_advance_253 (by decide) rfl ?_
                                refine z_goto (pc := 254) C 135 dX7_advance_254 (by decide) ?_
                                refine z_sub (lv' := [(0, _), (1, _), (2, _)]) [1, 2, 0] rfl ?_
                                exact e9
                  first | exact lp135 (n0 - s) 0 true _ ⟨by omega, zup_same _ _ _, fun _ => ⟨by omega, Or.inl rfl, by omega, fun _ => rfl⟩, (fun z => by cases z), (fun a q1 => (zup_ne q1).trans ((zup_ne q1).trans ((zup_ne q1).trans ((zup_ne q1).trans (F1 a q1)))))⟩ | exact lp135 (n0 - s) 0 false _ ⟨by omega, zup_same _ _ _, (fun z => by cases z), fun _ => (by unfold sE; rw [if_neg (by omega), if_neg (by omega)]; rfl), (fun a q1 => (zup_ne q1).trans ((zup_ne q1).trans ((zup_ne q1).trans ((zup_ne q1).trans (F1 a q1)))))⟩
        · skip
          refine z_aload_n (pc := 25) C dX7_advance_25 0 rfl ?_
          refine z_dup (pc := 26) C dX7_advance_26 rfl ?_
          refine z_getf (pc := 27) C dX7_advance_27 fX7_19 (by assumption) (by first | rfl | assumption) ?_
          refine z_iconst (pc := 30) C dX7_advance_30 (nI 1) (by decide) ?_
          first | refine z_iaddN (pc := 31) C dX7_advance_31 ?_ | refine z_iadd (pc := 31) C dX7_advance_31 ?_
          refine z_putf (pc := 32) (fs' := [_, _, _, _, _, _, _, _]) C dX7_advance_32 gX7_19 (by assumption) (fun _ => ⟨rfl, rfl⟩) (by exact Nat.le_of_ble_eq_true rfl) (by rfl) ?_
          refine z_goto (pc := 35) C 0 dX7_advance_35 (by decide) ?_
          exact ih0 (f0 - 1) (by omega) (j + 1) _ ⟨by omega, by rw [he0]; obtain ⟨f0, rfl⟩ : ∃ y, f0 = y + 1 := ⟨f0 - 1, by omega⟩; rw [sskp, if_pos ⟨by omega, hc22⟩]; rfl, zup_same _ _ _, fun a q1 => (zup_ne q1).trans (F1 a q1)⟩
  exact lp0 (n0 - k) k h ⟨by omega, rfl, hT2, fun _ _ => rfl⟩

set_option maxRecDepth 20000 in
set_option maxHeartbeats 1000000 in
theorem tX7_codeOf {h : ZH} {i : Nat} (hi : i < 20) : ZD mX7_codeOf 4 [.ref i] h (some (.long (lN (scd (zCh i) (zLen i))))) h := by
  intro n
  have e1 := zLen_le i hi
  refine z_enter (lv := [(0, _)]) (by decide) (Nat.le_of_ble_eq_true rfl) rfl (fun X C => ?_)
  refine z_lconst (pc := 0) C dX7_codeOf_0 (0) (by decide) ?_
  refine z_lstore_n (pc := 1) (lv' := [(1, _), (0, _)]) C dX7_codeOf_1 (by decide) rfl ?_
  refine z_iconst (pc := 2) C dX7_codeOf_2 (nI 0) (by decide) ?_
  refine z_istore_n (pc := 3) (lv' := [(3, _), (1, _), (0, _)]) C dX7_codeOf_3 (by decide) rfl ?_
  refine z_sub (lv' := [(0, _), (1, _), (3, _)]) [2, 1, 0] rfl ?_
  have lp4 : ∀ (f : Nat) (j : Nat), (j + f = zLen i) → Zc X mX7_codeOf (zEnd X (fun r hh n' => r = (some (.long (lN (scd (zCh i) (zLen i))))) ∧ hh = h ∧ n' = n) 0 0) 4 [(0, .ref i), (1, .long (lN (scd (zCh i) j))), (3, .int (nI j))] [] h n 0 0 := by
    intro f
    induction f using Nat.strongRecOn with
    | _ f ih =>
      intro j hk
      refine z_iload_n (pc := 4) C dX7_codeOf_4 2 rfl ?_
      refine z_aload_n (pc := 5) C dX7_codeOf_5 0 rfl ?_
      refine z_cJ1 (pc := 6) mJ0_length_8abf5 C [] hi dX7_codeOf_6 lX7_53 mtJ0_length_8abf5 (tJ0_length_8abf5 hi) rfl rfl (by decide) (Nat.le_of_ble_eq_true rfl) (Nat.zero_le _) (Nat.zero_le _) ?_
      first | refine z_icmpgeN (pc := 9) C 34 dX7_codeOf_9 (by decide) (by omega) (by omega) (fun hc9 => ?_) (fun hc9 => ?_) | refine z_icmp_ge (pc := 9) C 34 dX7_codeOf_9 (by decide) (fun hc9 => ?_) (fun hc9 => ?_)
      · skip
        refine z_lload_n (pc := 34) C dX7_codeOf_34 1 rfl ?_
        refine z_lret (pc := 35) C dX7_codeOf_35 rfl (Nat.zero_le _) (Nat.zero_le _) ⟨?_, ?_, rfl⟩
        · obtain rfl : j = zLen i := (by omega); rfl
        · rfl
      · skip
        refine z_lload_n (pc := 12) C dX7_codeOf_12 1 rfl ?_
        refine z_ldc2 (pc := 13) C dX7_codeOf_13 kX7_51 ?_
        refine z_topl (show (32 : Int64) = lN 32 from rfl) ?_
        refine z_lmul (pc := 16) C dX7_codeOf_16 ?_
        rw [lN_mul]
        refine z_aload_n (pc := 17) C dX7_codeOf_17 0 rfl ?_
        refine z_iload_n (pc := 18) C dX7_codeOf_18 2 rfl ?_
        have e2 := zCh_lt i hi j (by omega)
        refine z_cJ1 (pc := 19) mJ0_charAt_5068e C [_] hi dX7_codeOf_19 lX7_58 mtJ0_charAt_5068e (tJ0_charAt_5068e hi (by omega)) rfl rfl (by decide) (Nat.le_of_ble_eq_true rfl) (Nat.zero_le _) (Nat.zero_le _) ?_
        refine z_bipush (pc := 22) C dX7_codeOf_22 (nI 31) (by decide) ?_
        first | refine z_iandN (pc := 24) C dX7_codeOf_24 ?_ | refine z_iand (pc := 24) C dX7_codeOf_24 ?_
        refine z_i2l (pc := 25) C dX7_codeOf_25 ?_
        refine z_topl (nI_l (Nat.lt_of_le_of_lt Nat.and_le_right (by decide))) ?_
        refine z_ladd (pc := 26) C dX7_codeOf_26 ?_
        rw [lN_add]
        refine z_lstore_n (pc := 27) (lv' := [(1, _), (0, _), (3, _)]) C dX7_codeOf_27 (by decide) rfl ?_
        first | refine z_iincN (pc := 28) (lv' := [(3, _), (1, _), (0, _)]) C 1 dX7_codeOf_28 2 rfl (by decide) (by decide) rfl ?_ | refine z_iinc (pc := 28) (lv' := [(3, _), (1, _), (0, _)]) C dX7_codeOf_28 2 rfl _ rfl (by decide) rfl ?_
        refine z_goto (pc := 31) C 4 dX7_codeOf_31 (by decide) ?_
        refine z_sub (lv' := [(0, _), (1, _), (3, _)]) [2, 1, 0] rfl ?_
        exact ih (f - 1) (by omega) (j + 1) (by omega)
  exact lp4 (zLen i) 0 (by omega)

/-- the token spells the word i -/
def sspl (B : Nat → Nat) (t : Nat × Nat × Nat) (i : Nat) : Bool := decide (t.1 = 1 ∧ zLen i = t.2.2 - t.2.1 ∧ ∀ j, j < zLen i → B (t.2.1 + j) = zCh i j)

set_option maxRecDepth 20000 in
set_option maxHeartbeats 1000000 in
theorem tX7_spells {h : ZH} {i len n0 : Nat} {B : Nat → Nat} {t : Nat × Nat × Nat} (hi : i < 20) (hT : TpA h len n0 B t) (ht : sTk B n0 t) : ZD mX7_spells 4 [.ref 1002, .ref i] h (some (.int (zb (sspl B t i)))) h := by
  intro n
  have e1 := zLen_le i hi
  obtain ⟨h3, h2⟩ := hT
  obtain ⟨t1, t2, t3, t4, t5, t6, t7, t8, t9⟩ := ht
  refine z_enter (lv := [(0, _), (1, _)]) (by decide) (Nat.le_of_ble_eq_true rfl) rfl (fun X C => ?_)
  refine z_aload_n (pc := 0) C dX7_spells_0 0 rfl ?_
  refine z_getf (pc := 1) C dX7_spells_1 fX7_48 (by assumption) (by first | rfl | assumption) ?_
  refine z_iconst (pc := 4) C dX7_spells_4 (nI 1) (by decide) ?_
  first | refine z_icmpneN (pc := 5) C 24 dX7_spells_5 (by decide) (by omega) (by omega) (fun hc5 => ?_) (fun hc5 => ?_) | refine z_icmp_ne (pc := 5) C 24 dX7_spells_5 (by decide) (fun hc5 => ?_) (fun hc5 => ?_)
  · skip
    have e5 : sspl B t i = false := decide_eq_false (fun z => hc5 z.1)
    refine z_iconst (pc := 24) C dX7_spells_24 (zb false) (by decide) ?_
    refine z_zret (pc := 25) C dX7_spells_25 rfl (by first | exact zb_nar _ | rfl) (Nat.zero_le _) (Nat.zero_le _) ⟨?_, ?_, rfl⟩
    · rw [e5]
    · rfl
  · skip
    refine z_aload_n (pc := 8) C dX7_spells_8 1 rfl ?_
    refine z_cJ1 (pc := 9) mJ0_length_8abf5 C [] hi dX7_spells_9 lX7_53 mtJ0_length_8abf5 (tJ0_length_8abf5 hi) rfl rfl (by decide) (Nat.le_of_ble_eq_true rfl) (Nat.zero_le _) (Nat.zero_le _) ?_
    refine z_aload_n (pc := 12) C dX7_spells_12 0 rfl ?_
    refine z_getf (pc := 13) C dX7_spells_13 fX7_19 (by assumption) (by first | rfl | assumption) ?_
    refine z_aload_n (pc := 16) C dX7_spells_16 0 rfl ?_
    refine z_getf (pc := 17) C dX7_spells_17 fX7_34 (by assumption) (by first | rfl | assumption) ?_
    first | refine z_isubN (pc := 20) C dX7_spells_20 (by omega) ?_ | refine z_isub (pc := 20) C dX7_spells_20 ?_
    first | refine z_icmpeqN (pc := 21) C 26 dX7_spells_21 (by decide) (by omega) (by omega) (fun hc21 => ?_) (fun hc21 => ?_) | refine z_icmp_eq (pc := 21) C 26 dX7_spells_21 (by decide) (fun hc21 => ?_) (fun hc21 => ?_)
    · skip
      refine z_iconst (pc := 26) C dX7_spells_26 (nI 0) (by decide) ?_
      refine z_istore_n (pc := 27) (lv' := [(2, _), (0, _), (1, _)]) C dX7_spells_27 (by decide) rfl ?_
      refine z_sub (lv' := [(0, _), (1, _), (2, _)]) [1, 2, 0] rfl ?_
      have lp28 : ∀ (f : Nat) (j : Nat), (j + f = zLen i ∧ ∀ q, q < j → B (t.2.1 + q) = zCh i q) → Zc X mX7_spells (zEnd X (fun r hh n' => r = (some (.int (zb (sspl B t i)))) ∧ hh = h ∧ n' = n) 0 0) 28 [(0, .ref 1002), (1, .ref i), (2, .int (nI j))] [] h n 0 0 := by
        intro f
        induction f using Nat.strongRecOn with
        | _ f ih =>
          intro j hk
          obtain ⟨hk, he⟩ := hk
          refine z_iload_n (pc := 28) C dX7_spells_28 2 rfl ?_
          refine z_aload_n (pc := 29) C dX7_spells_29 1 rfl ?_
          refine z_cJ1 (pc := 30) mJ0_length_8abf5 C [] hi dX7_spells_30 lX7_53 mtJ0_length_8abf5 (tJ0_length_8abf5 hi) rfl rfl (by decide) (Nat.le_of_ble_eq_true rfl) (Nat.zero_le _) (Nat.zero_le _) ?_
          first | refine z_icmpgeN (pc := 33) C 63 dX7_spells_33 (by decide) (by omega) (by omega) (fun hc33 => ?_) (fun hc33 => ?_) | refine z_icmp_ge (pc := 33) C 63 dX7_spells_33 (by decide) (fun hc33 => ?_) (fun hc33 => ?_)
          · skip
            refine z_iconst (pc := 63) C dX7_spells_63 (zb true) (by decide) ?_
            refine z_zret (pc := 64) C dX7_spells_64 rfl (by first | exact zb_nar _ | rfl) (Nat.zero_le _) (Nat.zero_le _) ⟨?_, ?_, rfl⟩
            · rw [show sspl B t i = true from decide_eq_true ⟨hc5, hc21, fun q hq => he q (by omega)⟩]
            · rfl
          · skip
            refine z_aload_n (pc := 36) C dX7_spells_36 0 rfl ?_
            refine z_getf (pc := 37) C dX7_spells_37 fX7_9 (by assumption) (by first | rfl | assumption) ?_
            refine z_aload_n (pc := 40) C dX7_spells_40 0 rfl ?_
            refine z_getf (pc := 41) C dX7_spells_41 fX7_34 (by assumption) (by first | rfl | assumption) ?_
            refine z_iload_n (pc := 44) C dX7_spells_44 2 rfl ?_
            first | refine z_iaddN (pc := 45) C dX7_spells_45 ?_ | refine z_iadd (pc := 45) C dX7_spells_45 ?_
            first | refine z_ialdN (pc := 46) C dX7_spells_46 (by assumption) (by omega) (by decide) ?_ | refine z_ialdI (pc := 46) C dX7_spells_46 (by assumption) (by omega) (by decide) ?_
            refine z_aload_n (pc := 47) C dX7_spells_47 1 rfl ?_
            refine z_iload_n (pc := 48) C dX7_spells_48 2 rfl ?_
            refine z_cJ1 (pc := 49) mJ0_charAt_5068e C [_] hi dX7_spells_49 lX7_58 mtJ0_charAt_5068e (tJ0_charAt_5068e hi (by omega)) rfl rfl (by decide) (Nat.le_of_ble_eq_true rfl) (Nat.zero_le _) (Nat.zero_le _) ?_
            have e2 := zCh_lt i hi j (by omega)
            have e3 := t5 (t.2.1 + j) (by omega)
            first | refine z_icmpeqN (pc := 52) C 57 dX7_spells_52 (by decide) (by omega) (by omega) (fun hc52 => ?_) (fun hc52 => ?_) | refine z_icmp_eq (pc := 52) C 57 dX7_spells_52 (by decide) (fun hc52 => ?_) (fun hc52 => ?_)
            · skip
              first | refine z_iincN (pc := 57) (lv' := [(2, _), (0, _), (1, _)]) C 1 dX7_spells_57 2 rfl (by decide) (by decide) rfl ?_ | refine z_iinc (pc := 57) (lv' := [(2, _), (0, _), (1, _)]) C dX7_spells_57 2 rfl _ rfl (by decide) rfl ?_
              refine z_goto (pc := 60) C 28 dX7_spells_60 (by decide) ?_
              refine z_sub (lv' := [(0, _), (1, _), (2, _)]) [1, 2, 0] rfl ?_
              exact ih (f - 1) (by omega) (j + 1) ⟨by omega, fun q hq => by by_cases z : q = j; (subst z; exact hc52); exact he q (by omega)⟩
            · skip
              have e5 : sspl B t i = false := decide_eq_false (fun z => hc52 (z.2.2 j (by omega)))
              refine z_iconst (pc := 55) C dX7_spells_55 (zb false) (by decide) ?_
              refine z_zret (pc := 56) C dX7_spells_56 rfl (by first | exact zb_nar _ | rfl) (Nat.zero_le _) (Nat.zero_le _) ⟨?_, ?_, rfl⟩
              · rw [e5]
              · rfl
      exact lp28 (zLen i) 0 ⟨by omega, fun q hq => by omega⟩
    · skip
      have e5 : sspl B t i = false := decide_eq_false (fun z => hc21 z.2.1)
      refine z_iconst (pc := 24) C dX7_spells_24 (zb false) (by decide) ?_
      refine z_zret (pc := 25) C dX7_spells_25 rfl (by first | exact zb_nar _ | rfl) (Nat.zero_le _) (Nat.zero_le _) ⟨?_, ?_, rfl⟩
      · rw [e5]
      · rfl

set_option maxRecDepth 20000 in
set_option maxHeartbeats 1000000 in
theorem tX7_begin {h : ZH} {len k0 : Nat} {so sa va en nx : Int32} {co : Int64} {B : Nat → Nat} (hT2 : h 1002 = some (zO 4 (tpf len so sa va co en nx))) (hT3 : h 1003 = some (zI 900 B)) (hk : k0 ≤ len) (hn : len ≤ 900) (hB : ∀ j, j < k0 → B j < 256) : ZQ0 mX7_begin 2 [.ref 1002, .int (nI k0)] h (fun hh => TpA hh len k0 B (stok B k0 0) ∧ ∀ a, a ≠ 1002 → hh a = h a) := by
  intro n
  refine z_enter (lv := [(0, _), (1, _)]) (by decide) (Nat.le_of_ble_eq_true rfl) rfl (fun X C => ?_)
  refine z_aload_n (pc := 0) C dX7_begin_0 0 rfl ?_
  refine z_iconst (pc := 1) C dX7_begin_1 (nI 0) (by decide) ?_
  refine z_putf (pc := 2) (fs' := [_, _, _, _, _, _, _, _]) C dX7_begin_2 gX7_19 (by assumption) (fun _ => ⟨rfl, rfl⟩) (by exact Nat.le_of_ble_eq_true rfl) (by rfl) ?_
  refine z_aload_n (pc := 5) C dX7_begin_5 0 rfl ?_
  refine z_iload_n (pc := 6) C dX7_begin_6 1 rfl ?_
  refine z_aload_n (pc := 7) C dX7_begin_7 0 rfl ?_
  refine z_getf (pc := 8) C dX7_begin_8 fX7_15 (zup_same _ _ _) (by first | rfl | assumption) ?_
  refine z_mmin (pc := 11) C dX7_begin_11 lX7_22 zw_mn_s zw_mi zw_mn_c (by decide) (Nat.le_of_ble_eq_true rfl) (Nat.zero_le _) (Nat.zero_le _) ?_
  refine z_top (show (if nI len < nI k0 then nI len else nI k0) = nI k0 from if_neg (nI_nlt (by omega) (by omega))) ?_
  refine z_putf (pc := 14) (fs' := [_, _, _, _, _, _, _, _]) C dX7_begin_14 gX7_28 (zup_same _ _ _) (fun _ => ⟨rfl, rfl⟩) (by exact Nat.le_of_ble_eq_true rfl) (by rfl) ?_
  refine z_aload_n (pc := 17) C dX7_begin_17 0 rfl ?_
  refine z_cV0Q (pc := 18) mX7_advance C [] dX7_begin_18 lX7_31 mtX7_advance (tX7_advance (n0 := k0) (k := 0) (zup_same _ _ _) ((zup_ne (by decide)).trans ((zup_ne (by decide)).trans hT3)) (by omega) (by omega) hB) (zup_same _ _ _) rfl rfl (by decide) (Nat.le_of_ble_eq_true rfl) (Nat.zero_le _) (Nat.zero_le _) ?_
  rintro h1 ⟨hA, F1⟩
  refine z_vret (pc := 21) C dX7_begin_21 rfl (Nat.zero_le _) (Nat.zero_le _) ⟨rfl, ?_, rfl⟩
  exact ⟨hA, fun a q1 => (F1 a q1).trans ((zup_ne q1).trans (zup_ne q1))⟩
