theorem sspr_congr {R : Nat → Nat} {op op' : Nat} (a : Nat) : ∀ n, (∀ p, p < n → R (23 + p) &&& op = R (23 + p) &&& op') → sspr R a op n = sspr R a op' n := by
  intro n
  induction n with
  | zero => intro _; rfl
  | succ n ih => intro h; rw [sspr, sspr, ih (fun p hp => h p (by omega)), h n (by omega)]
def sOp (R : Nat → Nat) (op op' : Nat) : Prop := ∀ p, p < R 1 → R (23 + p) &&& op = R (23 + p) &&& op'
theorem sSpr_congr {R : Nat → Nat} {op op' : Nat} (h : sOp R op op') (a : Nat) : sSpr R a op = sSpr R a op' := sspr_congr a _ h
theorem srch_congr {R : Nat → Nat} {op op' : Nat} (h : sOp R op op') : ∀ f a, srch R op f a = srch R op' f a := by
  intro f
  induction f with
  | zero => intro a; rfl
  | succ f ih => intro a; rw [srch, srch, sSpr_congr h, ih]
theorem sstp_congr {R : Nat → Nat} {op op' q : Nat} (h : sOp R op op') : ∀ f k a, sstp R op q f k a = sstp R op' q f k a := by
  intro f
  induction f with
  | zero => intro k a; rfl
  | succ f ih => intro k a; rw [sstp, sstp, sSpr_congr h, ih]
theorem srch_s (R : Nat → Nat) (op : Nat) : ∀ f a, srch R op (f + 1) a = sSpr R (srch R op f a) op := by
  intro f
  induction f with
  | zero => intro a; rfl
  | succ f ih => intro a; rw [srch, ih, ← srch]
theorem sspr_ge (R : Nat → Nat) (a op : Nat) : ∀ n, a ||| sspr R a op n = sspr R a op n := by
  intro n
  induction n with
  | zero => exact Nat.or_self a
  | succ n ih => rw [sspr, ← Nat.or_assoc, ih]
theorem sSpr_ge (R : Nat → Nat) (a op : Nat) : a ||| sSpr R a op = sSpr R a op := sspr_ge R a op _
theorem sone_strict : ∀ a b : Fin 128, a.val ||| b.val = b.val → a.val ≠ b.val → sone a.val 7 < sone b.val 7 := by decide +kernel
theorem sone_st {a b : Nat} (ha : a < 128) (hb : b < 128) (h : a ||| b = b) (hn : a ≠ b) : sone a 7 < sone b 7 := sone_strict ⟨a, ha⟩ ⟨b, hb⟩ h hn
theorem sone_full : ∀ a : Fin 128, 7 ≤ sone a.val 7 → a.val = 127 := by decide +kernel
theorem sone_one : ∀ p : Fin 7, 1 ≤ sone (1 <<< p.val) 7 := by decide +kernel
theorem or127 : ∀ b : Fin 128, 127 ||| b.val = b.val → b.val = 127 := by decide +kernel
theorem srch_grow {R : Nat → Nat} (hR : wfR R) (op : Nat) {a : Nat} (ha : a < 128) (h1 : 1 ≤ sone a 7) : ∀ i, sSpr R (srch R op i a) op = srch R op i a ∨ i + 1 ≤ sone (srch R op i a) 7 := by
  intro i
  induction i with
  | zero => exact Or.inr h1
  | succ i ih =>
    have hA : srch R op i a < 128 := srch_lt hR op i a ha
    have hB : srch R op (i + 1) a < 128 := srch_lt hR op (i + 1) a ha
    by_cases e : sSpr R (srch R op i a) op = srch R op i a
    · left
      rw [srch_s, e, e]
    · right
      rcases ih with ih | ih
      · exact absurd ih e
      · have h3 : sone (srch R op i a) 7 < sone (srch R op (i + 1) a) 7 := sone_st hA hB (by rw [srch_s]; exact sSpr_ge _ _ _) (by rw [srch_s]; exact fun z => e z.symm)
        omega
theorem srch_fix {R : Nat → Nat} (hR : wfR R) (op : Nat) {p : Nat} (hp : p < 7) : sSpr R (srch R op 6 (1 <<< p)) op = srch R op 6 (1 <<< p) := by
  rcases srch_grow hR op (s1_lt hp) (sone_one ⟨p, hp⟩) 6 with h | h
  · exact h
  · have hA := srch_lt hR op 6 _ (s1_lt hp)
    have e := sone_full ⟨_, hA⟩ h
    have hB := sSpr_lt hR hA op
    have h2 := sSpr_ge R (srch R op 6 (1 <<< p)) op
    have e' : srch R op 6 (1 <<< p) = 127 := e
    rw [e'] at hB h2 ⊢
    exact or127 ⟨_, hB⟩ h2
theorem srch_67 {R : Nat → Nat} (hR : wfR R) (op : Nat) {p : Nat} (hp : p < 7) : srch R op 6 (1 <<< p) = sRch R p op := by
  unfold sRch
  rw [srch_s R op 6, srch_fix hR op hp]
/-- the way by its sets: none of the first f sets has q -/
theorem sstp_none (R : Nat → Nat) (op q : Nat) : ∀ f k a, sstp R op q f k a = none ↔ ∀ i, i < f → (srch R op i a).testBit q = false := by
  intro f
  induction f with
  | zero => intro k a; exact ⟨fun _ i hi => by omega, fun _ => rfl⟩
  | succ f ih =>
    intro k a
    rw [sstp]
    cases e : a.testBit q with
    | true =>
      simp only [if_true]
      constructor
      · intro z; cases z
      · intro z; have := z 0 (by omega); rw [srch, e] at this; cases this
    | false =>
      simp only [Bool.false_eq_true, if_false]
      rw [ih]
      constructor
      · intro z i hi
        cases i with
        | zero => exact e
        | succ i => exact z i (by omega)
      · intro z i hi; exact z (i + 1) (by omega)
theorem sstp_mono (R : Nat → Nat) (op q : Nat) : ∀ f k a r, sstp R op q f k a = some r → sstp R op q (f + 1) k a = some r := by
  intro f
  induction f with
  | zero => intro k a r h; cases h
  | succ f ih =>
    intro k a r h
    rw [sstp] at h ⊢
    split at h
    · rename_i e; rw [if_pos e]; exact h
    · rename_i e; rw [if_neg e]; exact ih _ _ _ h
theorem sstp_78 {R : Nat → Nat} (hR : wfR R) (op q : Nat) {p : Nat} (hp : p < 7) : sstp R op q 7 0 (1 <<< p) = sStp R p q op := by
  unfold sStp
  cases e : sstp R op q 7 0 (1 <<< p) with
  | some r => exact (sstp_mono R op q 7 0 _ r e).symm
  | none =>
    have h := (sstp_none R op q 7 0 (1 <<< p)).mp e
    refine ((sstp_none R op q 8 0 (1 <<< p)).mpr (fun i hi => ?_)).symm
    by_cases z : i < 7
    · exact h i z
    · obtain rfl : i = 7 := by omega
      have := h 6 (by omega)
      rw [show srch R op 7 (1 <<< p) = srch R op 6 (1 <<< p) from (srch_67 hR op hp).symm]
      exact this
theorem tb_all (n q : Nat) : ((1 <<< n) - 1).testBit q = decide (q < n) := by
  rw [Nat.shiftLeft_eq, Nat.one_mul, Nat.testBit_two_pow_sub_one]
theorem tb127 (q : Nat) : (127 : Nat).testBit q = decide (q < 7) := Nat.testBit_two_pow_sub_one 7 q
theorem sOp_all {R : Nat → Nat} (hR : wfR R) : sOp R ((1 <<< R 1) - 1) 127 := by
  intro p hp
  have h := (hR.2.2.2.2.2.1 p hp).2.2
  apply Nat.eq_of_testBit_eq
  intro q
  rw [Nat.testBit_and, Nat.testBit_and, tb_all, tb127]
  cases e : (R (23 + p)).testBit q with
  | false => rfl
  | true =>
    have := h q e
    have h1 := hR.1
    simp [this, show q < 7 by omega]
theorem sdist_all {R : Nat → Nat} (hR : wfR R) {p q : Nat} (hp : p < 7) : sstp R ((1 <<< R 1) - 1) q 7 0 (1 <<< p) = sStp R p q 127 := by
  rw [sstp_congr (sOp_all hR), sstp_78 hR 127 q hp]
theorem sreach_all {R : Nat → Nat} (hR : wfR R) {p : Nat} (hp : p < 7) : srch R ((1 <<< R 1) - 1) 6 (1 <<< p) = sRch R p 127 := by
  rw [srch_congr (sOp_all hR), srch_67 hR 127 hp]
theorem sUn_bit {R S : Nat → Nat} (hR : wfR R) (hS : wfS R S) (m : Nat) : ∀ k, k ≤ R 4 → ∀ q, q < R 1 → (sUn R S m k).testBit q = !(ssee R S m k).testBit q := by
  intro k
  induction k with
  | zero => intro _ q hq; show ((1 <<< R 1) - 1).testBit q = !(0 : Nat).testBit q; rw [tb_all]; simp [hq]
  | succ k ih =>
    intro hk q hq
    have ih := ih (by omega) q hq
    have h1 := hR.1
    rw [sUn, ssee]
    by_cases e : S (32 + k) = m
    · rw [if_pos e, if_pos e, Nat.or_zero]; exact ih
    · rw [if_neg e, if_neg e]
      cases hp : sstd R S k with
      | none => show (sUn R S m k).testBit q = !(ssee R S m k ||| 0).testBit q; rw [Nat.or_zero]; exact ih
      | some p =>
        show (sUn R S m k &&& ((1 <<< p) ^^^ 127)).testBit q = !(ssee R S m k ||| 1 <<< p).testBit q
        rw [Nat.testBit_and, Nat.testBit_or, Nat.testBit_xor, tb1, tb127, ih, decide_eq_true (show q < 7 by omega)]
        cases (ssee R S m k).testBit q <;> cases decide (p = q) <;> rfl
theorem sOp_un {R S : Nat → Nat} (hR : wfR R) (hS : wfS R S) (m : Nat) : sOp R (sUn R S m (R 4)) (sSee R S m ^^^ 127) := by
  intro p hp
  have h := (hR.2.2.2.2.2.1 p hp).2.2
  apply Nat.eq_of_testBit_eq
  intro q
  rw [Nat.testBit_and, Nat.testBit_and]
  cases e : (R (23 + p)).testBit q with
  | false => rfl
  | true =>
    have hq := h q e
    have h1 := hR.1
    rw [sUn_bit hR hS m _ (Nat.le_refl _) q hq, Nat.testBit_xor, tb127, decide_eq_true (show q < 7 by omega)]
    show (true && !(sSee R S m).testBit q) = (true && ((sSee R S m).testBit q ^^ true))
    cases (sSee R S m).testBit q <;> rfl
theorem sdist_un {R S : Nat → Nat} (hR : wfR R) (hS : wfS R S) (m : Nat) {p q : Nat} (hp : p < 7) : sstp R (sUn R S m (R 4)) q 7 0 (1 <<< p) = sStp R p q (sSee R S m ^^^ 127) := by
  rw [sstp_congr (sOp_un hR hS m), sstp_78 hR _ q hp]
theorem sreach_un {R S : Nat → Nat} (hR : wfR R) (hS : wfS R S) (m : Nat) {p : Nat} (hp : p < 7) : srch R (sUn R S m (R 4)) 6 (1 <<< p) = sRch R p (sSee R S m ^^^ 127) := by
  rw [srch_congr (sOp_un hR hS m), srch_67 hR _ hp]
