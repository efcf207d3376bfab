def sfm (R F : Nat → Nat) (s : Nat) (o : Option Nat) (m : Nat) : Nat → Nat
  | 0 => 0
  | far + 1 => sfm R F s o m far + (if (o = none ∨ o = some m) ∧ sfit R F s m far = true then 1 else 0)
def sfq (R F : Nat → Nat) (s : Nat) (o : Option Nat) : Nat → Nat
  | 0 => 0
  | m + 1 => sfq R F s o m + sfm R F s o m 4
theorem sfm_n (R F : Nat → Nat) (s m : Nat) : ∀ k, sfm R F s none m k = sfi R F s m k := by
  intro k
  induction k with
  | zero => rfl
  | succ k ih => rw [sfm, sfi, ih]; simp
theorem sfm_s (R F : Nat → Nat) (s m : Nat) : ∀ k, sfm R F s (some m) m k = sfi R F s m k := by
  intro k
  induction k with
  | zero => rfl
  | succ k ih => rw [sfm, sfi, ih]; simp
theorem sfm_o (R F : Nat → Nat) (s : Nat) {m m' : Nat} (h : m ≠ m') : ∀ k, sfm R F s (some m) m' k = 0 := by
  intro k
  induction k with
  | zero => rfl
  | succ k ih => rw [sfm, ih]; simp [h]
theorem sfq_n (R F : Nat → Nat) (s : Nat) : ∀ k, sfq R F s none k = sfs R F s k := by
  intro k
  induction k with
  | zero => rfl
  | succ k ih => rw [sfq, sfs, ih, sfm_n]
theorem sfq_s (R F : Nat → Nat) (s m : Nat) : ∀ k, sfq R F s (some m) k = if m < k then sfi R F s m 4 else 0 := by
  intro k
  induction k with
  | zero => simp [sfq]
  | succ k ih =>
    rw [sfq, ih]
    by_cases e : m = k
    · subst e; rw [sfm_s]; simp
    · rw [sfm_o R F s e]
      by_cases q : m < k
      · simp [q, Nat.lt_succ_of_lt q]
      · have : ¬ m < k + 1 := by omega
        simp [q, this]
theorem sfm_le (R F : Nat → Nat) (s : Nat) (o : Option Nat) (m : Nat) : ∀ k, sfm R F s o m k ≤ k := by
  intro k
  induction k with
  | zero => exact Nat.le_refl _
  | succ k ih => rw [sfm]; split <;> omega
theorem sfq_le (R F : Nat → Nat) (s : Nat) (o : Option Nat) : ∀ k, sfq R F s o k ≤ 4 * k := by
  intro k
  induction k with
  | zero => exact Nat.le_refl _
  | succ k ih => rw [sfq]; have := sfm_le R F s o k 4; omega
/-- a man by his number, or all -/
def zm (o : Option Nat) : Int32 := match o with
  | some k => nI k
  | none => -1
/-- the first man of the smallest number, as far as m -/
def sask (L : Nat → Nat) : Nat → Nat
  | 0 => 0
  | m + 1 => if m = 0 then 0 else if L m < L (sask L m) then m else sask L m
theorem sask_lt (L : Nat → Nat) : ∀ m, 0 < m → sask L m < m := by
  intro m
  induction m with
  | zero => intro h; omega
  | succ m ih =>
    intro _
    rw [sask]
    by_cases e : m = 0
    · simp [e]
    · simp only [e, if_false]
      split
      · omega
      · have := ih (by omega); omega
def sgo (S : Nat → Nat) (m p : Nat) : Nat → Nat := fun j => if j = 8 * m then p else if 8 * m < j ∧ j < 8 * m + 8 then S (j - 1) else S j
def sgk (S : Nat → Nat) (m k : Nat) : Nat → Nat := fun j => if 8 * m + k < j ∧ j < 8 * m + 8 then S (j - 1) else S j
theorem sgk_s (S : Nat → Nat) (m : Nat) {k : Nat} (hk : k < 7) : nup (sgk S m (k + 1)) (8 * m + (k + 1)) (S (8 * m + (k + 1) - 1)) = sgk S m k := by
  funext j
  by_cases e : j = 8 * m + (k + 1)
  · subst e
    have h : 8 * m + k < 8 * m + (k + 1) ∧ 8 * m + (k + 1) < 8 * m + 8 := by omega
    simp only [nup, sgk, if_pos h, if_true]
  · by_cases q : 8 * m + k < j ∧ j < 8 * m + 8
    · have q2 : 8 * m + (k + 1) < j ∧ j < 8 * m + 8 := by omega
      simp only [nup, sgk, if_neg e, if_pos q, if_pos q2]
    · have q2 : ¬ (8 * m + (k + 1) < j ∧ j < 8 * m + 8) := by omega
      simp only [nup, sgk, if_neg e, if_neg q, if_neg q2]
theorem sgk_0 (S : Nat → Nat) (m p : Nat) : nup (sgk S m 0) (8 * m) p = sgo S m p := by
  funext j
  by_cases e : j = 8 * m
  · subst e; simp [nup, sgo]
  · simp only [nup, sgk, sgo, if_neg e, Nat.add_zero]
theorem sgk_7 (S : Nat → Nat) (m : Nat) : sgk S m 7 = S := by
  funext j
  have h : ¬ (8 * m + 7 < j ∧ j < 8 * m + 8) := by omega
  simp only [sgk, if_neg h]
def ncpy (f g : Nat → Nat) (a b c : Nat) : Nat → Nat := fun j => if b ≤ j ∧ j < b + c then f (a + (j - b)) else g j
theorem ncpy_0 (f g : Nat → Nat) (a b : Nat) : ncpy f g a b 0 = g := by
  funext j
  have h : ¬ (b ≤ j ∧ j < b + 0) := by omega
  simp only [ncpy, if_neg h]
theorem ncpy_s (f g : Nat → Nat) (a b c : Nat) : nup (ncpy f g a b c) (b + c) (f (a + c)) = ncpy f g a b (c + 1) := by
  funext j
  by_cases e : j = b + c
  · subst e
    have h : b ≤ b + c ∧ b + c < b + (c + 1) := by omega
    simp only [nup, ncpy, if_pos h, if_true, Nat.add_sub_cancel_left]
  · by_cases q : b ≤ j ∧ j < b + c
    · have q2 : b ≤ j ∧ j < b + (c + 1) := by omega
      simp only [nup, ncpy, if_neg e, if_pos q, if_pos q2]
    · have q2 : ¬ (b ≤ j ∧ j < b + (c + 1)) := by omega
      simp only [nup, ncpy, if_neg e, if_neg q, if_neg q2]
theorem lz0 {y : Nat} (hy : y < 2 ^ 63) : lN y = 0 ↔ y = 0 := pk_lEQ (a := y) (b := 0) hy (Nat.two_pow_pos 63)
theorem lcz {y : Nat} (hy : y < 2 ^ 63) : lg_cmp (lN y) 0 = 0 ↔ y = 0 := by
  rw [← lz0 hy]
  unfold lg_cmp
  have h1 : ¬ lN y < 0 := fun z => by
    have := (pk_lLT (a := y) (b := 0) hy (Nat.two_pow_pos 63)).mp z
    omega
  by_cases e : lN y = 0
  · rw [e]; simp
  · constructor
    · intro z
      have h2 : (0 : Int64) < lN y := (pk_lLT (a := 0) (b := y) (Nat.two_pow_pos 63) hy).mpr (Nat.pos_of_ne_zero fun q => e (by rw [q]; rfl))
      simp [h2] at z
    · intro z; exact absurd z e
def skee (w : Nat) (k p : Bool) : Int32 := if k then (if p then 3 else -1) else if p then -nI w else 0
def spoa (w : Nat) (k p : Bool) : Int32 := if p then (if k then -nI w else nI w) else 0
def srest (w : Nat) (k p : Bool) : Bool := decide (skee w (!k) p ≤ skee w k p) && decide (spoa w k (!p) ≤ spoa w k p)

set_option maxRecDepth 20000 in
set_option maxHeartbeats 1000000 in
theorem tX12_fitting {h : ZH} {v : Nat → Int32} {R F : Nat → Nat} {s : Nat} {o : Option Nat} (hM : h 1063 = some (zO 8 (mfs v))) (hA : h 1066 = some (zI 241 R)) (hF : h 1068 = some (zI 40 F)) (hR : wfR R) (hS : wfS R F) (hs : s < R 5) (ho : ∀ m, o = some m → m < 4) : ZD mX12_fitting 3 [.ref 1063, .int (nI s), .int (zm o)] h (some (.int (nI (sfq R F s o (R 3))))) h := by
  intro n
  obtain ⟨w1, w3, w4, w5, w0, wP, wM, wK, wX⟩ := id hR
  obtain ⟨wT, wL, wB⟩ := id hS
  refine z_enter (lv := [(0, _), (1, _), (2, _)]) (by decide) (Nat.le_of_ble_eq_true rfl) rfl (fun X C => ?_)
  refine z_iconst (pc := 0) C dX12_fitting_0 (nI 0) (by decide) ?_
  refine z_istore_n (pc := 1) (lv' := [(3, _), (0, _), (1, _), (2, _)]) C dX12_fitting_1 (by decide) rfl ?_
  refine z_iconst (pc := 2) C dX12_fitting_2 (nI 0) (by decide) ?_
  refine z_istore (pc := 3) (lv' := [(4, _), (3, _), (0, _), (1, _), (2, _)]) C dX12_fitting_3 (by decide) rfl ?_
  refine z_sub (lv' := [(0, _), (1, _), (2, _), (3, _), (4, _)]) [2, 3, 4, 1, 0] rfl ?_
  have lp5 : ∀ (f : Nat) (m acc : Nat), (m + f = R 3 ∧ acc = sfq R F s o m) → Zc X mX12_fitting (zEnd X (fun r hh n' => r = (some (.int (nI (sfq R F s o (R 3))))) ∧ hh = h ∧ n' = n) 0 0) 5 [(0, .ref 1063), (1, .int (nI s)), (2, .int (zm o)), (3, .int (nI acc)), (4, .int (nI m))] [] h n 0 0 := by
    intro f
    induction f using Nat.strongRecOn with
    | _ f ih =>
      intro m acc hk
      obtain ⟨hk, he⟩ := hk
      have e0 := sfq_le R F s o m
      refine z_iload (pc := 5) C dX12_fitting_5 4 rfl ?_
      refine z_aload_n (pc := 7) C dX12_fitting_7 0 rfl ?_
      refine z_getf (pc := 8) C dX12_fitting_8 fX12_20 (by assumption) (by first | rfl | assumption) ?_
      refine z_iconst (pc := 11) C dX12_fitting_11 (nI 3) (by decide) ?_
      first | refine z_ialdN (pc := 12) C dX12_fitting_12 (by assumption) (by omega) (by decide) ?_ | refine z_ialdI (pc := 12) C dX12_fitting_12 (by assumption) (by omega) (by decide) ?_
      first | refine z_icmpgeN (pc := 13) C 67 dX12_fitting_13 (by decide) (by omega) (by omega) (fun hc13 => ?_) (fun hc13 => ?_) | refine z_icmp_ge (pc := 13) C 67 dX12_fitting_13 (by decide) (fun hc13 => ?_) (fun hc13 => ?_)
      · skip
        refine z_iload_n (pc := 67) C dX12_fitting_67 3 rfl ?_
        refine z_iret (pc := 68) C dX12_fitting_68 rfl (Nat.zero_le _) (Nat.zero_le _) ⟨?_, ?_, rfl⟩
        · obtain rfl : f = 0 := (by omega); obtain rfl : m = R 3 := (by omega); rw [he]
        · rfl
      · skip
        refine z_iconst (pc := 16) C dX12_fitting_16 (nI 0) (by decide) ?_
        refine z_istore (pc := 17) (lv' := [(5, _), (0, _), (1, _), (2, _), (3, _), (4, _)]) C dX12_fitting_17 (by decide) rfl ?_
        refine z_sub (lv' := [(0, _), (1, _), (2, _), (3, _), (4, _), (5, _)]) [1, 2, 3, 4, 5, 0] rfl ?_
        have lp19 : ∀ (f2 : Nat) (far ac2 : Nat), (far + f2 = 4 ∧ ac2 = acc + sfm R F s o m far) → Zc X mX12_fitting (zEnd X (fun r hh n' => r = (some (.int (nI (sfq R F s o (R 3))))) ∧ hh = h ∧ n' = n) 0 0) 19 [(0, .ref 1063), (1, .int (nI s)), (2, .int (zm o)), (3, .int (nI ac2)), (4, .int (nI m)), (5, .int (nI far))] [] h n 0 0 := by
          intro f2
          induction f2 using Nat.strongRecOn with
          | _ f2 ih2 =>
            intro far ac2 hk2
            obtain ⟨hk2, he2⟩ := hk2
            refine z_iload (pc := 19) C dX12_fitting_19 5 rfl ?_
            refine z_iconst (pc := 21) C dX12_fitting_21 (nI 4) (by decide) ?_
            first | refine z_icmpgeN (pc := 22) C 61 dX12_fitting_22 (by decide) (by omega) (by omega) (fun hc22 => ?_) (fun hc22 => ?_) | refine z_icmp_ge (pc := 22) C 61 dX12_fitting_22 (by decide) (fun hc22 => ?_) (fun hc22 => ?_)
            · skip
              first | refine z_iincN (pc := 61) (lv' := [(4, _), (0, _), (1, _), (2, _), (3, _), (5, _)]) C 1 dX12_fitting_61 4 rfl (by decide) (by decide) rfl ?_ | refine z_iinc (pc := 61) (lv' := [(4, _), (0, _), (1, _), (2, _), (3, _), (5, _)]) C dX12_fitting_61 4 rfl _ rfl (by decide) rfl ?_
              refine z_goto (pc := 64) C 5 dX12_fitting_64 (by decide) ?_
              refine z_sub (lv' := [(0, _), (1, _), (2, _), (3, _), (4, _)]) [1, 2, 3, 4, 0] rfl ?_
              exact ih (f - 1) (by omega) (m + 1) _ ⟨by omega, by obtain rfl : far = 4 := (by omega); rw [he2, he, sfq]⟩
            · skip
              refine z_iload_n (pc := 25) C dX12_fitting_25 3 rfl ?_
              refine z_iload_n (pc := 26) C dX12_fitting_26 2 rfl ?_
              refine z_if_lt (pc := 27) C 36 dX12_fitting_27 (by decide) (fun hc27 => ?_) (fun hc27 => ?_)
              · skip
                have e5 : o = none ∨ o = some m := by
                  cases o with
                  | none => exact Or.inl rfl
                  | some q => exact absurd hc27 (nI_pos (by have := ho q rfl; omega))
                refine z_aload_n (pc := 36) C dX12_fitting_36 0 rfl ?_
                refine z_iload_n (pc := 37) C dX12_fitting_37 1 rfl ?_
                refine z_iload (pc := 38) C dX12_fitting_38 4 rfl ?_
                refine z_iload (pc := 40) C dX12_fitting_40 5 rfl ?_
                refine z_cV1 (pc := 42) mX12_doesFit C [_, _, _] dX12_fitting_42 lX12_355 mtX12_doesFit (tX12_doesFit (by first | assumption | omega) (by first | assumption | omega) (by first | assumption | omega) (by first | assumption | omega) (by first | assumption | omega) (by first | assumption | omega) (by first | assumption | omega) (by first | assumption | omega)) (by assumption) rfl rfl (by decide) (Nat.le_of_ble_eq_true rfl) (Nat.zero_le _) (Nat.zero_le _) ?_
                first | refine z_ifeqB (pc := 45) C 52 dX12_fitting_45 (by decide) (fun hc45 => ?_) (fun hc45 => ?_) | refine z_ifeqN (pc := 45) C 52 dX12_fitting_45 (by decide) (by omega) (fun hc45 => ?_) (fun hc45 => ?_) | refine z_if_eq (pc := 45) C 52 dX12_fitting_45 (by decide) (fun hc45 => ?_) (fun hc45 => ?_)
                · skip
                  refine z_iconst (pc := 52) C dX12_fitting_52 (nI 0) (by decide) ?_
                  first | refine z_iaddN (pc := 53) C dX12_fitting_53 ?_ | refine z_iadd (pc := 53) C dX12_fitting_53 ?_
                  refine z_istore_n (pc := 54) (lv' := [(3, _), (0, _), (1, _), (2, _), (4, _), (5, _)]) C dX12_fitting_54 (by decide) rfl ?_
                  first | refine z_iincN (pc := 55) (lv' := [(5, _), (3, _), (0, _), (1, _), (2, _), (4, _)]) C 1 dX12_fitting_55 5 rfl (by decide) (by decide) rfl ?_ | refine z_iinc (pc := 55) (lv' := [(5, _), (3, _), (0, _), (1, _), (2, _), (4, _)]) C dX12_fitting_55 5 rfl _ rfl (by decide) rfl ?_
                  refine z_goto (pc := 58) C 19 dX12_fitting_58 (by decide) ?_
                  refine z_sub (lv' := [(0, _), (1, _), (2, _), (3, _), (4, _), (5, _)]) [2, 3, 4, 1, 5, 0] rfl ?_
                  exact ih2 (f2 - 1) (by omega) (far + 1) _ ⟨by omega, by rw [he2, sfm]; clear ih ih2 he he2; (try clear e6); simp [*, Nat.add_assoc]⟩
                · skip
                  refine z_iconst (pc := 48) C dX12_fitting_48 (nI 1) (by decide) ?_
                  refine z_goto (pc := 49) C 53 dX12_fitting_49 (by decide) ?_
                  first | refine z_iaddN (pc := 53) C dX12_fitting_53 ?_ | refine z_iadd (pc := 53) C dX12_fitting_53 ?_
                  refine z_istore_n (pc := 54) (lv' := [(3, _), (0, _), (1, _), (2, _), (4, _), (5, _)]) C dX12_fitting_54 (by decide) rfl ?_
                  first | refine z_iincN (pc := 55) (lv' := [(5, _), (3, _), (0, _), (1, _), (2, _), (4, _)]) C 1 dX12_fitting_55 5 rfl (by decide) (by decide) rfl ?_ | refine z_iinc (pc := 55) (lv' := [(5, _), (3, _), (0, _), (1, _), (2, _), (4, _)]) C dX12_fitting_55 5 rfl _ rfl (by decide) rfl ?_
                  refine z_goto (pc := 58) C 19 dX12_fitting_58 (by decide) ?_
                  refine z_sub (lv' := [(0, _), (1, _), (2, _), (3, _), (4, _), (5, _)]) [2, 3, 4, 1, 5, 0] rfl ?_
                  exact ih2 (f2 - 1) (by omega) (far + 1) _ ⟨by omega, by rw [he2, sfm]; clear ih ih2 he he2; (try clear e6); simp [*, Nat.add_assoc]⟩
              · skip
                obtain ⟨q, e6⟩ : ∃ q, o = some q := by
                  cases o with
                  | none => exact absurd (by decide : (-1 : Int32) < 0) hc27
                  | some q => exact ⟨q, rfl⟩
                have e8 := ho q e6
                refine z_iload (pc := 30) C dX12_fitting_30 4 rfl ?_
                refine z_iload_n (pc := 32) C dX12_fitting_32 2 rfl ?_
                refine z_icmp_ne (pc := 33) C 52 dX12_fitting_33 (by decide) (fun hc33 => ?_) (fun hc33 => ?_)
                · skip
                  have e7 : ¬ (o = none ∨ o = some m) := fun z => hc33 (by
                    rcases z with z | z
                    · rw [e6] at z; cases z
                    · rw [z]; rfl)
                  refine z_iconst (pc := 52) C dX12_fitting_52 (nI 0) (by decide) ?_
                  first | refine z_iaddN (pc := 53) C dX12_fitting_53 ?_ | refine z_iadd (pc := 53) C dX12_fitting_53 ?_
                  refine z_istore_n (pc := 54) (lv' := [(3, _), (0, _), (1, _), (2, _), (4, _), (5, _)]) C dX12_fitting_54 (by decide) rfl ?_
                  first | refine z_iincN (pc := 55) (lv' := [(5, _), (3, _), (0, _), (1, _), (2, _), (4, _)]) C 1 dX12_fitting_55 5 rfl (by decide) (by decide) rfl ?_ | refine z_iinc (pc := 55) (lv' := [(5, _), (3, _), (0, _), (1, _), (2, _), (4, _)]) C dX12_fitting_55 5 rfl _ rfl (by decide) rfl ?_
                  refine z_goto (pc := 58) C 19 dX12_fitting_58 (by decide) ?_
                  refine z_sub (lv' := [(0, _), (1, _), (2, _), (3, _), (4, _), (5, _)]) [2, 3, 4, 1, 5, 0] rfl ?_
                  exact ih2 (f2 - 1) (by omega) (far + 1) _ ⟨by omega, by rw [he2, sfm]; clear ih ih2 he he2; (try clear e6); simp [*, Nat.add_assoc]⟩
                · skip
                  have e5 : o = none ∨ o = some m := by
                    rw [e6] at hc33
                    exact Or.inr (by rw [e6, (nI_eqI (by omega) (by omega)).mp hc33])
                  refine z_aload_n (pc := 36) C dX12_fitting_36 0 rfl ?_
                  refine z_iload_n (pc := 37) C dX12_fitting_37 1 rfl ?_
                  refine z_iload (pc := 38) C dX12_fitting_38 4 rfl ?_
                  refine z_iload (pc := 40) C dX12_fitting_40 5 rfl ?_
                  refine z_cV1 (pc := 42) mX12_doesFit C [_, _, _] dX12_fitting_42 lX12_355 mtX12_doesFit (tX12_doesFit (by first | assumption | omega) (by first | assumption | omega) (by first | assumption | omega) (by first | assumption | omega) (by first | assumption | omega) (by first | assumption | omega) (by first | assumption | omega) (by first | assumption | omega)) (by assumption) rfl rfl (by decide) (Nat.le_of_ble_eq_true rfl) (Nat.zero_le _) (Nat.zero_le _) ?_
                  first | refine z_ifeqB (pc := 45) C 52 dX12_fitting_45 (by decide) (fun hc45 => ?_) (fun hc45 => ?_) | refine z_ifeqN (pc := 45) C 52 dX12_fitting_45 (by decide) (by omega) (fun hc45 => ?_) (fun hc45 => ?_) | refine z_if_eq (pc := 45) C 52 dX12_fitting_45 (by decide) (fun hc45 => ?_) (fun hc45 => ?_)
                  · skip
                    refine z_iconst (pc := 52) C dX12_fitting_52 (nI 0) (by decide) ?_
                    first | refine z_iaddN (pc := 53) C dX12_fitting_53 ?_ | refine z_iadd (pc := 53) C dX12_fitting_53 ?_
                    refine z_istore_n (pc := 54) (lv' := [(3, _), (0, _), (1, _), (2, _), (4, _), (5, _)]) C dX12_fitting_54 (by decide) rfl ?_
                    first | refine z_iincN (pc := 55) (lv' := [(5, _), (3, _), (0, _), (1, _), (2, _), (4, _)]) C 1 dX12_fitting_55 5 rfl (by decide) (by decide) rfl ?_ | refine z_iinc (pc := 55) (lv' := [(5, _), (3, _), (0, _), (1, _), (2, _), (4, _)]) C dX12_fitting_55 5 rfl _ rfl (by decide) rfl ?_
                    refine z_goto (pc := 58) C 19 dX12_fitting_58 (by decide) ?_
                    refine z_sub (lv' := [(0, _), (1, _), (2, _), (3, _), (4, _), (5, _)]) [2, 3, 4, 1, 5, 0] rfl ?_
                    exact ih2 (f2 - 1) (by omega) (far + 1) _ ⟨by omega, by rw [he2, sfm]; clear ih ih2 he he2; (try clear e6); simp [*, Nat.add_assoc]⟩
                  · skip
                    refine z_iconst (pc := 48) C dX12_fitting_48 (nI 1) (by decide) ?_
                    refine z_goto (pc := 49) C 53 dX12_fitting_49 (by decide) ?_
                    first | refine z_iaddN (pc := 53) C dX12_fitting_53 ?_ | refine z_iadd (pc := 53) C dX12_fitting_53 ?_
                    refine z_istore_n (pc := 54) (lv' := [(3, _), (0, _), (1, _), (2, _), (4, _), (5, _)]) C dX12_fitting_54 (by decide) rfl ?_
                    first | refine z_iincN (pc := 55) (lv' := [(5, _), (3, _), (0, _), (1, _), (2, _), (4, _)]) C 1 dX12_fitting_55 5 rfl (by decide) (by decide) rfl ?_ | refine z_iinc (pc := 55) (lv' := [(5, _), (3, _), (0, _), (1, _), (2, _), (4, _)]) C dX12_fitting_55 5 rfl _ rfl (by decide) rfl ?_
                    refine z_goto (pc := 58) C 19 dX12_fitting_58 (by decide) ?_
                    refine z_sub (lv' := [(0, _), (1, _), (2, _), (3, _), (4, _), (5, _)]) [2, 3, 4, 1, 5, 0] rfl ?_
                    exact ih2 (f2 - 1) (by omega) (far + 1) _ ⟨by omega, by rw [he2, sfm]; clear ih ih2 he he2; (try clear e6); simp [*, Nat.add_assoc]⟩
        exact lp19 4 0 _ ⟨by omega, rfl⟩
  exact lp5 (R 3) 0 0 ⟨by omega, rfl⟩

set_option maxRecDepth 20000 in
set_option maxHeartbeats 1000000 in
theorem tX12_keepers {h : ZH} {w : Nat} {k p : Bool}  : ZD mX12_keepers 0 [.int (nI w), .int (zb k), .int (zb p)] h (some (.int (skee w k p))) h := by
  intro n
  refine z_enter (lv := [(0, _), (1, _), (2, _)]) (by decide) (Nat.le_of_ble_eq_true rfl) rfl (fun X C => ?_)
  refine z_iload_n (pc := 0) C dX12_keepers_0 1 rfl ?_
  first | refine z_ifeqB (pc := 1) C 16 dX12_keepers_1 (by decide) (fun hc1 => ?_) (fun hc1 => ?_) | refine z_ifeqN (pc := 1) C 16 dX12_keepers_1 (by decide) (by omega) (fun hc1 => ?_) (fun hc1 => ?_) | refine z_if_eq (pc := 1) C 16 dX12_keepers_1 (by decide) (fun hc1 => ?_) (fun hc1 => ?_)
  · skip
    refine z_iload_n (pc := 16) C dX12_keepers_16 2 rfl ?_
    first | refine z_ifeqB (pc := 17) C 25 dX12_keepers_17 (by decide) (fun hc17 => ?_) (fun hc17 => ?_) | refine z_ifeqN (pc := 17) C 25 dX12_keepers_17 (by decide) (by omega) (fun hc17 => ?_) (fun hc17 => ?_) | refine z_if_eq (pc := 17) C 25 dX12_keepers_17 (by decide) (fun hc17 => ?_) (fun hc17 => ?_)
    · skip
      refine z_iconst (pc := 25) C dX12_keepers_25 (nI 0) (by decide) ?_
      refine z_iret (pc := 26) C dX12_keepers_26 rfl (Nat.zero_le _) (Nat.zero_le _) ⟨?_, ?_, rfl⟩
      · simp [skee, *] <;> rfl
      · rfl
    · skip
      refine z_iload_n (pc := 20) C dX12_keepers_20 0 rfl ?_
      refine z_ineg (pc := 21) C dX12_keepers_21 ?_
      refine z_goto (pc := 22) C 26 dX12_keepers_22 (by decide) ?_
      refine z_iret (pc := 26) C dX12_keepers_26 rfl (Nat.zero_le _) (Nat.zero_le _) ⟨?_, ?_, rfl⟩
      · simp [skee, *] <;> rfl
      · rfl
  · skip
    refine z_iload_n (pc := 4) C dX12_keepers_4 2 rfl ?_
    first | refine z_ifeqB (pc := 5) C 12 dX12_keepers_5 (by decide) (fun hc5 => ?_) (fun hc5 => ?_) | refine z_ifeqN (pc := 5) C 12 dX12_keepers_5 (by decide) (by omega) (fun hc5 => ?_) (fun hc5 => ?_) | refine z_if_eq (pc := 5) C 12 dX12_keepers_5 (by decide) (fun hc5 => ?_) (fun hc5 => ?_)
    · skip
      refine z_iconst (pc := 12) C dX12_keepers_12 (-1) (by decide) ?_
      refine z_goto (pc := 13) C 26 dX12_keepers_13 (by decide) ?_
      refine z_iret (pc := 26) C dX12_keepers_26 rfl (Nat.zero_le _) (Nat.zero_le _) ⟨?_, ?_, rfl⟩
      · simp [skee, *] <;> rfl
      · rfl
    · skip
      refine z_iconst (pc := 8) C dX12_keepers_8 (nI 3) (by decide) ?_
      refine z_goto (pc := 9) C 26 dX12_keepers_9 (by decide) ?_
      refine z_iret (pc := 26) C dX12_keepers_26 rfl (Nat.zero_le _) (Nat.zero_le _) ⟨?_, ?_, rfl⟩
      · simp [skee, *] <;> rfl
      · rfl

set_option maxRecDepth 20000 in
set_option maxHeartbeats 1000000 in
theorem tX12_poachers {h : ZH} {w : Nat} {k p : Bool}  : ZD mX12_poachers 0 [.int (nI w), .int (zb k), .int (zb p)] h (some (.int (spoa w k p))) h := by
  intro n
  refine z_enter (lv := [(0, _), (1, _), (2, _)]) (by decide) (Nat.le_of_ble_eq_true rfl) rfl (fun X C => ?_)
  refine z_iload_n (pc := 0) C dX12_poachers_0 2 rfl ?_
  first | refine z_ifneB (pc := 1) C 8 dX12_poachers_1 (by decide) (fun hc1 => ?_) (fun hc1 => ?_) | refine z_ifneN (pc := 1) C 8 dX12_poachers_1 (by decide) (by omega) (fun hc1 => ?_) (fun hc1 => ?_) | refine z_if_ne (pc := 1) C 8 dX12_poachers_1 (by decide) (fun hc1 => ?_) (fun hc1 => ?_)
  · skip
    refine z_iload_n (pc := 8) C dX12_poachers_8 1 rfl ?_
    first | refine z_ifeqB (pc := 9) C 17 dX12_poachers_9 (by decide) (fun hc9 => ?_) (fun hc9 => ?_) | refine z_ifeqN (pc := 9) C 17 dX12_poachers_9 (by decide) (by omega) (fun hc9 => ?_) (fun hc9 => ?_) | refine z_if_eq (pc := 9) C 17 dX12_poachers_9 (by decide) (fun hc9 => ?_) (fun hc9 => ?_)
    · skip
      refine z_iload_n (pc := 17) C dX12_poachers_17 0 rfl ?_
      refine z_iret (pc := 18) C dX12_poachers_18 rfl (Nat.zero_le _) (Nat.zero_le _) ⟨?_, ?_, rfl⟩
      · simp [spoa, *] <;> rfl
      · rfl
    · skip
      refine z_iload_n (pc := 12) C dX12_poachers_12 0 rfl ?_
      refine z_ineg (pc := 13) C dX12_poachers_13 ?_
      refine z_goto (pc := 14) C 18 dX12_poachers_14 (by decide) ?_
      refine z_iret (pc := 18) C dX12_poachers_18 rfl (Nat.zero_le _) (Nat.zero_le _) ⟨?_, ?_, rfl⟩
      · simp [spoa, *] <;> rfl
      · rfl
  · skip
    refine z_iconst (pc := 4) C dX12_poachers_4 (nI 0) (by decide) ?_
    refine z_goto (pc := 5) C 18 dX12_poachers_5 (by decide) ?_
    refine z_iret (pc := 18) C dX12_poachers_18 rfl (Nat.zero_le _) (Nat.zero_le _) ⟨?_, ?_, rfl⟩
    · simp [spoa, *] <;> rfl
    · rfl

set_option maxRecDepth 20000 in
set_option maxHeartbeats 1000000 in
theorem tX12_isRest {h : ZH} {w : Nat} {k p : Bool}  : ZD mX12_isRest 1 [.int (nI w), .int (zb k), .int (zb p)] h (some (.int (zb (srest w k p)))) h := by
  intro n
  refine z_enter (lv := [(0, _), (1, _), (2, _)]) (by decide) (Nat.le_of_ble_eq_true rfl) rfl (fun X C => ?_)
  refine z_iload_n (pc := 0) C dX12_isRest_0 0 rfl ?_
  refine z_iload_n (pc := 1) C dX12_isRest_1 1 rfl ?_
  first | refine z_ifneB (pc := 2) C 9 dX12_isRest_2 (by decide) (fun hc2 => ?_) (fun hc2 => ?_) | refine z_ifneN (pc := 2) C 9 dX12_isRest_2 (by decide) (by omega) (fun hc2 => ?_) (fun hc2 => ?_) | refine z_if_ne (pc := 2) C 9 dX12_isRest_2 (by decide) (fun hc2 => ?_) (fun hc2 => ?_)
  · skip
    refine z_iconst (pc := 9) C dX12_isRest_9 (zb false) (by decide) ?_
    refine z_iload_n (pc := 10) C dX12_isRest_10 2 rfl ?_
    refine z_cS1 (pc := 11) mX12_keepers C [_, _, _] dX12_isRest_11 lX12_374 mtX12_keepers tX12_keepers rfl rfl (by decide) (Nat.le_of_ble_eq_true rfl) (Nat.zero_le _) (Nat.zero_le _) ?_
    refine z_iload_n (pc := 14) C dX12_isRest_14 0 rfl ?_
    refine z_iload_n (pc := 15) C dX12_isRest_15 1 rfl ?_
    refine z_iload_n (pc := 16) C dX12_isRest_16 2 rfl ?_
    refine z_cS1 (pc := 17) mX12_keepers C [_, _, _] dX12_isRest_17 lX12_374 mtX12_keepers tX12_keepers rfl rfl (by decide) (Nat.le_of_ble_eq_true rfl) (Nat.zero_le _) (Nat.zero_le _) ?_
    refine z_icmp_gt (pc := 20) C 50 dX12_isRest_20 (by decide) (fun hc20 => ?_) (fun hc20 => ?_)
    · skip
      refine z_iconst (pc := 50) C dX12_isRest_50 (zb false) (by decide) ?_
      refine z_zret (pc := 51) C dX12_isRest_51 rfl (by first | exact zb_nar _ | rfl) (Nat.zero_le _) (Nat.zero_le _) ⟨?_, ?_, rfl⟩
      · subst_vars; simp only [srest, Bool.not_true, Bool.not_false]; first | (rw [decide_eq_false (Int32.not_le.mpr hc20)]; rfl) | (rw [decide_eq_true (Int32.not_lt.mp hc20), decide_eq_false (Int32.not_le.mpr hc43)]; rfl) | (rw [decide_eq_true (Int32.not_lt.mp hc20), decide_eq_true (Int32.not_lt.mp hc43)]; rfl)
      · rfl
    · skip
      refine z_iload_n (pc := 23) C dX12_isRest_23 0 rfl ?_
      refine z_iload_n (pc := 24) C dX12_isRest_24 1 rfl ?_
      refine z_iload_n (pc := 25) C dX12_isRest_25 2 rfl ?_
      first | refine z_ifneB (pc := 26) C 33 dX12_isRest_26 (by decide) (fun hc26 => ?_) (fun hc26 => ?_) | refine z_ifneN (pc := 26) C 33 dX12_isRest_26 (by decide) (by omega) (fun hc26 => ?_) (fun hc26 => ?_) | refine z_if_ne (pc := 26) C 33 dX12_isRest_26 (by decide) (fun hc26 => ?_) (fun hc26 => ?_)
      · skip
        refine z_iconst (pc := 33) C dX12_isRest_33 (zb false) (by decide) ?_
        refine z_cS1 (pc := 34) mX12_poachers C [_, _, _] dX12_isRest_34 lX12_370 mtX12_poachers tX12_poachers rfl rfl (by decide) (Nat.le_of_ble_eq_true rfl) (Nat.zero_le _) (Nat.zero_le _) ?_
        refine z_iload_n (pc := 37) C dX12_isRest_37 0 rfl ?_
        refine z_iload_n (pc := 38) C dX12_isRest_38 1 rfl ?_
        refine z_iload_n (pc := 39) C dX12_isRest_39 2 rfl ?_
        refine z_cS1 (pc := 40) mX12_poachers C [_, _, _] dX12_isRest_40 lX12_370 mtX12_poachers tX12_poachers rfl rfl (by decide) (Nat.le_of_ble_eq_true rfl) (Nat.zero_le _) (Nat.zero_le _) ?_
        refine z_icmp_gt (pc := 43) C 50 dX12_isRest_43 (by decide) (fun hc43 => ?_) (fun hc43 => ?_)
        · skip
          refine z_iconst (pc := 50) C dX12_isRest_50 (zb false) (by decide) ?_
          refine z_zret (pc := 51) C dX12_isRest_51 rfl (by first | exact zb_nar _ | rfl) (Nat.zero_le _) (Nat.zero_le _) ⟨?_, ?_, rfl⟩
          · subst_vars; simp only [srest, Bool.not_true, Bool.not_false]; first | (rw [decide_eq_false (Int32.not_le.mpr hc20)]; rfl) | (rw [decide_eq_true (Int32.not_lt.mp hc20), decide_eq_false (Int32.not_le.mpr hc43)]; rfl) | (rw [decide_eq_true (Int32.not_lt.mp hc20), decide_eq_true (Int32.not_lt.mp hc43)]; rfl)
          · rfl
        · skip
          refine z_iconst (pc := 46) C dX12_isRest_46 (zb true) (by decide) ?_
          refine z_goto (pc := 47) C 51 dX12_isRest_47 (by decide) ?_
          refine z_zret (pc := 51) C dX12_isRest_51 rfl (by first | exact zb_nar _ | rfl) (Nat.zero_le _) (Nat.zero_le _) ⟨?_, ?_, rfl⟩
          · subst_vars; simp only [srest, Bool.not_true, Bool.not_false]; first | (rw [decide_eq_false (Int32.not_le.mpr hc20)]; rfl) | (rw [decide_eq_true (Int32.not_lt.mp hc20), decide_eq_false (Int32.not_le.mpr hc43)]; rfl) | (rw [decide_eq_true (Int32.not_lt.mp hc20), decide_eq_true (Int32.not_lt.mp hc43)]; rfl)
          · rfl
      · skip
        refine z_iconst (pc := 29) C dX12_isRest_29 (zb true) (by decide) ?_
        refine z_goto (pc := 30) C 34 dX12_isRest_30 (by decide) ?_
        refine z_cS1 (pc := 34) mX12_poachers C [_, _, _] dX12_isRest_34 lX12_370 mtX12_poachers tX12_poachers rfl rfl (by decide) (Nat.le_of_ble_eq_true rfl) (Nat.zero_le _) (Nat.zero_le _) ?_
        refine z_iload_n (pc := 37) C dX12_isRest_37 0 rfl ?_
        refine z_iload_n (pc := 38) C dX12_isRest_38 1 rfl ?_
        refine z_iload_n (pc := 39) C dX12_isRest_39 2 rfl ?_
        refine z_cS1 (pc := 40) mX12_poachers C [_, _, _] dX12_isRest_40 lX12_370 mtX12_poachers tX12_poachers rfl rfl (by decide) (Nat.le_of_ble_eq_true rfl) (Nat.zero_le _) (Nat.zero_le _) ?_
        refine z_icmp_gt (pc := 43) C 50 dX12_isRest_43 (by decide) (fun hc43 => ?_) (fun hc43 => ?_)
        · skip
          refine z_iconst (pc := 50) C dX12_isRest_50 (zb false) (by decide) ?_
          refine z_zret (pc := 51) C dX12_isRest_51 rfl (by first | exact zb_nar _ | rfl) (Nat.zero_le _) (Nat.zero_le _) ⟨?_, ?_, rfl⟩
          · subst_vars; simp only [srest, Bool.not_true, Bool.not_false]; first | (rw [decide_eq_false (Int32.not_le.mpr hc20)]; rfl) | (rw [decide_eq_true (Int32.not_lt.mp hc20), decide_eq_false (Int32.not_le.mpr hc43)]; rfl) | (rw [decide_eq_true (Int32.not_lt.mp hc20), decide_eq_true (Int32.not_lt.mp hc43)]; rfl)
          · rfl
        · skip
          refine z_iconst (pc := 46) C dX12_isRest_46 (zb true) (by decide) ?_
          refine z_goto (pc := 47) C 51 dX12_isRest_47 (by decide) ?_
          refine z_zret (pc := 51) C dX12_isRest_51 rfl (by first | exact zb_nar _ | rfl) (Nat.zero_le _) (Nat.zero_le _) ⟨?_, ?_, rfl⟩
          · subst_vars; simp only [srest, Bool.not_true, Bool.not_false]; first | (rw [decide_eq_false (Int32.not_le.mpr hc20)]; rfl) | (rw [decide_eq_true (Int32.not_lt.mp hc20), decide_eq_false (Int32.not_le.mpr hc43)]; rfl) | (rw [decide_eq_true (Int32.not_lt.mp hc20), decide_eq_true (Int32.not_lt.mp hc43)]; rfl)
          · rfl
  · skip
    refine z_iconst (pc := 5) C dX12_isRest_5 (zb true) (by decide) ?_
    refine z_goto (pc := 6) C 10 dX12_isRest_6 (by decide) ?_
    refine z_iload_n (pc := 10) C dX12_isRest_10 2 rfl ?_
    refine z_cS1 (pc := 11) mX12_keepers C [_, _, _] dX12_isRest_11 lX12_374 mtX12_keepers tX12_keepers rfl rfl (by decide) (Nat.le_of_ble_eq_true rfl) (Nat.zero_le _) (Nat.zero_le _) ?_
    refine z_iload_n (pc := 14) C dX12_isRest_14 0 rfl ?_
    refine z_iload_n (pc := 15) C dX12_isRest_15 1 rfl ?_
    refine z_iload_n (pc := 16) C dX12_isRest_16 2 rfl ?_
    refine z_cS1 (pc := 17) mX12_keepers C [_, _, _] dX12_isRest_17 lX12_374 mtX12_keepers tX12_keepers rfl rfl (by decide) (Nat.le_of_ble_eq_true rfl) (Nat.zero_le _) (Nat.zero_le _) ?_
    refine z_icmp_gt (pc := 20) C 50 dX12_isRest_20 (by decide) (fun hc20 => ?_) (fun hc20 => ?_)
    · skip
      refine z_iconst (pc := 50) C dX12_isRest_50 (zb false) (by decide) ?_
      refine z_zret (pc := 51) C dX12_isRest_51 rfl (by first | exact zb_nar _ | rfl) (Nat.zero_le _) (Nat.zero_le _) ⟨?_, ?_, rfl⟩
      · subst_vars; simp only [srest, Bool.not_true, Bool.not_false]; first | (rw [decide_eq_false (Int32.not_le.mpr hc20)]; rfl) | (rw [decide_eq_true (Int32.not_lt.mp hc20), decide_eq_false (Int32.not_le.mpr hc43)]; rfl) | (rw [decide_eq_true (Int32.not_lt.mp hc20), decide_eq_true (Int32.not_lt.mp hc43)]; rfl)
      · rfl
    · skip
      refine z_iload_n (pc := 23) C dX12_isRest_23 0 rfl ?_
      refine z_iload_n (pc := 24) C dX12_isRest_24 1 rfl ?_
      refine z_iload_n (pc := 25) C dX12_isRest_25 2 rfl ?_
      first | refine z_ifneB (pc := 26) C 33 dX12_isRest_26 (by decide) (fun hc26 => ?_) (fun hc26 => ?_) | refine z_ifneN (pc := 26) C 33 dX12_isRest_26 (by decide) (by omega) (fun hc26 => ?_) (fun hc26 => ?_) | refine z_if_ne (pc := 26) C 33 dX12_isRest_26 (by decide) (fun hc26 => ?_) (fun hc26 => ?_)
      · skip
        refine z_iconst (pc := 33) C dX12_isRest_33 (zb false) (by decide) ?_
        refine z_cS1 (pc := 34) mX12_poachers C [_, _, _] dX12_isRest_34 lX12_370 mtX12_poachers tX12_poachers rfl rfl (by decide) (Nat.le_of_ble_eq_true rfl) (Nat.zero_le _) (Nat.zero_le _) ?_
        refine z_iload_n (pc := 37) C dX12_isRest_37 0 rfl ?_
        refine z_iload_n (pc := 38) C dX12_isRest_38 1 rfl ?_
        refine z_iload_n (pc := 39) C dX12_isRest_39 2 rfl ?_
        refine z_cS1 (pc := 40) mX12_poachers C [_, _, _] dX12_isRest_40 lX12_370 mtX12_poachers tX12_poachers rfl rfl (by decide) (Nat.le_of_ble_eq_true rfl) (Nat.zero_le _) (Nat.zero_le _) ?_
        refine z_icmp_gt (pc := 43) C 50 dX12_isRest_43 (by decide) (fun hc43 => ?_) (fun hc43 => ?_)
        · skip
          refine z_iconst (pc := 50) C dX12_isRest_50 (zb false) (by decide) ?_
          refine z_zret (pc := 51) C dX12_isRest_51 rfl (by first | exact zb_nar _ | rfl) (Nat.zero_le _) (Nat.zero_le _) ⟨?_, ?_, rfl⟩
          · subst_vars; simp only [srest, Bool.not_true, Bool.not_false]; first | (rw [decide_eq_false (Int32.not_le.mpr hc20)]; rfl) | (rw [decide_eq_true (Int32.not_lt.mp hc20), decide_eq_false (Int32.not_le.mpr hc43)]; rfl) | (rw [decide_eq_true (Int32.not_lt.mp hc20), decide_eq_true (Int32.not_lt.mp hc43)]; rfl)
          · rfl
        · skip
          refine z_iconst (pc := 46) C dX12_isRest_46 (zb true) (by decide) ?_
          refine z_goto (pc := 47) C 51 dX12_isRest_47 (by decide) ?_
          refine z_zret (pc := 51) C dX12_isRest_51 rfl (by first | exact zb_nar _ | rfl) (Nat.zero_le _) (Nat.zero_le _) ⟨?_, ?_, rfl⟩
          · subst_vars; simp only [srest, Bool.not_true, Bool.not_false]; first | (rw [decide_eq_false (Int32.not_le.mpr hc20)]; rfl) | (rw [decide_eq_true (Int32.not_lt.mp hc20), decide_eq_false (Int32.not_le.mpr hc43)]; rfl) | (rw [decide_eq_true (Int32.not_lt.mp hc20), decide_eq_true (Int32.not_lt.mp hc43)]; rfl)
          · rfl
      · skip
        refine z_iconst (pc := 29) C dX12_isRest_29 (zb true) (by decide) ?_
        refine z_goto (pc := 30) C 34 dX12_isRest_30 (by decide) ?_
        refine z_cS1 (pc := 34) mX12_poachers C [_, _, _] dX12_isRest_34 lX12_370 mtX12_poachers tX12_poachers rfl rfl (by decide) (Nat.le_of_ble_eq_true rfl) (Nat.zero_le _) (Nat.zero_le _) ?_
        refine z_iload_n (pc := 37) C dX12_isRest_37 0 rfl ?_
        refine z_iload_n (pc := 38) C dX12_isRest_38 1 rfl ?_
        refine z_iload_n (pc := 39) C dX12_isRest_39 2 rfl ?_
        refine z_cS1 (pc := 40) mX12_poachers C [_, _, _] dX12_isRest_40 lX12_370 mtX12_poachers tX12_poachers rfl rfl (by decide) (Nat.le_of_ble_eq_true rfl) (Nat.zero_le _) (Nat.zero_le _) ?_
        refine z_icmp_gt (pc := 43) C 50 dX12_isRest_43 (by decide) (fun hc43 => ?_) (fun hc43 => ?_)
        · skip
          refine z_iconst (pc := 50) C dX12_isRest_50 (zb false) (by decide) ?_
          refine z_zret (pc := 51) C dX12_isRest_51 rfl (by first | exact zb_nar _ | rfl) (Nat.zero_le _) (Nat.zero_le _) ⟨?_, ?_, rfl⟩
          · subst_vars; simp only [srest, Bool.not_true, Bool.not_false]; first | (rw [decide_eq_false (Int32.not_le.mpr hc20)]; rfl) | (rw [decide_eq_true (Int32.not_lt.mp hc20), decide_eq_false (Int32.not_le.mpr hc43)]; rfl) | (rw [decide_eq_true (Int32.not_lt.mp hc20), decide_eq_true (Int32.not_lt.mp hc43)]; rfl)
          · rfl
        · skip
          refine z_iconst (pc := 46) C dX12_isRest_46 (zb true) (by decide) ?_
          refine z_goto (pc := 47) C 51 dX12_isRest_47 (by decide) ?_
          refine z_zret (pc := 51) C dX12_isRest_51 rfl (by first | exact zb_nar _ | rfl) (Nat.zero_le _) (Nat.zero_le _) ⟨?_, ?_, rfl⟩
          · subst_vars; simp only [srest, Bool.not_true, Bool.not_false]; first | (rw [decide_eq_false (Int32.not_le.mpr hc20)]; rfl) | (rw [decide_eq_true (Int32.not_lt.mp hc20), decide_eq_false (Int32.not_le.mpr hc43)]; rfl) | (rw [decide_eq_true (Int32.not_lt.mp hc20), decide_eq_true (Int32.not_lt.mp hc43)]; rfl)
          · rfl

set_option maxRecDepth 20000 in
set_option maxHeartbeats 1000000 in
theorem tX12_areMet {h : ZH} {v : Nat → Int32} {R T : Nat → Nat} (hM : h 1063 = some (zO 8 (mfs v))) (hA : h 1066 = some (zI 241 R)) (hT : h 1073 = some (zI 40 T)) (hR : wfR R) (hS : wfS R T) : ZD mX12_areMet 0 [.ref 1063] h (some (.int (zb (decide (∃ m, m < R 3 ∧ ∃ o, o < m ∧ T (8 * m) = T (8 * o)))))) h := by
  intro n
  obtain ⟨w1, w3, w4, w5, w0, wP, wM, wK, wX⟩ := id hR
  obtain ⟨wT, wL, wB⟩ := id hS
  refine z_enter (lv := [(0, _)]) (by decide) (Nat.le_of_ble_eq_true rfl) rfl (fun X C => ?_)
  refine z_iconst (pc := 0) C dX12_areMet_0 (nI 0) (by decide) ?_
  refine z_istore_n (pc := 1) (lv' := [(1, _), (0, _)]) C dX12_areMet_1 (by decide) rfl ?_
  refine z_sub (lv' := [(0, _), (1, _)]) [1, 0] rfl ?_
  have lp2 : ∀ (f : Nat) (m : Nat), (m + f = R 3 ∧ ∀ a, a < m → ∀ b, b < a → T (8 * a) ≠ T (8 * b)) → Zc X mX12_areMet (zEnd X (fun r hh n' => r = (some (.int (zb (decide (∃ m, m < R 3 ∧ ∃ o, o < m ∧ T (8 * m) = T (8 * o)))))) ∧ hh = h ∧ n' = n) 0 0) 2 [(0, .ref 1063), (1, .int (nI m))] [] h n 0 0 := by
    intro f
    induction f using Nat.strongRecOn with
    | _ f ih =>
      intro m hk
      obtain ⟨hk, he⟩ := hk
      refine z_iload_n (pc := 2) C dX12_areMet_2 1 rfl ?_
      refine z_aload_n (pc := 3) C dX12_areMet_3 0 rfl ?_
      refine z_getf (pc := 4) C dX12_areMet_4 fX12_20 (by assumption) (by first | rfl | assumption) ?_
      refine z_iconst (pc := 7) C dX12_areMet_7 (nI 3) (by decide) ?_
      first | refine z_ialdN (pc := 8) C dX12_areMet_8 (by assumption) (by omega) (by decide) ?_ | refine z_ialdI (pc := 8) C dX12_areMet_8 (by assumption) (by omega) (by decide) ?_
      first | refine z_icmpgeN (pc := 9) C 54 dX12_areMet_9 (by decide) (by omega) (by omega) (fun hc9 => ?_) (fun hc9 => ?_) | refine z_icmp_ge (pc := 9) C 54 dX12_areMet_9 (by decide) (fun hc9 => ?_) (fun hc9 => ?_)
      · skip
        refine z_iconst (pc := 54) C dX12_areMet_54 (zb false) (by decide) ?_
        refine z_zret (pc := 55) C dX12_areMet_55 rfl (by first | exact zb_nar _ | rfl) (Nat.zero_le _) (Nat.zero_le _) ⟨?_, ?_, rfl⟩
        · rw [decide_eq_false (fun ⟨a, h1, b, h2, h3⟩ => he a (by omega) b h2 h3)]
        · rfl
      · skip
        refine z_iconst (pc := 12) C dX12_areMet_12 (nI 0) (by decide) ?_
        refine z_istore_n (pc := 13) (lv' := [(2, _), (0, _), (1, _)]) C dX12_areMet_13 (by decide) rfl ?_
        refine z_sub (lv' := [(0, _), (1, _), (2, _)]) [1, 2, 0] rfl ?_
        have lp14 : ∀ (f2 : Nat) (q : Nat), (q + f2 = m ∧ ∀ b, b < q → T (8 * m) ≠ T (8 * b)) → Zc X mX12_areMet (zEnd X (fun r hh n' => r = (some (.int (zb (decide (∃ m, m < R 3 ∧ ∃ o, o < m ∧ T (8 * m) = T (8 * o)))))) ∧ hh = h ∧ n' = n) 0 0) 14 [(0, .ref 1063), (1, .int (nI m)), (2, .int (nI q))] [] h n 0 0 := by
          intro f2
          induction f2 using Nat.strongRecOn with
          | _ f2 ih2 =>
            intro q hk2
            obtain ⟨hk2, he2⟩ := hk2
            refine z_iload_n (pc := 14) C dX12_areMet_14 2 rfl ?_
            refine z_iload_n (pc := 15) C dX12_areMet_15 1 rfl ?_
            first | refine z_icmpgeN (pc := 16) C 48 dX12_areMet_16 (by decide) (by omega) (by omega) (fun hc16 => ?_) (fun hc16 => ?_) | refine z_icmp_ge (pc := 16) C 48 dX12_areMet_16 (by decide) (fun hc16 => ?_) (fun hc16 => ?_)
            · skip
              first | refine z_iincN (pc := 48) (lv' := [(1, _), (0, _), (2, _)]) C 1 dX12_areMet_48 1 rfl (by decide) (by decide) rfl ?_ | refine z_iinc (pc := 48) (lv' := [(1, _), (0, _), (2, _)]) C dX12_areMet_48 1 rfl _ rfl (by decide) rfl ?_
              refine z_goto (pc := 51) C 2 dX12_areMet_51 (by decide) ?_
              refine z_sub (lv' := [(0, _), (1, _)]) [1, 0] rfl ?_
              exact ih (f - 1) (by omega) (m + 1) ⟨by omega, fun a ha b hb => by by_cases e : a = m; (subst e; exact he2 b (by omega)); exact he a (by omega) b hb⟩
            · skip
              refine z_aload_n (pc := 19) C dX12_areMet_19 0 rfl ?_
              refine z_getf (pc := 20) C dX12_areMet_20 fX12_41 (by assumption) (by first | rfl | assumption) ?_
              refine z_bipush (pc := 23) C dX12_areMet_23 (nI 8) (by decide) ?_
              refine z_iload_n (pc := 25) C dX12_areMet_25 1 rfl ?_
              first | refine z_imulN (pc := 26) C dX12_areMet_26 ?_ | refine z_imul (pc := 26) C dX12_areMet_26 ?_
              first | refine z_ialdN (pc := 27) C dX12_areMet_27 (by assumption) (by omega) (by decide) ?_ | refine z_ialdI (pc := 27) C dX12_areMet_27 (by assumption) (by omega) (by decide) ?_
              refine z_aload_n (pc := 28) C dX12_areMet_28 0 rfl ?_
              refine z_getf (pc := 29) C dX12_areMet_29 fX12_41 (by assumption) (by first | rfl | assumption) ?_
              refine z_bipush (pc := 32) C dX12_areMet_32 (nI 8) (by decide) ?_
              refine z_iload_n (pc := 34) C dX12_areMet_34 2 rfl ?_
              first | refine z_imulN (pc := 35) C dX12_areMet_35 ?_ | refine z_imul (pc := 35) C dX12_areMet_35 ?_
              first | refine z_ialdN (pc := 36) C dX12_areMet_36 (by assumption) (by omega) (by decide) ?_ | refine z_ialdI (pc := 36) C dX12_areMet_36 (by assumption) (by omega) (by decide) ?_
              have e1 : T (8 * m) < R 1 := wT m (by omega) 0 (by omega)
              have e2 : T (8 * q) < R 1 := wT q (by omega) 0 (by omega)
              first | refine z_icmpneN (pc := 37) C 42 dX12_areMet_37 (by decide) (by omega) (by omega) (fun hc37 => ?_) (fun hc37 => ?_) | refine z_icmp_ne (pc := 37) C 42 dX12_areMet_37 (by decide) (fun hc37 => ?_) (fun hc37 => ?_)
              · skip
                first | refine z_iincN (pc := 42) (lv' := [(2, _), (0, _), (1, _)]) C 1 dX12_areMet_42 2 rfl (by decide) (by decide) rfl ?_ | refine z_iinc (pc := 42) (lv' := [(2, _), (0, _), (1, _)]) C dX12_areMet_42 2 rfl _ rfl (by decide) rfl ?_
                refine z_goto (pc := 45) C 14 dX12_areMet_45 (by decide) ?_
                refine z_sub (lv' := [(0, _), (1, _), (2, _)]) [1, 2, 0] rfl ?_
                exact ih2 (f2 - 1) (by omega) (q + 1) ⟨by omega, fun b hb => by by_cases e : b = q; (subst e; exact hc37); exact he2 b (by omega)⟩
              · skip
                refine z_iconst (pc := 40) C dX12_areMet_40 (zb true) (by decide) ?_
                refine z_zret (pc := 41) C dX12_areMet_41 rfl (by first | exact zb_nar _ | rfl) (Nat.zero_le _) (Nat.zero_le _) ⟨?_, ?_, rfl⟩
                · rw [decide_eq_true ⟨m, by omega, q, by omega, hc37⟩]
                · rfl
        exact lp14 m 0 ⟨by omega, fun b hb => by omega⟩
  exact lp2 (R 3) 0 ⟨by omega, fun a ha => by omega⟩

set_option maxRecDepth 20000 in
set_option maxHeartbeats 1000000 in
theorem tX12_power {h : ZH} {a k : Nat} (hk : k < 2147483648) : ZD mX12_power 0 [.long (lN a), .int (nI k)] h (some (.long (lN (a ^ k)))) h := by
  intro n
  refine z_enter (lv := [(0, _), (2, _)]) (by decide) (Nat.le_of_ble_eq_true rfl) rfl (fun X C => ?_)
  refine z_lconst (pc := 0) C dX12_power_0 (1) (by decide) ?_
  refine z_lstore_n (pc := 1) (lv' := [(3, _), (0, _), (2, _)]) C dX12_power_1 (by decide) rfl ?_
  refine z_iconst (pc := 2) C dX12_power_2 (nI 0) (by decide) ?_
  refine z_istore (pc := 3) (lv' := [(5, _), (3, _), (0, _), (2, _)]) C dX12_power_3 (by decide) rfl ?_
  refine z_sub (lv' := [(0, _), (2, _), (3, _), (5, _)]) [2, 3, 1, 0] rfl ?_
  have lp5 : ∀ (f : Nat) (j : Nat), (j + f = k) → Zc X mX12_power (zEnd X (fun r hh n' => r = (some (.long (lN (a ^ k)))) ∧ hh = h ∧ n' = n) 0 0) 5 [(0, .long (lN a)), (2, .int (nI k)), (3, .long (lN (a ^ j))), (5, .int (nI j))] [] h n 0 0 := by
    intro f
    induction f using Nat.strongRecOn with
    | _ f ih =>
      intro j hj
      refine z_iload (pc := 5) C dX12_power_5 3 rfl ?_
      refine z_iload_n (pc := 7) C dX12_power_7 1 rfl ?_
      first | refine z_icmpgeN (pc := 8) C 21 dX12_power_8 (by decide) (by omega) (by omega) (fun hc8 => ?_) (fun hc8 => ?_) | refine z_icmp_ge (pc := 8) C 21 dX12_power_8 (by decide) (fun hc8 => ?_) (fun hc8 => ?_)
      · skip
        refine z_lload_n (pc := 21) C dX12_power_21 2 rfl ?_
        refine z_lret (pc := 22) C dX12_power_22 rfl (Nat.zero_le _) (Nat.zero_le _) ⟨?_, ?_, rfl⟩
        · obtain rfl : j = k := (by omega); rfl
        · rfl
      · skip
        refine z_lload_n (pc := 11) C dX12_power_11 2 rfl ?_
        refine z_lload_n (pc := 12) C dX12_power_12 0 rfl ?_
        refine z_lmul (pc := 13) C dX12_power_13 ?_
        refine z_lstore_n (pc := 14) (lv' := [(3, _), (0, _), (2, _), (5, _)]) C dX12_power_14 (by decide) rfl ?_
        first | refine z_iincN (pc := 15) (lv' := [(5, _), (3, _), (0, _), (2, _)]) C 1 dX12_power_15 3 rfl (by decide) (by decide) rfl ?_ | refine z_iinc (pc := 15) (lv' := [(5, _), (3, _), (0, _), (2, _)]) C dX12_power_15 3 rfl _ rfl (by decide) rfl ?_
        refine z_goto (pc := 18) C 5 dX12_power_18 (by decide) ?_
        refine z_sub (lv' := [(0, _), (2, _), (3, _), (5, _)]) [2, 3, 1, 0] rfl ?_
        (rw [lN_mul, ← Nat.pow_succ]; exact ih (f - 1) (by omega) (j + 1) (by omega))
  exact lp5 k 0 (by omega)

set_option maxRecDepth 20000 in
set_option maxHeartbeats 1000000 in
theorem tX12_deadBy {h : ZH} {v : Nat → Int32} {R : Nat → Nat} {n0 : Nat} (hM : h 1063 = some (zO 8 (mfs v))) (hA : h 1066 = some (zI 241 R)) (hR : wfR R) (hn : n0 < 2147483648) : ZD mX12_deadBy 1 [.ref 1063, .int (nI n0)] h (some (.long (lN (100 ^ n0 - (100 - R 0) ^ n0)))) h := by
  intro n
  obtain ⟨w1, w3, w4, w5, w0, wP, wM, wK, wX⟩ := id hR
  refine z_enter (lv := [(0, _), (1, _)]) (by decide) (Nat.le_of_ble_eq_true rfl) rfl (fun X C => ?_)
  refine z_ldc2 (pc := 0) C dX12_deadBy_0 kX12_387 ?_
  refine z_topl (show (100 : Int64) = lN 100 from rfl) ?_
  refine z_iload_n (pc := 3) C dX12_deadBy_3 1 rfl ?_
  refine z_cS1 (pc := 4) mX12_power C [_, _] dX12_deadBy_4 lX12_389 mtX12_power (tX12_power (by first | assumption | omega)) rfl rfl (by decide) (Nat.le_of_ble_eq_true rfl) (Nat.zero_le _) (Nat.zero_le _) ?_
  refine z_bipush (pc := 7) C dX12_deadBy_7 (nI 100) (by decide) ?_
  refine z_aload_n (pc := 9) C dX12_deadBy_9 0 rfl ?_
  refine z_getf (pc := 10) C dX12_deadBy_10 fX12_20 (by assumption) (by first | rfl | assumption) ?_
  refine z_iconst (pc := 13) C dX12_deadBy_13 (nI 0) (by decide) ?_
  first | refine z_ialdN (pc := 14) C dX12_deadBy_14 (by assumption) (by omega) (by decide) ?_ | refine z_ialdI (pc := 14) C dX12_deadBy_14 (by assumption) (by omega) (by decide) ?_
  first | refine z_isubN (pc := 15) C dX12_deadBy_15 (by omega) ?_ | refine z_isub (pc := 15) C dX12_deadBy_15 ?_
  refine z_i2l (pc := 16) C dX12_deadBy_16 ?_
  refine z_topl (nI_l (by omega)) ?_
  refine z_iload_n (pc := 17) C dX12_deadBy_17 1 rfl ?_
  refine z_cS1 (pc := 18) mX12_power C [_, _] dX12_deadBy_18 lX12_389 mtX12_power (tX12_power (by first | assumption | omega)) rfl rfl (by decide) (Nat.le_of_ble_eq_true rfl) (Nat.zero_le _) (Nat.zero_le _) ?_
  refine z_lsub (pc := 21) C dX12_deadBy_21 ?_
  refine z_lret (pc := 22) C dX12_deadBy_22 rfl (Nat.zero_le _) (Nat.zero_le _) ⟨?_, ?_, rfl⟩
  · rw [lN_sub (Nat.pow_le_pow_left (by omega) _)]
  · rfl

set_option maxRecDepth 20000 in
set_option maxHeartbeats 1000000 in
theorem tX12_copy {h : ZH} {a b na nb i j c : Nat} {f g : Nat → Nat} (hX : h a = some (zI na f)) (hY : h b = some (zI nb g)) (hab : a ≠ b) (h1 : i + c ≤ na) (h2 : j + c ≤ nb) (h3 : na < 2147483648) (h4 : nb < 2147483648) : ZD mX12_copy 0 [.ref a, .int (nI i), .ref b, .int (nI j), .int (nI c)] h none (zup h b (zI nb (ncpy f g i j c))) := by
  intro n
  refine z_enter (lv := [(0, _), (1, _), (2, _), (3, _), (4, _)]) (by decide) (Nat.le_of_ble_eq_true rfl) rfl (fun X C => ?_)
  refine z_iconst (pc := 0) C dX12_copy_0 (nI 0) (by first | decide | omega) ?_
  refine z_istore (pc := 1) (lv' := [(5, _), (0, _), (1, _), (2, _), (3, _), (4, _)]) C dX12_copy_1 (by decide) rfl ?_
  refine z_sub (lv' := [(0, _), (1, _), (2, _), (3, _), (4, _), (5, _)]) [1, 2, 3, 4, 5, 0] rfl ?_
  have lp3 : ∀ (f9 : Nat) (k : Nat), (k + f9 = c) → Zc X mX12_copy (zEnd X (fun r hh n' => r = none ∧ hh = (zup h b (zI nb (ncpy f g i j c))) ∧ n' = n) 0 0) 3 [(0, .ref a), (1, .int (nI i)), (2, .ref b), (3, .int (nI j)), (4, .int (nI c)), (5, .int (nI k))] [] (zup h b (zI nb (ncpy f g i j k))) n 0 0 := by
    intro f9
    induction f9 using Nat.strongRecOn with
    | _ f9 ih9 =>
      intro k hk
      refine z_iload (pc := 3) C dX12_copy_3 5 rfl ?_
      refine z_iload (pc := 5) C dX12_copy_5 4 rfl ?_
      first | refine z_icmpgeN (pc := 7) C 28 dX12_copy_7 (by decide) (by omega) (by omega) (fun hc7 => ?_) (fun hc7 => ?_) | refine z_icmp_ge (pc := 7) C 28 dX12_copy_7 (by decide) (fun hc7 => ?_) (fun hc7 => ?_)
      · skip
        refine z_vret (pc := 28) C dX12_copy_28 rfl (Nat.zero_le _) (Nat.zero_le _) ⟨?_, ?_, rfl⟩
        · rfl
        · obtain rfl : k = c := (by omega); rfl
      · skip
        refine z_aload_n (pc := 10) C dX12_copy_10 2 rfl ?_
        refine z_iload_n (pc := 11) C dX12_copy_11 3 rfl ?_
        refine z_iload (pc := 12) C dX12_copy_12 5 rfl ?_
        first | refine z_iaddN (pc := 14) C dX12_copy_14 ?_ | refine z_iadd (pc := 14) C dX12_copy_14 ?_
        refine z_aload_n (pc := 15) C dX12_copy_15 0 rfl ?_
        refine z_iload_n (pc := 16) C dX12_copy_16 1 rfl ?_
        refine z_iload (pc := 17) C dX12_copy_17 5 rfl ?_
        first | refine z_iaddN (pc := 19) C dX12_copy_19 ?_ | refine z_iadd (pc := 19) C dX12_copy_19 ?_
        first | refine z_ialdN (pc := 20) C dX12_copy_20 ((zup_ne hab).trans hX) (by omega) (by first | decide | omega) ?_ | refine z_ialdI (pc := 20) C dX12_copy_20 ((zup_ne hab).trans hX) (by omega) (by first | decide | omega) ?_
        first | refine z_iastN (pc := 21) C dX12_copy_21 (zup_same _ _ _) (by omega) (by first | decide | omega) ?_ | refine z_iastI (pc := 21) C dX12_copy_21 (zup_same _ _ _) (by omega) (by first | decide | omega) ?_
        first | refine z_iincN (pc := 22) (lv' := [(5, _), (0, _), (1, _), (2, _), (3, _), (4, _)]) C 1 dX12_copy_22 5 rfl (by decide) (by decide) rfl ?_ | refine z_iinc (pc := 22) (lv' := [(5, _), (0, _), (1, _), (2, _), (3, _), (4, _)]) C dX12_copy_22 5 rfl _ rfl (by decide) rfl ?_
        refine z_goto (pc := 25) C 3 dX12_copy_25 (by first | decide | omega) ?_
        refine z_sub (lv' := [(0, _), (1, _), (2, _), (3, _), (4, _), (5, _)]) [1, 2, 3, 4, 5, 0] rfl ?_
        (refine z_hp (show _ = zup h b (zI nb (ncpy f g i j (k + 1))) from by rw [zup_zup, ncpy_s]) ?_; exact ih9 (f9 - 1) (by omega) (k + 1) (by omega))
  (refine z_hp (show h = zup h b (zI nb (ncpy f g i j 0)) from by rw [ncpy_0]; exact (zup_id hY).symm) ?_; exact lp3 c 0 (by omega))

set_option maxRecDepth 20000 in
set_option maxHeartbeats 1000000 in
theorem tX12_stepOf {h : ZH} {a m p : Nat} {S : Nat → Nat} (hS : h a = some (zI 40 S)) (hm : m < 4) : ZD mX12_stepOf 0 [.ref a, .int (nI m), .int (nI p)] h none (zup h a (zI 40 (sgo S m p))) := by
  intro n
  refine z_enter (lv := [(0, _), (1, _), (2, _)]) (by decide) (Nat.le_of_ble_eq_true rfl) rfl (fun X C => ?_)
  refine z_bipush (pc := 0) C dX12_stepOf_0 (nI 7) (by decide) ?_
  refine z_istore_n (pc := 2) (lv' := [(3, _), (0, _), (1, _), (2, _)]) C dX12_stepOf_2 (by decide) rfl ?_
  refine z_sub (lv' := [(0, _), (1, _), (2, _), (3, _)]) [1, 2, 3, 0] rfl ?_
  have lp3 : ∀ (f : Nat) (k : Nat), (k = f ∧ k ≤ 7) → Zc X mX12_stepOf (zEnd X (fun r hh n' => r = none ∧ hh = (zup h a (zI 40 (sgo S m p))) ∧ n' = n) 0 0) 3 [(0, .ref a), (1, .int (nI m)), (2, .int (nI p)), (3, .int (nI k))] [] (zup h a (zI 40 (sgk S m k))) n 0 0 := by
    intro f
    induction f using Nat.strongRecOn with
    | _ f ih =>
      intro k hk
      obtain ⟨hk, hk2⟩ := hk
      refine z_iload_n (pc := 3) C dX12_stepOf_3 3 rfl ?_
      first | refine z_ifleN (pc := 4) C 31 dX12_stepOf_4 (by decide) (by omega) (fun hc4 => ?_) (fun hc4 => ?_) | refine z_if_le (pc := 4) C 31 dX12_stepOf_4 (by decide) (fun hc4 => ?_) (fun hc4 => ?_)
      · skip
        refine z_aload_n (pc := 31) C dX12_stepOf_31 0 rfl ?_
        refine z_bipush (pc := 32) C dX12_stepOf_32 (nI 8) (by decide) ?_
        refine z_iload_n (pc := 34) C dX12_stepOf_34 1 rfl ?_
        first | refine z_imulN (pc := 35) C dX12_stepOf_35 ?_ | refine z_imul (pc := 35) C dX12_stepOf_35 ?_
        refine z_iload_n (pc := 36) C dX12_stepOf_36 2 rfl ?_
        first | refine z_iastN (pc := 37) C dX12_stepOf_37 (zup_same _ _ _) (by omega) (by decide) ?_ | refine z_iastI (pc := 37) C dX12_stepOf_37 (zup_same _ _ _) (by omega) (by decide) ?_
        refine z_vret (pc := 38) C dX12_stepOf_38 rfl (Nat.zero_le _) (Nat.zero_le _) ⟨?_, ?_, rfl⟩
        · rfl
        · subst hc4; rw [zup_zup, sgk_0]
      · skip
        refine z_aload_n (pc := 7) C dX12_stepOf_7 0 rfl ?_
        refine z_bipush (pc := 8) C dX12_stepOf_8 (nI 8) (by decide) ?_
        refine z_iload_n (pc := 10) C dX12_stepOf_10 1 rfl ?_
        first | refine z_imulN (pc := 11) C dX12_stepOf_11 ?_ | refine z_imul (pc := 11) C dX12_stepOf_11 ?_
        refine z_iload_n (pc := 12) C dX12_stepOf_12 3 rfl ?_
        first | refine z_iaddN (pc := 13) C dX12_stepOf_13 ?_ | refine z_iadd (pc := 13) C dX12_stepOf_13 ?_
        refine z_aload_n (pc := 14) C dX12_stepOf_14 0 rfl ?_
        refine z_bipush (pc := 15) C dX12_stepOf_15 (nI 8) (by decide) ?_
        refine z_iload_n (pc := 17) C dX12_stepOf_17 1 rfl ?_
        first | refine z_imulN (pc := 18) C dX12_stepOf_18 ?_ | refine z_imul (pc := 18) C dX12_stepOf_18 ?_
        refine z_iload_n (pc := 19) C dX12_stepOf_19 3 rfl ?_
        first | refine z_iaddN (pc := 20) C dX12_stepOf_20 ?_ | refine z_iadd (pc := 20) C dX12_stepOf_20 ?_
        refine z_iconst (pc := 21) C dX12_stepOf_21 (nI 1) (by decide) ?_
        first | refine z_isubN (pc := 22) C dX12_stepOf_22 (by omega) ?_ | refine z_isub (pc := 22) C dX12_stepOf_22 ?_
        first | refine z_ialdN (pc := 23) C dX12_stepOf_23 (zup_same _ _ _) (by omega) (by decide) ?_ | refine z_ialdI (pc := 23) C dX12_stepOf_23 (zup_same _ _ _) (by omega) (by decide) ?_
        first | refine z_iastN (pc := 24) C dX12_stepOf_24 (zup_same _ _ _) (by omega) (by decide) ?_ | refine z_iastI (pc := 24) C dX12_stepOf_24 (zup_same _ _ _) (by omega) (by decide) ?_
        first | refine z_idecN (pc := 25) (lv' := [(3, _), (0, _), (1, _), (2, _)]) C dX12_stepOf_25 3 rfl (by omega) (by decide) rfl ?_ | refine z_iinc (pc := 25) (lv' := [(3, _), (0, _), (1, _), (2, _)]) C dX12_stepOf_25 3 rfl _ rfl (by decide) rfl ?_
        refine z_goto (pc := 28) C 3 dX12_stepOf_28 (by decide) ?_
        refine z_sub (lv' := [(0, _), (1, _), (2, _), (3, _)]) [1, 2, 3, 0] rfl ?_
        (obtain ⟨k, rfl⟩ : ∃ q, k = q + 1 := ⟨k - 1, by omega⟩; refine z_hp (show _ = zup h a (zI 40 (sgk S m k)) from by rw [zup_zup, show sgk S m (k + 1) (8 * m + (k + 1) - 1) = S (8 * m + (k + 1) - 1) from if_neg (by omega), sgk_s S m (by omega)]) ?_; exact ih k (by omega) k ⟨rfl, by omega⟩)
  (refine z_hp (show h = zup h a (zI 40 (sgk S m 7)) from by rw [sgk_7]; exact (zup_id hS).symm) ?_; exact lp3 7 7 ⟨rfl, by omega⟩)
