theorem RX_Pa {R S B : Nat → Nat} {n : Nat} {o : TO} (hX : RX R S) (h8 : oF o = false → R 8 ≠ 0 ∧ R 2 < 10) (h : oF (lPa R S B n o).1 = false) : RX (lPa R S B n o).2.1 (lPa R S B n o).2.2 := by
  obtain ⟨⟨i1, ⟨i2, i3, i4, i5, i6⟩, i7, i8, i9⟩, hR, hS, hC, hZ, hN, hL, hT, hU⟩ := hX
  obtain ⟨ha, hb, hne, -⟩ := lPa_f h
  obtain ⟨q8, q1⟩ := h8 (oB_f ha)
  obtain ⟨a1, a2⟩ := sNv_to hN ha
  obtain ⟨b1, b2⟩ := sNv_to hN hb
  show RX (lPaR R (sNv R B 0 6 o) (sNv R B 0 6 (oP B n (oB o (sNmd R B 0 6))))) S
  generalize sNv R B 0 6 (oP B n (oB o (sNmd R B 0 6))) = b at b1 b2 hne
  generalize sNv R B 0 6 o = a at a1 a2 hne
  unfold rTo at a1 b1
  have ha' : a < R 1 := by omega
  have hb' : b < R 1 := by omega
  clear a1 b1
  have w1 := hR.1
  have one : ∀ c, c < R 1 → ∀ x, x < 128 → (x ||| 1 <<< c) < 128 := fun c hc x hx => by
    refine Nat.or_lt_two_pow (n := 7) hx ?_
    rw [Nat.one_shiftLeft]
    exact Nat.pow_lt_pow_right (by decide) (by omega)
  have bit : ∀ c, c < R 1 → ∀ x, (∀ q, x.testBit q = true → q < R 1) → ∀ q, (x ||| 1 <<< c).testBit q = true → q < R 1 := fun c hc x hx q hq => by
    rw [Nat.testBit_or, Nat.one_shiftLeft, Nat.testBit_two_pow] at hq
    by_cases e : c = q
    · omega
    · rw [decide_eq_false e, Bool.or_false] at hq; exact hx q hq
  have la : lPaR R a b (23 + a) = (R (23 + a) ||| 1 <<< b) := by unfold lPaR; rw [nup_ne (by omega), nup_ne (by omega), nup_same]
  have lb : lPaR R a b (23 + b) = (R (23 + b) ||| 1 <<< a) := by unfold lPaR; rw [nup_ne (by omega), nup_same]
  have l2 : lPaR R a b 2 = R 2 + 1 := nup_same _ _ _
  have lo : ∀ j, j ≠ 2 → j ≠ 23 + a → j ≠ 23 + b → lPaR R a b j = R j := fun j q1 q2 q3 => by unfold lPaR; rw [nup_ne q1, nup_ne q3, nup_ne q2]
  generalize lPaR R a b = R' at la lb l2 lo
  have l0 := lo 0 (by omega) (by omega) (by omega)
  have l1 := lo 1 (by omega) (by omega) (by omega)
  have l3 := lo 3 (by omega) (by omega) (by omega)
  have l4 := lo 4 (by omega) (by omega) (by omega)
  have l5 := lo 5 (by omega) (by omega) (by omega)
  have l6 := lo 6 (by omega) (by omega) (by omega)
  have l7 := lo 7 (by omega) (by omega) (by omega)
  have l8 := lo 8 (by omega) (by omega) (by omega)
  obtain ⟨w1', w3, w4, w5, w0, wP, wM, wK, wX⟩ := hR
  have na := wP a ha'
  have nb := wP b hb'
  have oa := one b hb' _ na.2.1
  have ob := one a ha' _ nb.2.1
  refine ⟨⟨fun j hj => ?_, ⟨by omega, by omega, by omega, by omega, by omega⟩, fun p hp => ?_, i8, i9⟩, ⟨by omega, by omega, by omega, by omega, by omega, fun p hp => ?_, fun m hm => by rw [lo _ (by omega) (by omega) (by omega)]; exact wM m (by omega), fun k hk => ?_, fun s hs => ?_⟩, wfS_n hS ⟨l1, l3, l4⟩, by omega, fun z => by omega, rNm_keep hN ⟨l1, l3, l4, l5⟩ (fun j hj => lo j (by omega) (by omega) (by omega)), by rw [l1]; exact hL, hT, fun p a b => by rw [lo _ (by omega) (by omega) (by omega)]; exact hU p (by omega) b⟩
  · by_cases e : j = 2
    · subst e; omega
    · by_cases e1 : j = 23 + a
      · subst e1; omega
      · by_cases e2 : j = 23 + b
        · subst e2; omega
        · rw [lo j e e1 e2]; exact i1 j hj
  · by_cases e1 : p = a
    · subst e1; omega
    · by_cases e2 : p = b
      · subst e2; omega
      · rw [lo _ (by omega) (by omega) (by omega)]; exact i7 p hp
  · rw [lo (9 + p) (by omega) (by omega) (by omega), l1]
    have wp := wP p (by omega)
    refine ⟨wp.1, ?_⟩
    by_cases e1 : p = a
    · subst e1; rw [la]; exact ⟨oa, bit b hb' _ na.2.2⟩
    · by_cases e2 : p = b
      · subst e2; rw [lb]; exact ⟨ob, bit a ha' _ nb.2.2⟩
      · rw [lo _ (by omega) (by omega) (by omega)]; exact wp.2
  · rw [lo _ (by omega) (by omega) (by omega), lo (34 + 4 * k + 1) (by omega) (by omega) (by omega), lo (34 + 4 * k + 2) (by omega) (by omega) (by omega), l3]
    exact wK k (by omega)
  · rw [lo _ (by omega) (by omega) (by omega), l1]
    exact wX s (by omega)
theorem RX_Wa {R S B : Nat → Nat} {n : Nat} {o : TO} (hX : RX R S) (h8 : oF o = false → R 8 ≠ 0 ∧ R 6 < 12) (h : oF (lWa R S B n o).1 = false) : RX (lWa R S B n o).2.1 (lWa R S B n o).2.2 := by
  obtain ⟨⟨i1, ⟨i2, i3, i4, i5, i6⟩, i7, i8, i9⟩, hR, hS, hC, hZ, hN, hL, hT, hU⟩ := hX
  obtain ⟨ha, hb, -⟩ := lWa_f h
  obtain ⟨q8, q1⟩ := h8 (oB_f ha)
  obtain ⟨a1, a2⟩ := sNv_to hN ha
  obtain ⟨b1, b2⟩ := sNv_to hN hb
  show RX (nup R 6 (R 6 + 1)) (sgo S (sNv R B 7 10 o) (sNv R B 0 6 (oP B n (oB o (sNmd R B 7 10)))))
  generalize sNv R B 0 6 (oP B n (oB o (sNmd R B 7 10))) = b at b1 b2
  generalize sNv R B 7 10 o = a at a1 a2
  unfold rTo at a1 b1
  have ha' : a < R 3 := by omega
  have hb' : b < R 1 := by omega
  have w1 := hR.1
  have w3 := hR.2.1
  have hg := wfS_go hR hS ha' hb'
  have lo : ∀ j, j ≠ 6 → nup R 6 (R 6 + 1) j = R j := fun j q => nup_ne q
  have l6 : nup R 6 (R 6 + 1) 6 = R 6 + 1 := nup_same _ _ _
  generalize nup R 6 (R 6 + 1) = R' at lo l6
  have l1 := lo 1 (by omega)
  have l2 := lo 2 (by omega)
  have l3 := lo 3 (by omega)
  have l4 := lo 4 (by omega)
  have l5 := lo 5 (by omega)
  have l7 := lo 7 (by omega)
  have l8 := lo 8 (by omega)
  have k9 : ∀ j, 32 ≤ j → sgo S a b j = S j := fun j hj => sgo_k (by omega) hj
  refine ⟨⟨fun j hj => ?_, ⟨by omega, by omega, by omega, by omega, by omega⟩, fun p hp => by rw [lo _ (by omega)]; exact i7 p hp, fun m hm => ?_, fun k hk => by rw [k9 _ (by omega)]; exact i9 k hk⟩, wfR_eq hR (fun j _ _ q _ _ => lo j q), wfS_n hg ⟨l1, l3, l4⟩, by omega, fun z => by omega, rNm_keep hN ⟨l1, l3, l4, l5⟩ (fun j hj => lo j (by omega)), by rw [l1, k9 _ (by omega)]; exact hL, by rw [k9 _ (by omega)]; exact hT, fun p a b => by rw [lo _ (by omega)]; exact hU p (by omega) b⟩
  · by_cases e : j = 6
    · subst e; omega
    · rw [lo j e]; exact i1 j hj
  · unfold sgo
    split
    · omega
    · rw [if_neg (by omega)]; exact i8 m hm
theorem RX_Ta {R S B : Nat → Nat} {n : Nat} {o : TO} (hX : RX R S) (h8 : oF o = false → R 8 ≠ 0 ∧ R 7 < 6) (h : oF (lTa R S B n o).1 = false) : RX (lTa R S B n o).2.1 (lTa R S B n o).2.2 := by
  obtain ⟨⟨i1, ⟨i2, i3, i4, i5, i6⟩, i7, i8, i9⟩, hR, hS, hC, hZ, hN, hL, hT, hU⟩ := hX
  obtain ⟨ha, hb, -⟩ := lTa_f h
  obtain ⟨q8, q1⟩ := h8 (oB_f ha)
  obtain ⟨a1, a2⟩ := sNv_to hN ha
  obtain ⟨b1, b2⟩ := sNv_to hN hb
  show RX (nup R 7 (R 7 + 1)) (nup S (32 + sNv R B 11 16 o) (sNv R B 7 10 (oP B n (oB o (sNmd R B 11 16)))))
  generalize sNv R B 7 10 (oP B n (oB o (sNmd R B 11 16))) = b at b1 b2
  generalize sNv R B 11 16 o = a at a1 a2
  unfold rTo at a1 b1
  have ha' : a < R 4 := by omega
  have hb' : b < R 3 := by omega
  have w1 := hR.1
  have w3 := hR.2.1
  have hg := wfS_tk hR hS ha' hb'
  have lo : ∀ j, j ≠ 7 → nup R 7 (R 7 + 1) j = R j := fun j q => nup_ne q
  have l7 : nup R 7 (R 7 + 1) 7 = R 7 + 1 := nup_same _ _ _
  generalize nup R 7 (R 7 + 1) = R' at lo l7
  have l1 := lo 1 (by omega)
  have l2 := lo 2 (by omega)
  have l3 := lo 3 (by omega)
  have l4 := lo 4 (by omega)
  have l5 := lo 5 (by omega)
  have l6 := lo 6 (by omega)
  have l8 := lo 8 (by omega)
  have k9 : ∀ j, j ≠ 32 + a → nup S (32 + a) b j = S j := fun j hj => nup_ne hj
  refine ⟨⟨fun j hj => ?_, ⟨by omega, by omega, by omega, by omega, by omega⟩, fun p hp => by rw [lo _ (by omega)]; exact i7 p hp, fun m hm => by rw [k9 _ (by omega)]; exact i8 m hm, fun k hk => ?_⟩, wfR_eq hR (fun j _ _ _ q _ => lo j q), wfS_n hg ⟨l1, l3, l4⟩, by omega, fun z => by omega, rNm_keep hN ⟨l1, l3, l4, l5⟩ (fun j hj => lo j (by omega)), by rw [l1, k9 _ (by omega)]; exact hL, by rw [k9 _ (by omega)]; exact hT, fun p a b => by rw [lo _ (by omega)]; exact hU p (by omega) b⟩
  · by_cases e : j = 7
    · subst e; omega
    · rw [lo j e]; exact i1 j hj
  · by_cases e : k = a
    · subst e; rw [nup_same]; omega
    · rw [k9 _ (by omega)]; exact i9 k hk
/-- an outcome stands at a true token from p on -/
def oG (B : Nat → Nat) (n p : Nat) (o : TO) : Prop := ∀ t, o = .inl t → sTk B n t ∧ p ≤ t.2.1
theorem oG_i {B : Nat → Nat} {n p : Nat} {t : Nat × Nat × Nat} (h : sTk B n t) (hp : p ≤ t.2.1) : oG B n p (.inl t) := fun t' e => by cases e; exact ⟨h, hp⟩
theorem oG_r {B : Nat → Nat} {n p : Nat} (e : Nat × Nat) : oG B n p (.inr e) := fun t' z => by cases z
theorem oG_x {B : Nat → Nat} {n p : Nat} {t : Nat × Nat × Nat} (h : sTk B n t) (hp : p ≤ t.2.1) : oG B n p (.inl (sNx B n t)) := by
  have h1 := sNx_ok h
  have h2 := h.2.1
  exact oG_i h1.1 (by omega)
theorem oG_B {B : Nat → Nat} {n p : Nat} {o : TO} {f : Nat × Nat × Nat → TO} (h : oG B n p o) (hf : ∀ t, sTk B n t → p ≤ t.2.1 → oG B n p (f t)) : oG B n p (oB o f) := by
  cases o with
  | inr e => exact oG_r e
  | inl t => obtain ⟨a, b⟩ := h t rfl; exact hf t a b
theorem oG_P {B : Nat → Nat} {n p : Nat} {o : TO} (h : oG B n p o) : oG B n p (oP B n o) := oG_B h (fun _ a b => oG_x a b)
theorem oG_M {B : Nat → Nat} {n p i : Nat} {o : TO} (h : oG B n p o) : oG B n p (oM B n o i) := oG_B h (fun t a b => by
  unfold sMu
  split
  · exact oG_x a b
  · exact oG_r _)
theorem oG_T {B : Nat → Nat} {n p i : Nat} {o : TO} (h : oG B n p o) : oG B n p (oT B n o i) := oG_B h (fun t a b => by
  show oG B n p (.inl (if sspl B t i = true then sNx B n t else t))
  split
  · exact oG_x a b
  · exact oG_i a b)
theorem oG_X {B : Nat → Nat} {n p f : Nat} {o : TO} (h : oG B n p o) : oG B n p (oX o f) := oG_B h (fun _ _ _ => oG_r _)
theorem oG_N {R B : Nat → Nat} {n p lo hi : Nat} {o : TO} (h : oG B n p o) : oG B n p (oB o (sNmd R B lo hi)) := oG_B h (fun t a b => by
  intro t' e
  obtain ⟨rfl, -⟩ := sNmd_w e
  exact ⟨a, b⟩)
theorem oG_W {R B : Nat → Nat} {n p : Nat} {t : Nat × Nat × Nat} (a : sTk B n t) (b : p ≤ t.2.1) : oG B n p (sNw R B n t) := by
  unfold sNw
  repeat' split
  · exact oG_x a b
  · exact oG_r _
  · exact oG_r _
theorem oG_A {B : Nat → Nat} {n p i u : Nat} {o : TO} (h : oG B n p o) : oG B n p (sAf B n i u o) := oG_B (oG_M h) (fun t a b => by
  unfold sWh
  repeat' split
  · exact oG_x a b
  · exact oG_r _
  · exact oG_r _)
theorem oG_Bg {R B : Nat → Nat} {n p i : Nat} {c : Bool} {t : Nat × Nat × Nat} (a : sTk B n t) (b : p ≤ t.2.1) : oG B n p (oBg B R n t i c) := by
  unfold oBg
  split
  · refine oG_P ?_
    split
    · refine oG_X ?_
      split
      · exact oG_i a b
      · exact oG_r _
    · split
      · exact oG_i a b
      · exact oG_r _
  · exact oG_i a b
theorem oG_ln {R S B : Nat → Nat} {n : Nat} {t : Nat × Nat × Nat} (k : sTk B n t) : oG B n t.2.1 (lLn R S B n t).1 := by
  have g := fun i c => oG_Bg (R := R) (i := i) (c := c) k (Nat.le_refl t.2.1)
  unfold lLn
  split
  · unfold lFo
    split
    · exact oG_A (oG_x k (Nat.le_refl _))
    · exact oG_r _
  · split
    · have := g 1 (decide (R 1 < 7))
      generalize oBg B R n t 1 (decide (R 1 < 7)) = o at this
      cases o with
      | inr e => exact oG_r _
      | inl t' =>
        obtain ⟨a, b⟩ := this t' rfl
        show oG B n t.2.1 (sAf B n 11 9 _)
        refine oG_A ?_
        split
        · exact oG_T (oG_W a b)
        · exact oG_M (oG_T (oG_W a b))
    · split
      · have := g 2 (decide (R 2 < 10))
        refine oG_P (oG_B (oG_N (oG_P (oG_N this))) (fun t' a b => ?_))
        split
        · exact oG_r _
        · exact oG_i a b
      · split
        · have := g 3 (decide (R 3 < 4))
          generalize oBg B R n t 3 (decide (R 3 < 4)) = o at this
          cases o with
          | inr e => exact oG_r _
          | inl t' =>
            obtain ⟨a, b⟩ := this t' rfl
            show oG B n t.2.1 (oP B n (oB (oM B n (oP B n _) 16) _))
            refine oG_P (oG_N (oG_M (oG_P ?_)))
            split
            · exact oG_X (oG_W a b)
            · exact oG_W a b
        · split
          · have := g 6 (decide (R 6 < 12))
            refine oG_P (oG_B (oG_N (oG_P (oG_N this))) (fun t' a b => ?_))
            split
            · exact oG_i a b
            · exact oG_r _
          · split
            · have := g 4 (decide (R 4 < 6))
              generalize oBg B R n t 4 (decide (R 4 < 6)) = o at this
              cases o with
              | inr e => exact oG_r _
              | inl t' =>
                obtain ⟨a, b⟩ := this t' rfl
                show oG B n t.2.1 (sAf B n 19 20 (sAf B n 18 3 (oP B n (oB (oM B n _ 17) _))))
                exact oG_A (oG_A (oG_P (oG_N (oG_M (oG_W a b)))))
            · split
              · have := g 7 (decide (R 7 < 6))
                refine oG_P (oG_B (oG_N (oG_P (oG_N this))) (fun t' a b => ?_))
                split
                · exact oG_r _
                · exact oG_i a b
              · split
                · have := g 5 (decide (R 5 < 3))
                  generalize oBg B R n t 5 (decide (R 5 < 3)) = o at this
                  cases o with
                  | inr e => exact oG_r _
                  | inl t' =>
                    obtain ⟨a, b⟩ := this t' rfl
                    show oG B n t.2.1 (oP B n (oB (oM B n _ 16) _))
                    exact oG_P (oG_N (oG_M (oG_W a b)))
                · exact oG_r _
theorem RX_ln {R S B : Nat → Nat} {n : Nat} {t : Nat × Nat × Nat} (hX : RX R S) (k : sTk B n t) (h : oF (lLn R S B n t).1 = false) : RX (lLn R S B n t).2.1 (lLn R S B n t).2.2 := by
  have g := fun i c => oG_Bg (R := R) (i := i) (c := c) k (Nat.le_refl t.2.1)
  unfold lLn at h ⊢
  split at h
  · rename_i e; rw [if_pos e]; exact (RX_Fo hX h).1
  · rename_i e0; rw [if_neg e0]
    split at h
    · rename_i e; rw [if_pos e]
      exact RX_Pl hX (fun t' z => (g 1 _ t' z).1) (fun z => ⟨(oBg_f e z).2.1, of_decide_eq_true (oBg_f e z).1⟩) h
    · rename_i e1; rw [if_neg e1]
      split at h
      · rename_i e; rw [if_pos e]
        exact RX_Pa hX (fun z => ⟨(oBg_f e z).2.1, of_decide_eq_true (oBg_f e z).1⟩) h
      · rename_i e2; rw [if_neg e2]
        split at h
        · rename_i e; rw [if_pos e]
          exact RX_Ma hX (fun t' z => (g 3 _ t' z).1) (fun z => ⟨(oBg_f e z).2.1, of_decide_eq_true (oBg_f e z).1⟩) h
        · rename_i e3; rw [if_neg e3]
          split at h
          · rename_i e; rw [if_pos e]
            exact RX_Wa hX (fun z => ⟨(oBg_f e z).2.1, of_decide_eq_true (oBg_f e z).1⟩) h
          · rename_i e4; rw [if_neg e4]
            split at h
            · rename_i e; rw [if_pos e]
              exact RX_Ki hX (fun t' z => (g 4 _ t' z).1) (fun z => ⟨(oBg_f e z).2.1, of_decide_eq_true (oBg_f e z).1⟩) h
            · rename_i e5; rw [if_neg e5]
              split at h
              · rename_i e; rw [if_pos e]
                exact RX_Ta hX (fun z => ⟨(oBg_f e z).2.1, of_decide_eq_true (oBg_f e z).1⟩) h
              · rename_i e6; rw [if_neg e6]
                split at h
                · rename_i e; rw [if_pos e]
                  exact RX_St hX (fun t' z => (g 5 _ t' z).1) (fun z => ⟨(oBg_f e z).2.1, of_decide_eq_true (oBg_f e z).1⟩) h
                · cases h
