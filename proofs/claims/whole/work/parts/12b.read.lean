theorem sfnd_n {R R' B : Nat → Nat} {t : Nat × Nat × Nat} (h : ∀ j, 61 ≤ j → R' j = R j) : sfnd R' B t = sfnd R B t := by
  unfold sfnd
  congr 1
  funext x
  unfold sfnP
  rw [h (61 + x) (by omega)]
  congr 1
  refine propext ⟨fun z => ⟨z.1, z.2.1, fun j hj => ?_⟩, fun z => ⟨z.1, z.2.1, fun j hj => ?_⟩⟩
  · rw [← h _ (by omega)]; exact z.2.2 j hj
  · rw [h _ (by omega)]; exact z.2.2 j hj
theorem sNmd_n {R R' B : Nat → Nat} {lo hi : Nat} (h : ∀ j, 61 ≤ j → R' j = R j) : sNmd R' B lo hi = sNmd R B lo hi := by
  funext t
  unfold sNmd
  rw [sfnd_n h]
theorem sNv_n {R R' B : Nat → Nat} {lo hi : Nat} {o : TO} (h : ∀ j, 61 ≤ j → R' j = R j) : sNv R' B lo hi o = sNv R B lo hi o := by
  unfold sNv
  rw [sNmd_n h]
  cases oB o (sNmd R B lo hi) with
  | inr e => rfl
  | inl t =>
    show (sfnd R' B t).getD 0 - lo = (sfnd R B t).getD 0 - lo
    rw [sfnd_n h]
theorem RX_Fo {R S B : Nat → Nat} {n : Nat} {t : Nat × Nat × Nat} (hX : RX R S) (h : oF (lFo R S B n t).1 = false) : RX (lFo R S B n t).2.1 (lFo R S B n t).2.2 ∧ R 8 = 0 := by
  obtain ⟨⟨i1, ⟨i2, i3, i4, i5, i6⟩, i7, i8, i9⟩, hR, hS, hC, hZ, hN, hL, hT, hU⟩ := hX
  have e8 : R 8 = 0 := by
    unfold lFo at h
    by_cases z : R 8 = 0
    · exact z
    · rw [if_neg z] at h; cases h
  refine ⟨?_, e8⟩
  show RX (nup (nup R 0 (sAv B n 8 100 (.inl (sNx B n t)))) 8 1) S
  have hv := sAv_le (B := B) (n := n) (i := 8) (u := 100) (.inl (sNx B n t))
  generalize sAv B n 8 100 (.inl (sNx B n t)) = v at hv
  obtain ⟨z1, z2, z3, z4, z5, z6, z7⟩ := hZ e8
  have lo : ∀ j, j ≠ 0 → j ≠ 8 → nup (nup R 0 v) 8 1 j = R j := fun j q1 q2 => by rw [nup_ne q2, nup_ne q1]
  have l0 : nup (nup R 0 v) 8 1 0 = v := by rw [nup_ne (by decide), nup_same]
  have l8 : nup (nup R 0 v) 8 1 8 = 1 := nup_same _ _ _
  generalize nup (nup R 0 v) 8 1 = R' at lo l0 l8
  have l1 := lo 1 (by decide) (by decide)
  have l3 := lo 3 (by decide) (by decide)
  have l4 := lo 4 (by decide) (by decide)
  have l5 := lo 5 (by decide) (by decide)
  refine ⟨⟨fun j hj => ?_, ⟨by omega, by omega, by omega, by omega, by omega⟩, fun p hp => by rw [lo _ (by omega) (by omega)]; exact i7 p hp, i8, i9⟩, ?_, wfS_n hS ⟨l1, l3, l4⟩, ?_, fun z => by omega, rNm_keep hN ⟨l1, l3, l4, l5⟩ (fun j hj => lo j (by omega) (by omega)), by rw [l1]; exact hL, hT, fun p a b => by rw [lo _ (by omega) (by omega)]; exact hU p (by omega) b⟩
  · by_cases a : j = 0
    · subst a; omega
    · by_cases b : j = 8
      · subst b; omega
      · rw [lo j a b]; exact i1 j hj
  · refine ⟨by omega, by omega, by omega, by omega, by omega, fun p hp => by omega, fun p hp => by omega, fun p hp => by omega, fun p hp => by omega⟩
  · rw [lo 2 (by decide) (by decide), lo 6 (by decide) (by decide), lo 7 (by decide) (by decide)]; exact hC
theorem RX_Pl {R S B : Nat → Nat} {n : Nat} {o : TO} (hX : RX R S) (hk : ∀ t, o = .inl t → sTk B n t) (h8 : oF o = false → R 8 ≠ 0 ∧ R 1 < 7) (h : oF (lPl R S B n o).1 = false) : RX (lPl R S B n o).2.1 (lPl R S B n o).2.2 := by
  obtain ⟨⟨i1, ⟨i2, i3, i4, i5, i6⟩, i7, i8, i9⟩, hR, hS, hC, hZ, hN, hL, hT, hU⟩ := hX
  obtain ⟨t, rfl, hw⟩ := lPl_f h
  obtain ⟨q8, q1⟩ := h8 rfl
  have k0 := hk t rfl
  obtain ⟨w1, -⟩ := sNw_w hw
  show RX (lPlA _ S B n (R 1) (sNw R B n t)).2.1 (lPlA _ S B n (R 1) (sNw R B n t)).2.2
  generalize sNw R B n t = o1
  unfold lPlA
  have hv := sAv_le (B := B) (n := n) (i := 11) (u := 9) (if oW B o1 9 = true then oT B n o1 9 else oM B n (oT B n o1 9) 10)
  generalize sAv B n 11 9 (if oW B o1 9 = true then oT B n o1 9 else oM B n (oT B n o1 9) 10) = v at hv
  show RX (nup (nup (snm R B t (R 1)) (9 + R 1) v) 1 (R 1 + 1)) (nup S 38 (S 38 ||| if oW B o1 9 = true then 1 <<< R 1 else 0))
  have hb : (S 38 ||| if oW B o1 9 = true then 1 <<< R 1 else 0) < 2 ^ (R 1 + 1) := by
    refine Nat.or_lt_two_pow (Nat.lt_of_lt_of_le hL (Nat.pow_le_pow_right (by decide) (by omega))) ?_
    split
    · rw [Nat.one_shiftLeft]; exact Nat.pow_lt_pow_right (by decide) (by omega)
    · exact Nat.pow_pos (by decide)
  generalize (S 38 ||| if oW B o1 9 = true then 1 <<< R 1 else 0) = b at hb
  have hi' : ∀ j, 61 ≤ j → nup (nup (snm R B t (R 1)) (9 + R 1) v) 1 (R 1 + 1) j = snm R B t (R 1) j := fun j hj => by rw [nup_ne (by omega), nup_ne (by omega)]
  have lo : ∀ j, j < 61 → j ≠ 1 → j ≠ 9 + R 1 → nup (nup (snm R B t (R 1)) (9 + R 1) v) 1 (R 1 + 1) j = R j := fun j q0 q1 q2 => by rw [nup_ne q1, nup_ne q2, snm_ne q0]
  have l1 : nup (nup (snm R B t (R 1)) (9 + R 1) v) 1 (R 1 + 1) 1 = R 1 + 1 := nup_same _ _ _
  have l9 : nup (nup (snm R B t (R 1)) (9 + R 1) v) 1 (R 1 + 1) (9 + R 1) = v := by rw [nup_ne (by omega), nup_same]
  have bnd := snm_lt (x := R 1) k0 i1
  generalize hG : nup (nup (snm R B t (R 1)) (9 + R 1) v) 1 (R 1 + 1) = R' at lo hi' l1 l9
  have l0 := lo 0 (by omega) (by omega) (by omega)
  have l2 := lo 2 (by omega) (by omega) (by omega)
  have l3 := lo 3 (by omega) (by omega) (by omega)
  have l4 := lo 4 (by omega) (by omega) (by omega)
  have l5 := lo 5 (by omega) (by omega) (by omega)
  have l6 := lo 6 (by omega) (by omega) (by omega)
  have l7 := lo 7 (by omega) (by omega) (by omega)
  have l8 := lo 8 (by omega) (by omega) (by omega)
  obtain ⟨w1', w3, w4, w5, w0, wP, wM, wK, wX⟩ := hR
  obtain ⟨s1, s2, s3⟩ := hS
  have hS8 : ∀ j, j ≠ 38 → nup S 38 b j = S j := fun j q => nup_ne q
  have p7 : 2 ^ (R 1 + 1) ≤ 2 ^ 7 := Nat.pow_le_pow_right (by decide) (by omega)
  refine ⟨⟨fun j hj => ?_, ⟨by omega, by omega, by omega, by omega, by omega⟩, fun p hp => by rw [lo _ (by omega) (by omega) (by omega)]; exact i7 p hp, fun m hm => by rw [hS8 _ (by omega)]; exact i8 m hm, fun k hk => by rw [hS8 _ (by omega)]; exact i9 k hk⟩, ⟨by omega, by omega, by omega, by omega, by omega, fun p hp => ?_, fun m hm => by rw [lo _ (by omega) (by omega) (by omega)]; exact wM m (by omega), fun k hk => ?_, fun s hs => ?_⟩, ⟨fun m hm a ha => ?_, fun k hk => ?_, ?_⟩, by omega, fun z => by omega, rNm_new hN k0 w1 (by omega) (fun y hy => ?_) hi', by rw [nup_same, l1]; exact hb, by rw [hS8 _ (by decide)]; exact hT, fun p a b => by rw [lo _ (by omega) (by omega) (by omega)]; exact hU p (by omega) b⟩
  · by_cases a : j < 61
    · by_cases b : j = 1
      · subst b; omega
      · by_cases c : j = 9 + R 1
        · subst c; omega
        · rw [lo j a b c]; exact i1 j hj
    · rw [hi' j (by omega)]; exact bnd j hj
  · rw [l1]
    by_cases e : p = R 1
    · subst e
      rw [l9, lo (23 + R 1) (by omega) (by omega) (by omega)]
      refine ⟨hv, i7 _ (by omega), fun q hq => ?_⟩
      rw [hU _ (Nat.le_refl _) (by omega), Nat.zero_testBit] at hq; cases hq
    · rw [lo (9 + p) (by omega) (by omega) (by omega), lo (23 + p) (by omega) (by omega) (by omega)]
      have := wP p (by omega)
      exact ⟨this.1, this.2.1, fun q hq => by have := this.2.2 q hq; omega⟩
  · rw [lo _ (by omega) (by omega) (by omega), lo (34 + 4 * k + 1) (by omega) (by omega) (by omega), lo (34 + 4 * k + 2) (by omega) (by omega) (by omega), l3]
    exact wK k (by omega)
  · rw [lo _ (by omega) (by omega) (by omega)]
    have := wX s (by omega)
    omega
  · rw [hS8 _ (by omega)]
    have := s1 m (by omega) a ha
    omega
  · rw [hS8 _ (by omega)]
    have := s2 k (by omega)
    omega
  · rw [nup_same]; omega
  · unfold rTo
    rw [l1, l3, l4, l5]
    omega
theorem RX_St {R S B : Nat → Nat} {n : Nat} {o : TO} (hX : RX R S) (hk : ∀ t, o = .inl t → sTk B n t) (h8 : oF o = false → R 8 ≠ 0 ∧ R 5 < 3) (h : oF (lSt R S B n o).1 = false) : RX (lSt R S B n o).2.1 (lSt R S B n o).2.2 := by
  obtain ⟨⟨i1, ⟨i2, i3, i4, i5, i6⟩, i7, i8, i9⟩, hR, hS, hC, hZ, hN, hL, hT, hU⟩ := hX
  obtain ⟨t, rfl, hw, hm⟩ := lSt_f h
  obtain ⟨q8, q1⟩ := h8 rfl
  have k0 := hk t rfl
  obtain ⟨w1, -⟩ := sNw_w hw
  have n7 : rNm (nup (snm R B t (17 + R 5)) 5 (R 5 + 1)) := by
    refine rNm_new (x := 17 + R 5) hN k0 w1 (by omega) (fun y hy => ?_) (fun j hj => nup_ne (by omega))
    unfold rTo
    rw [nup_same, nup_ne (by decide), nup_ne (by decide), nup_ne (by decide), snm_ne (by decide), snm_ne (by decide), snm_ne (by decide)]
    omega
  have hv : sNv (snm R B t (17 + R 5)) B 0 6 (oM B n (sNw R B n t) 16) < R 1 := by
    have z := sNv_to (R := nup (snm R B t (17 + R 5)) 5 (R 5 + 1)) (B := B) (lo := 0) (hi := 6) (o := oM B n (sNw R B n t) 16) n7 (by rw [sNmd_n (fun j hj => nup_ne (by omega))]; exact hm)
    rw [sNv_n (fun j hj => nup_ne (by omega))] at z
    obtain ⟨z1, z2⟩ := z
    generalize sNv (snm R B t (17 + R 5)) B 0 6 (oM B n (sNw R B n t) 16) = v at z1 z2
    unfold rTo at z1
    rw [nup_same, nup_ne (by decide), nup_ne (by decide), nup_ne (by decide), snm_ne (by decide), snm_ne (by decide), snm_ne (by decide)] at z1
    omega
  show RX (nup (nup (snm R B t (17 + R 5)) (58 + R 5) (sNv (snm R B t (17 + R 5)) B 0 6 (oM B n (sNw R B n t) 16))) 5 (R 5 + 1)) S
  generalize sNv (snm R B t (17 + R 5)) B 0 6 (oM B n (sNw R B n t) 16) = v at hv
  have hi' : ∀ j, 61 ≤ j → nup (nup (snm R B t (17 + R 5)) (58 + R 5) v) 5 (R 5 + 1) j = nup (snm R B t (17 + R 5)) 5 (R 5 + 1) j := fun j hj => by rw [nup_ne (by omega), nup_ne (by omega), nup_ne (by omega)]
  have lo : ∀ j, j < 61 → j ≠ 5 → j ≠ 58 + R 5 → nup (nup (snm R B t (17 + R 5)) (58 + R 5) v) 5 (R 5 + 1) j = R j := fun j q0 q1 q2 => by rw [nup_ne q1, nup_ne q2, snm_ne q0]
  have l5 : nup (nup (snm R B t (17 + R 5)) (58 + R 5) v) 5 (R 5 + 1) 5 = R 5 + 1 := nup_same _ _ _
  have l9 : nup (nup (snm R B t (17 + R 5)) (58 + R 5) v) 5 (R 5 + 1) (58 + R 5) = v := by rw [nup_ne (by omega), nup_same]
  have bnd := snm_lt (x := 17 + R 5) k0 i1
  have n8 : rNm (nup (nup (snm R B t (17 + R 5)) (58 + R 5) v) 5 (R 5 + 1)) := by
    refine rNm_keep n7 ⟨?_, ?_, ?_, ?_⟩ hi'
    · rw [lo _ (by omega) (by omega) (by omega), nup_ne (by omega), snm_ne (by omega)]
    · rw [lo _ (by omega) (by omega) (by omega), nup_ne (by omega), snm_ne (by omega)]
    · rw [lo _ (by omega) (by omega) (by omega), nup_ne (by omega), snm_ne (by omega)]
    · rw [l5, nup_same]
  have hj' : ∀ j, 61 ≤ j → j < 241 → nup (nup (snm R B t (17 + R 5)) (58 + R 5) v) 5 (R 5 + 1) j < 2147483648 := fun j a b => by rw [nup_ne (by omega), nup_ne (by omega)]; exact bnd j b
  generalize hG : nup (nup (snm R B t (17 + R 5)) (58 + R 5) v) 5 (R 5 + 1) = R' at lo hi' l5 l9 n8 hj'
  have l0 := lo 0 (by omega) (by omega) (by omega)
  have l1 := lo 1 (by omega) (by omega) (by omega)
  have l2 := lo 2 (by omega) (by omega) (by omega)
  have l3 := lo 3 (by omega) (by omega) (by omega)
  have l4 := lo 4 (by omega) (by omega) (by omega)
  have l6 := lo 6 (by omega) (by omega) (by omega)
  have l7 := lo 7 (by omega) (by omega) (by omega)
  have l8 := lo 8 (by omega) (by omega) (by omega)
  obtain ⟨w1', w3, w4, w5, w0, wP, wM, wK, wX⟩ := hR
  refine ⟨⟨fun j hj => ?_, ⟨by omega, by omega, by omega, by omega, by omega⟩, fun p hp => by rw [lo _ (by omega) (by omega) (by omega)]; exact i7 p hp, i8, i9⟩, ⟨by omega, by omega, by omega, by omega, by omega, fun p hp => ?_, fun m hm => by rw [lo _ (by omega) (by omega) (by omega)]; exact wM m (by omega), fun k hk => ?_, fun s hs => ?_⟩, wfS_n hS ⟨l1, l3, l4⟩, by omega, fun z => by omega, n8, by rw [l1]; exact hL, hT, fun p a b => by rw [lo _ (by omega) (by omega) (by omega)]; exact hU p (by omega) b⟩
  · by_cases a : j < 61
    · by_cases b : j = 5
      · subst b; omega
      · by_cases c : j = 58 + R 5
        · subst c; omega
        · rw [lo j a b c]; exact i1 j hj
    · exact hj' j (by omega) hj
  · rw [lo (9 + p) (by omega) (by omega) (by omega), lo (23 + p) (by omega) (by omega) (by omega), l1]
    exact wP p (by omega)
  · rw [lo _ (by omega) (by omega) (by omega), lo (34 + 4 * k + 1) (by omega) (by omega) (by omega), lo (34 + 4 * k + 2) (by omega) (by omega) (by omega), l3]
    exact wK k (by omega)
  · rw [l1]
    by_cases e : s = R 5
    · subst e; rw [l9]; exact hv
    · rw [lo _ (by omega) (by omega) (by omega)]
      exact wX s (by omega)
