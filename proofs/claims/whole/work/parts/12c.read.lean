theorem RX_Ma {R S B : Nat → Nat} {n : Nat} {o : TO} (hX : RX R S) (hk : ∀ t, o = .inl t → sTk B n t) (h8 : oF o = false → R 8 ≠ 0 ∧ R 3 < 4) (h : oF (lMa R S B n o).1 = false) : RX (lMa R S B n o).2.1 (lMa R S B n o).2.2 := by
  obtain ⟨⟨i1, ⟨i2, i3, i4, i5, i6⟩, i7, i8, i9⟩, hR, hS, hC, hZ, hN, hL, hT, hU⟩ := hX
  obtain ⟨t, rfl, hw, hd, hm⟩ := lMa_f h
  obtain ⟨q8, q1⟩ := h8 rfl
  have k0 := hk t rfl
  obtain ⟨w1, -⟩ := sNw_w hw
  have n7 : rNm (nup (snm R B t (7 + R 3)) 3 (R 3 + 1)) := by
    refine rNm_new (x := 7 + R 3) hN k0 w1 (by omega) (fun y hy => ?_) (fun j hj => nup_ne (by omega))
    unfold rTo
    rw [nup_same, nup_ne (by decide), nup_ne (by decide), nup_ne (by decide), snm_ne (by decide), snm_ne (by decide), snm_ne (by decide)]
    omega
  have hv : sNv (snm R B t (7 + R 3)) B 0 6 (lMaO B n (sNw R B n t)) < R 1 := by
    have z := sNv_to (R := nup (snm R B t (7 + R 3)) 3 (R 3 + 1)) (B := B) (lo := 0) (hi := 6) (o := lMaO B n (sNw R B n t)) n7 (by rw [sNmd_n (fun j hj => nup_ne (by omega))]; exact hm)
    rw [sNv_n (fun j hj => nup_ne (by omega))] at z
    obtain ⟨z1, z2⟩ := z
    generalize sNv (snm R B t (7 + R 3)) B 0 6 (lMaO B n (sNw R B n t)) = v at z1 z2
    unfold rTo at z1
    rw [nup_same, nup_ne (by decide), nup_ne (by decide), nup_ne (by decide), snm_ne (by decide), snm_ne (by decide), snm_ne (by decide)] at z1
    omega
  have hkd : (sKd B (sNw R B n t)).getD 0 ≤ 3 := by
    unfold sKd
    repeat' split
    all_goals decide
  show RX (nup (nup (snm R B t (7 + R 3)) (30 + R 3) ((sKd B (sNw R B n t)).getD 0)) 3 (R 3 + 1)) (nfl S (8 * R 3) 8 (sNv (snm R B t (7 + R 3)) B 0 6 (lMaO B n (sNw R B n t))))
  generalize sNv (snm R B t (7 + R 3)) B 0 6 (lMaO B n (sNw R B n t)) = v at hv
  generalize (sKd B (sNw R B n t)).getD 0 = kd at hkd
  have hi' : ∀ j, 61 ≤ j → nup (nup (snm R B t (7 + R 3)) (30 + R 3) kd) 3 (R 3 + 1) j = nup (snm R B t (7 + R 3)) 3 (R 3 + 1) j := fun j hj => by rw [nup_ne (by omega), nup_ne (by omega), nup_ne (by omega)]
  have lo : ∀ j, j < 61 → j ≠ 3 → j ≠ 30 + R 3 → nup (nup (snm R B t (7 + R 3)) (30 + R 3) kd) 3 (R 3 + 1) j = R j := fun j q0 q1 q2 => by rw [nup_ne q1, nup_ne q2, snm_ne q0]
  have l3 : nup (nup (snm R B t (7 + R 3)) (30 + R 3) kd) 3 (R 3 + 1) 3 = R 3 + 1 := nup_same _ _ _
  have l9 : nup (nup (snm R B t (7 + R 3)) (30 + R 3) kd) 3 (R 3 + 1) (30 + R 3) = kd := by rw [nup_ne (by omega), nup_same]
  have bnd := snm_lt (x := 7 + R 3) k0 i1
  have n8 : rNm (nup (nup (snm R B t (7 + R 3)) (30 + R 3) kd) 3 (R 3 + 1)) := by
    refine rNm_keep n7 ⟨?_, ?_, ?_, ?_⟩ hi'
    · rw [lo _ (by omega) (by omega) (by omega), nup_ne (by omega), snm_ne (by omega)]
    · rw [l3, nup_same]
    · rw [lo _ (by omega) (by omega) (by omega), nup_ne (by omega), snm_ne (by omega)]
    · rw [lo _ (by omega) (by omega) (by omega), nup_ne (by omega), snm_ne (by omega)]
  have hj' : ∀ j, 61 ≤ j → j < 241 → nup (nup (snm R B t (7 + R 3)) (30 + R 3) kd) 3 (R 3 + 1) j < 2147483648 := fun j a b => by rw [nup_ne (by omega), nup_ne (by omega)]; exact bnd j b
  generalize hG : nup (nup (snm R B t (7 + R 3)) (30 + R 3) kd) 3 (R 3 + 1) = R' at lo hi' l3 l9 n8 hj'
  have l0 := lo 0 (by omega) (by omega) (by omega)
  have l1 := lo 1 (by omega) (by omega) (by omega)
  have l2 := lo 2 (by omega) (by omega) (by omega)
  have l5 := lo 5 (by omega) (by omega) (by omega)
  have l6 := lo 6 (by omega) (by omega) (by omega)
  have l7 := lo 7 (by omega) (by omega) (by omega)
  have l8 := lo 8 (by omega) (by omega) (by omega)
  have l4 := lo 4 (by omega) (by omega) (by omega)
  obtain ⟨w1', w3, w4, w5, w0, wP, wM, wK, wX⟩ := hR
  obtain ⟨s1, s2, s3⟩ := hS
  have so : ∀ j, j < 8 * R 3 ∨ 8 * R 3 + 8 ≤ j → nfl S (8 * R 3) 8 v j = S j := fun j q => if_neg (by omega)
  have si : ∀ j, 8 * R 3 ≤ j → j < 8 * R 3 + 8 → nfl S (8 * R 3) 8 v j = v := fun j a b => if_pos ⟨a, b⟩
  refine ⟨⟨fun j hj => ?_, ⟨by omega, by omega, by omega, by omega, by omega⟩, fun p hp => by rw [lo _ (by omega) (by omega) (by omega)]; exact i7 p hp, fun m hm => ?_, fun k hk => by rw [so _ (by omega)]; exact i9 k hk⟩, ⟨by omega, by omega, by omega, by omega, by omega, fun p hp => ?_, fun m hm => ?_, fun k hk => ?_, fun s hs => ?_⟩, ⟨fun m hm a ha => ?_, fun k hk => ?_, by rw [so _ (by omega)]; exact s3⟩, by omega, fun z => by omega, n8, by rw [l1, so _ (by omega)]; exact hL, by rw [so _ (by omega)]; exact hT, fun p a b => by rw [lo _ (by omega) (by omega) (by omega)]; exact hU p (by omega) b⟩
  · by_cases a : j < 61
    · by_cases b : j = 3
      · subst b; omega
      · by_cases c : j = 30 + R 3
        · subst c; omega
        · rw [lo j a b c]; exact i1 j hj
    · exact hj' j (by omega) hj
  · by_cases e : m = R 3
    · subst e; rw [si _ (by omega) (by omega)]; omega
    · rw [so _ (by omega)]; exact i8 m hm
  · rw [lo (9 + p) (by omega) (by omega) (by omega), lo (23 + p) (by omega) (by omega) (by omega), l1]
    exact wP p (by omega)
  · by_cases e : m = R 3
    · subst e; rw [l9]; exact hkd
    · rw [lo _ (by omega) (by omega) (by omega)]; exact wM m (by omega)
  · rw [lo _ (by omega) (by omega) (by omega), lo (34 + 4 * k + 1) (by omega) (by omega) (by omega), lo (34 + 4 * k + 2) (by omega) (by omega) (by omega), l3]
    have := wK k (by omega)
    omega
  · rw [lo _ (by omega) (by omega) (by omega), l1]
    exact wX s (by omega)
  · rw [l1]
    by_cases e : m = R 3
    · subst e; rw [si _ (by omega) (by omega)]; exact hv
    · rw [so _ (by omega)]; exact s1 m (by omega) a ha
  · rw [so _ (by omega), l3]
    have := s2 k (by omega)
    omega
theorem RX_Ki {R S B : Nat → Nat} {n : Nat} {o : TO} (hX : RX R S) (hk : ∀ t, o = .inl t → sTk B n t) (h8 : oF o = false → R 8 ≠ 0 ∧ R 4 < 6) (h : oF (lKi R S B n o).1 = false) : RX (lKi R S B n o).2.1 (lKi R S B n o).2.2 := by
  obtain ⟨⟨i1, ⟨i2, i3, i4, i5, i6⟩, i7, i8, i9⟩, hR, hS, hC, hZ, hN, hL, hT, hU⟩ := hX
  obtain ⟨t, rfl, hw, hm⟩ := lKi_f h
  obtain ⟨q8, q1⟩ := h8 rfl
  have k0 := hk t rfl
  obtain ⟨w1, -⟩ := sNw_w hw
  have n7 : rNm (nup (snm R B t (11 + R 4)) 4 (R 4 + 1)) := by
    refine rNm_new (x := 11 + R 4) hN k0 w1 (by omega) (fun y hy => ?_) (fun j hj => nup_ne (by omega))
    unfold rTo
    rw [nup_same, nup_ne (by decide), nup_ne (by decide), nup_ne (by decide), snm_ne (by decide), snm_ne (by decide), snm_ne (by decide)]
    omega
  have hv : sNv (snm R B t (11 + R 4)) B 7 10 (oM B n (sNw R B n t) 17) < R 3 := by
    have z := sNv_to (R := nup (snm R B t (11 + R 4)) 4 (R 4 + 1)) (B := B) (lo := 7) (hi := 10) (o := oM B n (sNw R B n t) 17) n7 (by rw [sNmd_n (fun j hj => nup_ne (by omega))]; exact hm)
    rw [sNv_n (fun j hj => nup_ne (by omega))] at z
    obtain ⟨z1, z2⟩ := z
    generalize sNv (snm R B t (11 + R 4)) B 7 10 (oM B n (sNw R B n t) 17) = v at z1 z2
    unfold rTo at z1
    rw [nup_same, nup_ne (by decide), nup_ne (by decide), nup_ne (by decide), snm_ne (by decide), snm_ne (by decide), snm_ne (by decide)] at z1
    omega
  have ha := sAv_le (B := B) (n := n) (i := 18) (u := 3) (lKiO (snm R B t (11 + R 4)) B n (sNw R B n t))
  have hb := sAv_le (B := B) (n := n) (i := 19) (u := 20) (sAf B n 18 3 (lKiO (snm R B t (11 + R 4)) B n (sNw R B n t)))
  show RX (nup (nup (nup (nup (snm R B t (11 + R 4)) (34 + 4 * R 4) (sNv (snm R B t (11 + R 4)) B 7 10 (oM B n (sNw R B n t) 17))) (34 + 4 * R 4 + 1) (sAv B n 18 3 (lKiO (snm R B t (11 + R 4)) B n (sNw R B n t)))) (34 + 4 * R 4 + 2) (sAv B n 19 20 (sAf B n 18 3 (lKiO (snm R B t (11 + R 4)) B n (sNw R B n t))))) 4 (R 4 + 1)) (nup S (32 + R 4) (sNv (snm R B t (11 + R 4)) B 7 10 (oM B n (sNw R B n t) 17)))
  generalize sNv (snm R B t (11 + R 4)) B 7 10 (oM B n (sNw R B n t) 17) = v at hv
  generalize sAv B n 18 3 (lKiO (snm R B t (11 + R 4)) B n (sNw R B n t)) = a0 at ha
  generalize sAv B n 19 20 (sAf B n 18 3 (lKiO (snm R B t (11 + R 4)) B n (sNw R B n t))) = b0 at hb
  have hi' : ∀ j, 61 ≤ j → nup (nup (nup (nup (snm R B t (11 + R 4)) (34 + 4 * R 4) v) (34 + 4 * R 4 + 1) a0) (34 + 4 * R 4 + 2) b0) 4 (R 4 + 1) j = nup (snm R B t (11 + R 4)) 4 (R 4 + 1) j := fun j hj => by rw [nup_ne (by omega), nup_ne (by omega), nup_ne (by omega), nup_ne (by omega), nup_ne (by omega)]
  have lo : ∀ j, j < 61 → j ≠ 4 → j < 34 + 4 * R 4 ∨ 34 + 4 * R 4 + 2 < j → nup (nup (nup (nup (snm R B t (11 + R 4)) (34 + 4 * R 4) v) (34 + 4 * R 4 + 1) a0) (34 + 4 * R 4 + 2) b0) 4 (R 4 + 1) j = R j := fun j q0 q1 q2 => by rw [nup_ne q1, nup_ne (by omega), nup_ne (by omega), nup_ne (by omega), snm_ne q0]
  have l4 : nup (nup (nup (nup (snm R B t (11 + R 4)) (34 + 4 * R 4) v) (34 + 4 * R 4 + 1) a0) (34 + 4 * R 4 + 2) b0) 4 (R 4 + 1) 4 = R 4 + 1 := nup_same _ _ _
  have l9 : nup (nup (nup (nup (snm R B t (11 + R 4)) (34 + 4 * R 4) v) (34 + 4 * R 4 + 1) a0) (34 + 4 * R 4 + 2) b0) 4 (R 4 + 1) (34 + 4 * R 4) = v := by rw [nup_ne (by omega), nup_ne (by omega), nup_ne (by omega), nup_same]
  have l10 : nup (nup (nup (nup (snm R B t (11 + R 4)) (34 + 4 * R 4) v) (34 + 4 * R 4 + 1) a0) (34 + 4 * R 4 + 2) b0) 4 (R 4 + 1) (34 + 4 * R 4 + 1) = a0 := by rw [nup_ne (by omega), nup_ne (by omega), nup_same]
  have l11 : nup (nup (nup (nup (snm R B t (11 + R 4)) (34 + 4 * R 4) v) (34 + 4 * R 4 + 1) a0) (34 + 4 * R 4 + 2) b0) 4 (R 4 + 1) (34 + 4 * R 4 + 2) = b0 := by rw [nup_ne (by omega), nup_same]
  have bnd := snm_lt (x := 11 + R 4) k0 i1
  have n8 : rNm (nup (nup (nup (nup (snm R B t (11 + R 4)) (34 + 4 * R 4) v) (34 + 4 * R 4 + 1) a0) (34 + 4 * R 4 + 2) b0) 4 (R 4 + 1)) := by
    refine rNm_keep n7 ⟨?_, ?_, ?_, ?_⟩ hi'
    · rw [lo _ (by omega) (by omega) (by omega), nup_ne (by omega), snm_ne (by omega)]
    · rw [lo _ (by omega) (by omega) (by omega), nup_ne (by omega), snm_ne (by omega)]
    · rw [l4, nup_same]
    · rw [lo _ (by omega) (by omega) (by omega), nup_ne (by omega), snm_ne (by omega)]
  have hj' : ∀ j, 61 ≤ j → j < 241 → nup (nup (nup (nup (snm R B t (11 + R 4)) (34 + 4 * R 4) v) (34 + 4 * R 4 + 1) a0) (34 + 4 * R 4 + 2) b0) 4 (R 4 + 1) j < 2147483648 := fun j a b => by rw [hi' j a, nup_ne (by omega)]; exact bnd j b
  generalize hG : nup (nup (nup (nup (snm R B t (11 + R 4)) (34 + 4 * R 4) v) (34 + 4 * R 4 + 1) a0) (34 + 4 * R 4 + 2) b0) 4 (R 4 + 1) = R' at lo hi' l4 l9 l10 l11 n8 hj'
  have l0 := lo 0 (by omega) (by omega) (by omega)
  have l1 := lo 1 (by omega) (by omega) (by omega)
  have l2 := lo 2 (by omega) (by omega) (by omega)
  have l5 := lo 5 (by omega) (by omega) (by omega)
  have l6 := lo 6 (by omega) (by omega) (by omega)
  have l7 := lo 7 (by omega) (by omega) (by omega)
  have l8 := lo 8 (by omega) (by omega) (by omega)
  have l3 := lo 3 (by omega) (by omega) (by omega)
  obtain ⟨w1', w3, w4, w5, w0, wP, wM, wK, wX⟩ := hR
  obtain ⟨s1, s2, s3⟩ := hS
  have so : ∀ j, j ≠ 32 + R 4 → nup S (32 + R 4) v j = S j := fun j q => nup_ne q
  refine ⟨⟨fun j hj => ?_, ⟨by omega, by omega, by omega, by omega, by omega⟩, fun p hp => by rw [lo _ (by omega) (by omega) (by omega)]; exact i7 p hp, fun m hm => by rw [so _ (by omega)]; exact i8 m hm, fun k hk => ?_⟩, ⟨by omega, by omega, by omega, by omega, by omega, fun p hp => ?_, fun m hm => by rw [lo _ (by omega) (by omega) (by omega)]; exact wM m (by omega), fun k hk => ?_, fun s hs => ?_⟩, ⟨fun m hm a ha => ?_, fun k hk => ?_, by rw [so _ (by omega)]; exact s3⟩, by omega, fun z => by omega, n8, by rw [l1, so _ (by omega)]; exact hL, by rw [so _ (by omega)]; exact hT, fun p a b => by rw [lo _ (by omega) (by omega) (by omega)]; exact hU p (by omega) b⟩
  · by_cases a : j < 61
    · by_cases b : j = 4
      · subst b; omega
      · by_cases c : j = 34 + 4 * R 4
        · subst c; omega
        · by_cases c1 : j = 34 + 4 * R 4 + 1
          · subst c1; omega
          · by_cases c2 : j = 34 + 4 * R 4 + 2
            · subst c2; omega
            · rw [lo j a b (by omega)]; exact i1 j hj
    · exact hj' j (by omega) hj
  · by_cases e : k = R 4
    · subst e; rw [nup_same]; omega
    · rw [so _ (by omega)]; exact i9 k hk
  · rw [lo (9 + p) (by omega) (by omega) (by omega), lo (23 + p) (by omega) (by omega) (by omega), l1]
    exact wP p (by omega)
  · rw [l3]
    by_cases e : k = R 4
    · subst e; rw [l9, l10, l11]; exact ⟨hv, ha, hb⟩
    · rw [lo _ (by omega) (by omega) (by omega), lo (34 + 4 * k + 1) (by omega) (by omega) (by omega), lo (34 + 4 * k + 2) (by omega) (by omega) (by omega)]
      exact wK k (by omega)
  · rw [lo _ (by omega) (by omega) (by omega), l1]
    exact wX s (by omega)
  · rw [so _ (by omega), l1]; exact s1 m (by omega) a ha
  · rw [l3]
    by_cases e : k = R 4
    · subst e; rw [nup_same]; exact hv
    · rw [so _ (by omega)]; exact s2 k (by omega)
