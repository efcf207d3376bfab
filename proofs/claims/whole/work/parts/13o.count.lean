def cnt (R : Nat → Nat) : Nat → Nat := fun i => if i = 0 then R 8 else R i
theorem cnt_up {R R' : Nat → Nat} {i : Nat} (h1 : 1 ≤ i) (h8 : i < 8) (hs : R' i = R i + 1) (ho : ∀ k, k < 9 → k ≠ i → R' k = R k) : ∀ j, j < 8 → cnt R' j = nup (cnt R) i (cnt R i + 1) j := by
  intro j hj
  by_cases e : j = i
  · subst e
    rw [nup_same]
    unfold cnt
    rw [if_neg (by omega), if_neg (by omega), hs]
  · rw [nup_ne e]
    unfold cnt
    split
    · exact ho 8 (by omega) (by omega)
    · exact ho j (by omega) e
theorem lRs_cnt {R S B : Nat → Nat} {n i : Nat} {t : Nat × Nat × Nat} (h8 : i < 8) (h0 : i = 0 → R 8 = 0) : ∀ j, j < 8 → cnt (lRs R S B n i t).2.1 j = nup (cnt R) i (cnt R i + 1) j := by
  rcases (show i = 0 ∨ i = 1 ∨ i = 2 ∨ i = 3 ∨ i = 4 ∨ i = 5 ∨ i = 6 ∨ i = 7 by omega) with rfl | rfl | rfl | rfl | rfl | rfl | rfl | rfl
  · intro j hj
    rw [show (lRs R S B n 0 t).2.1 = nup (nup R 0 (sAv B n 8 100 (.inl t))) 8 1 from rfl]
    have r8 := h0 rfl
    by_cases e : j = 0
    · subst e
      rw [nup_same]
      show nup (nup R 0 (sAv B n 8 100 (.inl t))) 8 1 8 = R 8 + 1
      rw [nup_same, r8]
    · rw [nup_ne e]
      unfold cnt
      rw [if_neg e, if_neg e, nup_ne (by omega), nup_ne e]
  · show ∀ j, j < 8 → cnt (nup (nup (snm R B t (R 1)) (9 + R 1) _) 1 (R 1 + 1)) j = _
    refine cnt_up (by decide) (by decide) (nup_same _ _ _) (fun k a b => ?_)
    rw [nup_ne b, nup_ne (by omega), snm_ne (by omega)]
  · show ∀ j, j < 8 → cnt (nup (nup (nup R _ _) _ _) 2 (R 2 + 1)) j = _
    refine cnt_up (by decide) (by decide) (nup_same _ _ _) (fun k a b => ?_)
    rw [nup_ne b, nup_ne (by omega), nup_ne (by omega)]
  · show ∀ j, j < 8 → cnt (nup (nup (snm R B t (7 + R 3)) (30 + R 3) _) 3 (R 3 + 1)) j = _
    refine cnt_up (by decide) (by decide) (nup_same _ _ _) (fun k a b => ?_)
    rw [nup_ne b, nup_ne (by omega), snm_ne (by omega)]
  · show ∀ j, j < 8 → cnt (nup (nup (nup (nup (snm R B t (11 + R 4)) (34 + 4 * R 4) _) (34 + 4 * R 4 + 1) _) (34 + 4 * R 4 + 2) _) 4 (R 4 + 1)) j = _
    refine cnt_up (by decide) (by decide) (nup_same _ _ _) (fun k a b => ?_)
    rw [nup_ne b, nup_ne (by omega), nup_ne (by omega), nup_ne (by omega), snm_ne (by omega)]
  · show ∀ j, j < 8 → cnt (nup (nup (snm R B t (17 + R 5)) (58 + R 5) _) 5 (R 5 + 1)) j = _
    refine cnt_up (by decide) (by decide) (nup_same _ _ _) (fun k a b => ?_)
    rw [nup_ne b, nup_ne (by omega), snm_ne (by omega)]
  · show ∀ j, j < 8 → cnt (nup R 6 (R 6 + 1)) j = _
    refine cnt_up (by decide) (by decide) (nup_same _ _ _) (fun k a b => nup_ne b)
  · show ∀ j, j < 8 → cnt (nup R 7 (R 7 + 1)) j = _
    refine cnt_up (by decide) (by decide) (nup_same _ _ _) (fun k a b => nup_ne b)
theorem DrC.cn {h : ZH} {s le tr td i : Nat} {K K' R S fc fh fn fk fs fg fw fe fl ft : Nat → Nat} (hK : DOK s le tr td) (hB : DrC h s le tr td K R S fc fh fn fk fs fg fw fe fl ft) (h8 : i < 8) (hk : ∀ j, j < 8 → K' j = nup K i (K i + 1) j) : Drf (zup h (td + 1) (zI 8 (nup fc i (K i + 1)))) s le tr td K' R S := by
  obtain ⟨⟨c0, c1, c2, c3, c4, c5, c6, c7, c8, c9, c10, c11⟩, r0, r1, r2, r3, r4, r5, r6, r7, r8, r9⟩ := hB
  unfold DOK at hK
  refine ⟨nup fc i (K i + 1), fh, fn, fk, fs, fg, fw, fe, fl, ft, ⟨(zup_ne (by omega)).trans c0, zup_same _ _ _, (zup_ne (by omega)).trans c2, (zup_ne (by omega)).trans c3, (zup_ne (by omega)).trans c4, (zup_ne (by omega)).trans c5, (zup_ne (by omega)).trans c6, (zup_ne (by omega)).trans c7, (zup_ne (by omega)).trans c8, (zup_ne (by omega)).trans c9, (zup_ne (by omega)).trans c10, (zup_ne (by omega)).trans c11⟩, fun j hj => ?_, r1, r2, r3, r4, r5, r6, r7, r8, r9⟩
  rw [hk j hj]
  by_cases e : j = i
  · subst e; rw [nup_same, nup_same]
  · rw [nup_ne e, nup_ne e]; exact r0 j hj
theorem kCd_inj : ∀ i j : Fin 8, kCd i.val = kCd j.val → i = j := by decide +kernel
theorem NTp.z0 {c so nu : Nat → Nat} (h8 : NT8 c so nu) : NTp zer c so nu zer 8 := by
  refine ⟨by decide, rfl, h8, fun i a b => by omega, fun x a b => ?_, fun i j a b e => ?_⟩
  · exfalso
    unfold rTo zer at b
    omega
  · rw [(h8 i a).1, (h8 j b).1] at e
    exact congrArg Fin.val (kCd_inj ⟨i, a⟩ ⟨j, b⟩ e)
