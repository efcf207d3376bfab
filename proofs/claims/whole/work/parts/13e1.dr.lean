theorem DrC.pa {h : ZH} {s le tr td : Nat} {K R S R2 fc fh fn fk fs fg fw fe fl ft : Nat → Nat} {a b x y : Nat} (hK : DOK s le tr td) (hB : DrC h s le tr td K R S fc fh fn fk fs fg fw fe fl ft) (w3 : R 3 ≤ 4) (w4 : R 4 ≤ 6) (w5 : R 5 ≤ 3) (w1 : R 1 ≤ 7) (ha : a < 7) (hb : b < 7) (hab : a ≠ b) (lo : ∀ j, j ≠ 2 → j ≠ 23 + a → j ≠ 23 + b → R2 j = R j) (la : R2 (23 + a) = x) (lb : R2 (23 + b) = y) : Drf (zup h (td + 3) (zI 7 (nup (nup fn a x) b y))) s le tr td K R2 S := by
  obtain ⟨⟨c0, c1, c2, c3, c4, c5, c6, c7, c8, c9, c10, c11⟩, r0, r1, r2, r3, r4, r5, r6, r7, r8, r9⟩ := hB
  unfold DOK at hK
  have l0 := lo 0 (by omega) (by omega) (by omega)
  have l1 := lo 1 (by omega) (by omega) (by omega)
  have l3 := lo 3 (by omega) (by omega) (by omega)
  have l4 := lo 4 (by omega) (by omega) (by omega)
  have l5 := lo 5 (by omega) (by omega) (by omega)
  rw [← l0] at c0
  refine ⟨fc, fh, nup (nup fn a x) b y, fk, fs, fg, fw, fe, fl, ft, ⟨(zup_ne (by omega)).trans c0, (zup_ne (by omega)).trans c1, (zup_ne (by omega)).trans c2, zup_same _ _ _, (zup_ne (by omega)).trans c4, (zup_ne (by omega)).trans c5, (zup_ne (by omega)).trans c6, (zup_ne (by omega)).trans c7, (zup_ne (by omega)).trans c8, (zup_ne (by omega)).trans c9, (zup_ne (by omega)).trans c10, (zup_ne (by omega)).trans c11⟩, r0, fun p hp => by rw [lo _ (by omega) (by omega) (by omega)]; exact r1 p (by omega), fun p hp => ?_, fun p hp => by rw [lo _ (by omega) (by omega) (by omega)]; exact r3 p (by omega), fun p hp => by rw [lo _ (by omega) (by omega) (by omega)]; exact r4 p (by omega), fun p hp => by rw [lo _ (by omega) (by omega) (by omega)]; exact r5 p (by omega), fun p hp => by rw [lo _ (by omega) (by omega) (by omega)]; exact r6 p (by omega), fun p hp => by rw [lo _ (by omega) (by omega) (by omega)]; exact r7 p (by omega), fun p hp => r8 p (by omega), fun p hp => r9 p (by omega)⟩
  by_cases e : p = b
  · subst e; rw [nup_same, lb]
  · rw [nup_ne e]
    by_cases e2 : p = a
    · subst e2; rw [nup_same, la]
    · rw [nup_ne e2, lo _ (by omega) (by omega) (by omega)]; exact r2 p hp
theorem DrC.ma {h : ZH} {s le tr td : Nat} {K R S R2 fc fh fn fk fs fg fw fe fl ft : Nat → Nat} {kd p0 : Nat} (hK : DOK s le tr td) (hB : DrC h s le tr td K R S fc fh fn fk fs fg fw fe fl ft) (w3 : R 3 ≤ 4) (w4 : R 4 ≤ 6) (w5 : R 5 ≤ 3) (w1 : R 1 ≤ 7) (q7 : R 3 < 4) (lo : ∀ j, j < 61 → j ≠ 3 → j ≠ 30 + R 3 → R2 j = R j) (l3 : R2 3 = R 3 + 1) (l9 : R2 (30 + R 3) = kd) : Drf (zup (zup h (td + 4) (zI 4 (nup fk (R 3) kd))) tr (zI 32 (sset ft (R 3) p0 8))) s le tr td K R2 (nfl S (8 * R 3) 8 p0) := by
  obtain ⟨⟨c0, c1, c2, c3, c4, c5, c6, c7, c8, c9, c10, c11⟩, r0, r1, r2, r3, r4, r5, r6, r7, r8, r9⟩ := hB
  unfold DOK at hK
  have l0 := lo 0 (by omega) (by omega) (by omega)
  have l1 := lo 1 (by omega) (by omega) (by omega)
  have l4 := lo 4 (by omega) (by omega) (by omega)
  have l5 := lo 5 (by omega) (by omega) (by omega)
  rw [← l0] at c0
  have k8 : ∀ j, 32 ≤ j → nfl S (8 * R 3) 8 p0 j = S j := fun j hj => if_neg (by omega)
  rw [← k8 38 (by omega), ← k8 39 (by omega)] at c9
  refine ⟨fc, fh, fn, nup fk (R 3) kd, fs, fg, fw, fe, fl, sset ft (R 3) p0 8, ⟨(zup_ne (by omega)).trans ((zup_ne (by omega)).trans c0), (zup_ne (by omega)).trans ((zup_ne (by omega)).trans c1), (zup_ne (by omega)).trans ((zup_ne (by omega)).trans c2), (zup_ne (by omega)).trans ((zup_ne (by omega)).trans c3), (zup_ne (by omega)).trans (zup_same _ _ _), (zup_ne (by omega)).trans ((zup_ne (by omega)).trans c5), (zup_ne (by omega)).trans ((zup_ne (by omega)).trans c6), (zup_ne (by omega)).trans ((zup_ne (by omega)).trans c7), (zup_ne (by omega)).trans ((zup_ne (by omega)).trans c8), (zup_ne (by omega)).trans ((zup_ne (by omega)).trans c9), (zup_ne (by omega)).trans ((zup_ne (by omega)).trans c10), zup_same _ _ _⟩, r0, fun p hp => by rw [lo _ (by omega) (by omega) (by omega)]; exact r1 p (by omega), fun p hp => by rw [lo _ (by omega) (by omega) (by omega)]; exact r2 p hp, fun p hp => ?_, fun p hp => by rw [lo _ (by omega) (by omega) (by omega)]; exact r4 p (by omega), fun p hp => by rw [lo _ (by omega) (by omega) (by omega)]; exact r5 p (by omega), fun p hp => by rw [lo _ (by omega) (by omega) (by omega)]; exact r6 p (by omega), fun p hp => by rw [lo _ (by omega) (by omega) (by omega)]; exact r7 p (by omega), fun p hp => by rw [k8 _ (by omega)]; exact r8 p (by omega), fun j hj => ?_⟩
  · by_cases e : p = R 3
    · subst e; rw [nup_same, l9]
    · rw [nup_ne e, lo _ (by omega) (by omega) (by omega)]; exact r3 p (by omega)
  · unfold sset nfl
    by_cases e : 8 * R 3 ≤ j ∧ j < 8 * R 3 + 8
    · rw [if_pos e, if_pos e]
    · rw [if_neg e, if_neg e]; exact r9 j (by omega)
theorem DrC.ki {h : ZH} {s le tr td : Nat} {K R S R2 fc fh fn fk fs fg fw fe fl ft : Nat → Nat} {v a0 b0 : Nat} (hK : DOK s le tr td) (hB : DrC h s le tr td K R S fc fh fn fk fs fg fw fe fl ft) (w3 : R 3 ≤ 4) (w4 : R 4 ≤ 6) (w5 : R 5 ≤ 3) (w1 : R 1 ≤ 7) (q7 : R 4 < 6) (lo : ∀ j, j < 61 → j ≠ 4 → j < 34 + 4 * R 4 ∨ 34 + 4 * R 4 + 2 < j → R2 j = R j) (l4 : R2 4 = R 4 + 1) (l9 : R2 (34 + 4 * R 4) = v) (l10 : R2 (34 + 4 * R 4 + 1) = a0) (l11 : R2 (34 + 4 * R 4 + 2) = b0) : Drf (zup (zup (zup (zup h (td + 5) (zI 6 (nup fs (R 4) v))) (td + 6) (zI 6 (nup fg (R 4) a0))) (td + 7) (zI 6 (nup fw (R 4) b0))) le (zI 6 (nup fl (R 4) v))) s le tr td K R2 (nup S (32 + R 4) v) := by
  obtain ⟨⟨c0, c1, c2, c3, c4, c5, c6, c7, c8, c9, c10, c11⟩, r0, r1, r2, r3, r4, r5, r6, r7, r8, r9⟩ := hB
  unfold DOK at hK
  have l0 := lo 0 (by omega) (by omega) (by omega)
  have l1 := lo 1 (by omega) (by omega) (by omega)
  have l3 := lo 3 (by omega) (by omega) (by omega)
  have l5 := lo 5 (by omega) (by omega) (by omega)
  rw [← l0] at c0
  have k8 : nup S (32 + R 4) v 38 = S 38 := nup_ne (by omega)
  have k9 : nup S (32 + R 4) v 39 = S 39 := nup_ne (by omega)
  rw [← k8, ← k9] at c9
  refine ⟨fc, fh, fn, fk, nup fs (R 4) v, nup fg (R 4) a0, nup fw (R 4) b0, fe, nup fl (R 4) v, ft, ⟨(zup_ne (by omega)).trans ((zup_ne (by omega)).trans ((zup_ne (by omega)).trans ((zup_ne (by omega)).trans c0))), (zup_ne (by omega)).trans ((zup_ne (by omega)).trans ((zup_ne (by omega)).trans ((zup_ne (by omega)).trans c1))), (zup_ne (by omega)).trans ((zup_ne (by omega)).trans ((zup_ne (by omega)).trans ((zup_ne (by omega)).trans c2))), (zup_ne (by omega)).trans ((zup_ne (by omega)).trans ((zup_ne (by omega)).trans ((zup_ne (by omega)).trans c3))), (zup_ne (by omega)).trans ((zup_ne (by omega)).trans ((zup_ne (by omega)).trans ((zup_ne (by omega)).trans c4))), (zup_ne (by omega)).trans ((zup_ne (by omega)).trans ((zup_ne (by omega)).trans (zup_same _ _ _))), (zup_ne (by omega)).trans ((zup_ne (by omega)).trans (zup_same _ _ _)), (zup_ne (by omega)).trans (zup_same _ _ _), (zup_ne (by omega)).trans ((zup_ne (by omega)).trans ((zup_ne (by omega)).trans ((zup_ne (by omega)).trans c8))), (zup_ne (by omega)).trans ((zup_ne (by omega)).trans ((zup_ne (by omega)).trans ((zup_ne (by omega)).trans c9))), zup_same _ _ _, (zup_ne (by omega)).trans ((zup_ne (by omega)).trans ((zup_ne (by omega)).trans ((zup_ne (by omega)).trans c11)))⟩, r0, fun p hp => by rw [lo _ (by omega) (by omega) (by omega)]; exact r1 p (by omega), fun p hp => by rw [lo _ (by omega) (by omega) (by omega)]; exact r2 p hp, fun p hp => by rw [lo _ (by omega) (by omega) (by omega)]; exact r3 p (by omega), fun p hp => ?_, fun p hp => ?_, fun p hp => ?_, fun p hp => by rw [lo _ (by omega) (by omega) (by omega)]; exact r7 p (by omega), fun p hp => ?_, fun j hj => by rw [nup_ne (by omega)]; exact r9 j (by omega)⟩
  · by_cases e : p = R 4
    · subst e; rw [nup_same, l9]
    · rw [nup_ne e, lo _ (by omega) (by omega) (by omega)]; exact r4 p (by omega)
  · by_cases e : p = R 4
    · subst e; rw [nup_same, l10]
    · rw [nup_ne e, lo _ (by omega) (by omega) (by omega)]; exact r5 p (by omega)
  · by_cases e : p = R 4
    · subst e; rw [nup_same, l11]
    · rw [nup_ne e, lo _ (by omega) (by omega) (by omega)]; exact r6 p (by omega)
  · by_cases e : p = R 4
    · subst e; rw [nup_same, nup_same]
    · rw [nup_ne e, nup_ne (by omega)]; exact r8 p (by omega)
