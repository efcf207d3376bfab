def DrC (h : ZH) (s le tr td : Nat) (K R S fc fh fn fk fs fg fw fe fl ft : Nat → Nat) : Prop := (h td = some (zO 5 [.ref (td + 1), .ref (td + 2), .ref (td + 3), .ref (td + 4), .ref (td + 5), .ref (td + 6), .ref (td + 7), .ref (td + 8), .int (nI (R 0))]) ∧ h (td + 1) = some (zI 8 fc) ∧ h (td + 2) = some (zI 7 fh) ∧ h (td + 3) = some (zI 7 fn) ∧ h (td + 4) = some (zI 4 fk) ∧ h (td + 5) = some (zI 6 fs) ∧ h (td + 6) = some (zI 6 fg) ∧ h (td + 7) = some (zI 6 fw) ∧ h (td + 8) = some (zI 3 fe) ∧ h s = some (zO 3 [.ref td, .ref le, .int (nI (S 38)), .int (nI (S 39)), .ref tr]) ∧ h le = some (zI 6 fl) ∧ h tr = some (zI 32 ft)) ∧ (∀ i, i < 8 → fc i = K i) ∧ (∀ p, p < R 1 → fh p = R (9 + p)) ∧ (∀ p, p < 7 → fn p = R (23 + p)) ∧ (∀ m, m < R 3 → fk m = R (30 + m)) ∧ (∀ k, k < R 4 → fs k = R (34 + 4 * k)) ∧ (∀ k, k < R 4 → fg k = R (34 + 4 * k + 1)) ∧ (∀ k, k < R 4 → fw k = R (34 + 4 * k + 2)) ∧ (∀ q, q < R 5 → fe q = R (58 + q)) ∧ (∀ k, k < R 4 → fl k = S (32 + k)) ∧ ∀ j, j < 8 * R 3 → ft j = S j
theorem xor_or {a k : Nat} (h : a < 2 ^ k) : a ^^^ 1 <<< k = a ||| 1 <<< k := by
  apply Nat.eq_of_testBit_eq
  intro i
  rw [Nat.testBit_xor, Nat.testBit_or, Nat.one_shiftLeft, Nat.testBit_two_pow]
  by_cases e : k = i
  · subst e
    rw [Nat.testBit_lt_two_pow h, decide_eq_true rfl]; rfl
  · rw [decide_eq_false e, Bool.or_false, Bool.xor_false]
theorem DrC.fo {h : ZH} {s le tr td : Nat} {K R S R2 fc fh fn fk fs fg fw fe fl ft : Nat → Nat} {v : Nat} (hK : DOK s le tr td) (hB : DrC h s le tr td K R S fc fh fn fk fs fg fw fe fl ft) (w3 : R 3 ≤ 4) (w4 : R 4 ≤ 6) (w5 : R 5 ≤ 3) (w1 : R 1 ≤ 7) (e0 : R2 0 = v) (lo : ∀ j, j ≠ 0 → j ≠ 8 → R2 j = R j) : Drf (zup h td (zO 5 [.ref (td + 1), .ref (td + 2), .ref (td + 3), .ref (td + 4), .ref (td + 5), .ref (td + 6), .ref (td + 7), .ref (td + 8), .int (nI v)])) s le tr td K R2 S := by
  obtain ⟨⟨c0, c1, c2, c3, c4, c5, c6, c7, c8, c9, c10, c11⟩, r0, r1, r2, r3, r4, r5, r6, r7, r8, r9⟩ := hB
  unfold DOK at hK
  subst e0
  refine ⟨fc, fh, fn, fk, fs, fg, fw, fe, fl, ft, ⟨zup_same _ _ _, (zup_ne (by omega)).trans c1, (zup_ne (by omega)).trans c2, (zup_ne (by omega)).trans c3, (zup_ne (by omega)).trans c4, (zup_ne (by omega)).trans c5, (zup_ne (by omega)).trans c6, (zup_ne (by omega)).trans c7, (zup_ne (by omega)).trans c8, (zup_ne (by omega)).trans c9, (zup_ne (by omega)).trans c10, (zup_ne (by omega)).trans c11⟩, r0, fun p hp => ?_, fun p hp => ?_, fun p hp => ?_, fun p hp => ?_, fun p hp => ?_, fun p hp => ?_, fun p hp => ?_, fun p hp => ?_, fun p hp => ?_⟩
  · rw [lo _ (by omega) (by omega)]; exact r1 p (by rw [lo _ (by omega) (by omega)] at hp; exact hp)
  · rw [lo _ (by omega) (by omega)]; exact r2 p hp
  · rw [lo _ (by omega) (by omega)]; exact r3 p (by rw [lo _ (by omega) (by omega)] at hp; exact hp)
  · rw [lo _ (by omega) (by omega)]; exact r4 p (by rw [lo _ (by omega) (by omega)] at hp; exact hp)
  · rw [lo _ (by omega) (by omega)]; exact r5 p (by rw [lo _ (by omega) (by omega)] at hp; exact hp)
  · rw [lo _ (by omega) (by omega)]; exact r6 p (by rw [lo _ (by omega) (by omega)] at hp; exact hp)
  · rw [lo _ (by omega) (by omega)]; exact r7 p (by rw [lo _ (by omega) (by omega)] at hp; exact hp)
  · exact r8 p (by rw [lo _ (by omega) (by omega)] at hp; exact hp)
  · exact r9 p (by rw [lo _ (by omega) (by omega)] at hp; exact hp)
theorem Drf.la {h : ZH} {s le tr td : Nat} {K R S : Nat → Nat} {x : Nat} (hK : DOK s le tr td) (w3 : R 3 ≤ 4) (w4 : R 4 ≤ 6) (hD : Drf h s le tr td K R S) : Drf (zup h s (zO 3 [.ref td, .ref le, .int (nI x), .int (nI (S 39)), .ref tr])) s le tr td K R (nup S 38 x) := by
  obtain ⟨fc, fh, fn, fk, fs, fg, fw, fe, fl, ft, hB⟩ := hD
  obtain ⟨⟨c0, c1, c2, c3, c4, c5, c6, c7, c8, c9, c10, c11⟩, r0, r1, r2, r3, r4, r5, r6, r7, r8, r9⟩ := hB
  unfold DOK at hK
  refine ⟨fc, fh, fn, fk, fs, fg, fw, fe, fl, ft, ⟨(zup_ne (by omega)).trans c0, (zup_ne (by omega)).trans c1, (zup_ne (by omega)).trans c2, (zup_ne (by omega)).trans c3, (zup_ne (by omega)).trans c4, (zup_ne (by omega)).trans c5, (zup_ne (by omega)).trans c6, (zup_ne (by omega)).trans c7, (zup_ne (by omega)).trans c8, zup_same _ _ _, (zup_ne (by omega)).trans c10, (zup_ne (by omega)).trans c11⟩, r0, r1, r2, r3, r4, r5, r6, r7, fun k hk => ?_, fun j hj => ?_⟩
  · rw [nup_ne (by omega)]; exact r8 k hk
  · rw [nup_ne (by omega)]; exact r9 j hj
theorem DrC.pl {h : ZH} {s le tr td : Nat} {K R S R2 fc fh fn fk fs fg fw fe fl ft : Nat → Nat} {v : Nat} (hK : DOK s le tr td) (hB : DrC h s le tr td K R S fc fh fn fk fs fg fw fe fl ft) (w3 : R 3 ≤ 4) (w4 : R 4 ≤ 6) (w5 : R 5 ≤ 3) (w1 : R 1 ≤ 7) (q7 : R 1 < 7) (lo : ∀ j, j < 61 → j ≠ 1 → j ≠ 9 + R 1 → R2 j = R j) (l1 : R2 1 = R 1 + 1) (l9 : R2 (9 + R 1) = v) : Drf (zup h (td + 2) (zI 7 (nup fh (R 1) v))) s le tr td K R2 S := by
  obtain ⟨⟨c0, c1, c2, c3, c4, c5, c6, c7, c8, c9, c10, c11⟩, r0, r1, r2, r3, r4, r5, r6, r7, r8, r9⟩ := hB
  unfold DOK at hK
  have l0 := lo 0 (by omega) (by omega) (by omega)
  have l3 := lo 3 (by omega) (by omega) (by omega)
  have l4 := lo 4 (by omega) (by omega) (by omega)
  have l5 := lo 5 (by omega) (by omega) (by omega)
  rw [← l0] at c0
  refine ⟨fc, nup fh (R 1) v, fn, fk, fs, fg, fw, fe, fl, ft, ⟨(zup_ne (by omega)).trans c0, (zup_ne (by omega)).trans c1, zup_same _ _ _, (zup_ne (by omega)).trans c3, (zup_ne (by omega)).trans c4, (zup_ne (by omega)).trans c5, (zup_ne (by omega)).trans c6, (zup_ne (by omega)).trans c7, (zup_ne (by omega)).trans c8, (zup_ne (by omega)).trans c9, (zup_ne (by omega)).trans c10, (zup_ne (by omega)).trans c11⟩, r0, fun p hp => ?_, fun p hp => by rw [lo _ (by omega) (by omega) (by omega)]; exact r2 p hp, fun p hp => by rw [lo _ (by omega) (by omega) (by omega)]; exact r3 p (by omega), fun p hp => by rw [lo _ (by omega) (by omega) (by omega)]; exact r4 p (by omega), fun p hp => by rw [lo _ (by omega) (by omega) (by omega)]; exact r5 p (by omega), fun p hp => by rw [lo _ (by omega) (by omega) (by omega)]; exact r6 p (by omega), fun p hp => by rw [lo _ (by omega) (by omega) (by omega)]; exact r7 p (by omega), fun p hp => r8 p (by omega), fun p hp => r9 p (by omega)⟩
  by_cases e : p = R 1
  · subst e; rw [nup_same, l9]
  · rw [nup_ne e, lo _ (by omega) (by omega) (by omega)]; exact r1 p (by omega)
theorem DrC.st {h : ZH} {s le tr td : Nat} {K R S R2 fc fh fn fk fs fg fw fe fl ft : Nat → Nat} {v : Nat} (hK : DOK s le tr td) (hB : DrC h s le tr td K R S fc fh fn fk fs fg fw fe fl ft) (w3 : R 3 ≤ 4) (w4 : R 4 ≤ 6) (w5 : R 5 ≤ 3) (w1 : R 1 ≤ 7) (q7 : R 5 < 3) (lo : ∀ j, j < 61 → j ≠ 5 → j ≠ 58 + R 5 → R2 j = R j) (l5 : R2 5 = R 5 + 1) (l9 : R2 (58 + R 5) = v) : Drf (zup h (td + 8) (zI 3 (nup fe (R 5) v))) s le tr td K R2 S := by
  obtain ⟨⟨c0, c1, c2, c3, c4, c5, c6, c7, c8, c9, c10, c11⟩, r0, r1, r2, r3, r4, r5, r6, r7, r8, r9⟩ := hB
  unfold DOK at hK
  have l0 := lo 0 (by omega) (by omega) (by omega)
  have l3 := lo 3 (by omega) (by omega) (by omega)
  have l4 := lo 4 (by omega) (by omega) (by omega)
  have l1 := lo 1 (by omega) (by omega) (by omega)
  rw [← l0] at c0
  refine ⟨fc, fh, fn, fk, fs, fg, fw, nup fe (R 5) v, fl, ft, ⟨(zup_ne (by omega)).trans c0, (zup_ne (by omega)).trans c1, (zup_ne (by omega)).trans c2, (zup_ne (by omega)).trans c3, (zup_ne (by omega)).trans c4, (zup_ne (by omega)).trans c5, (zup_ne (by omega)).trans c6, (zup_ne (by omega)).trans c7, zup_same _ _ _, (zup_ne (by omega)).trans c9, (zup_ne (by omega)).trans c10, (zup_ne (by omega)).trans c11⟩, r0, fun p hp => by rw [lo _ (by omega) (by omega) (by omega)]; exact r1 p (by omega), fun p hp => by rw [lo _ (by omega) (by omega) (by omega)]; exact r2 p hp, fun p hp => by rw [lo _ (by omega) (by omega) (by omega)]; exact r3 p (by omega), fun p hp => by rw [lo _ (by omega) (by omega) (by omega)]; exact r4 p (by omega), fun p hp => by rw [lo _ (by omega) (by omega) (by omega)]; exact r5 p (by omega), fun p hp => by rw [lo _ (by omega) (by omega) (by omega)]; exact r6 p (by omega), fun p hp => ?_, fun p hp => r8 p (by omega), fun p hp => r9 p (by omega)⟩
  by_cases e : p = R 5
  · subst e; rw [nup_same, l9]
  · rw [nup_ne e, lo _ (by omega) (by omega) (by omega)]; exact r7 p (by omega)
theorem DrC.ta {h : ZH} {s le tr td : Nat} {K R S R2 fc fh fn fk fs fg fw fe fl ft : Nat → Nat} {k m : Nat} (hK : DOK s le tr td) (hB : DrC h s le tr td K R S fc fh fn fk fs fg fw fe fl ft) (w3 : R 3 ≤ 4) (w4 : R 4 ≤ 6) (w5 : R 5 ≤ 3) (w1 : R 1 ≤ 7) (q6 : k < 6) (lo : ∀ j, j ≠ 7 → R2 j = R j) : Drf (zup h le (zI 6 (nup fl k m))) s le tr td K R2 (nup S (32 + k) m) := by
  obtain ⟨⟨c0, c1, c2, c3, c4, c5, c6, c7, c8, c9, c10, c11⟩, r0, r1, r2, r3, r4, r5, r6, r7, r8, r9⟩ := hB
  unfold DOK at hK
  have l0 := lo 0 (by omega)
  have l1 := lo 1 (by omega)
  have l3 := lo 3 (by omega)
  have l4 := lo 4 (by omega)
  have l5 := lo 5 (by omega)
  rw [← l0] at c0
  · have k8 : nup S (32 + k) m 38 = S 38 := nup_ne (by omega)
    have k9 : nup S (32 + k) m 39 = S 39 := nup_ne (by omega)
    rw [← k8, ← k9] at c9
    refine ⟨fc, fh, fn, fk, fs, fg, fw, fe, nup fl k m, ft, ⟨(zup_ne (by omega)).trans c0, (zup_ne (by omega)).trans c1, (zup_ne (by omega)).trans c2, (zup_ne (by omega)).trans c3, (zup_ne (by omega)).trans c4, (zup_ne (by omega)).trans c5, (zup_ne (by omega)).trans c6, (zup_ne (by omega)).trans c7, (zup_ne (by omega)).trans c8, (zup_ne (by omega)).trans c9, zup_same _ _ _, (zup_ne (by omega)).trans c11⟩, r0, fun p hp => by rw [lo _ (by omega)]; exact r1 p (by omega), fun p hp => by rw [lo _ (by omega)]; exact r2 p hp, fun p hp => by rw [lo _ (by omega)]; exact r3 p (by omega), fun p hp => by rw [lo _ (by omega)]; exact r4 p (by omega), fun p hp => by rw [lo _ (by omega)]; exact r5 p (by omega), fun p hp => by rw [lo _ (by omega)]; exact r6 p (by omega), fun p hp => by rw [lo _ (by omega)]; exact r7 p (by omega), fun p hp => ?_, fun j hj => by rw [nup_ne (by omega)]; exact r9 j (by omega)⟩
    by_cases e : p = k
    · subst e; rw [nup_same, nup_same]
    · rw [nup_ne e, nup_ne (by omega)]; exact r8 p (by omega)
theorem DrC.wa {h : ZH} {s le tr td : Nat} {K R S R2 fc fh fn fk fs fg fw fe fl ft : Nat → Nat} {m p : Nat} (hK : DOK s le tr td) (hB : DrC h s le tr td K R S fc fh fn fk fs fg fw fe fl ft) (w3 : R 3 ≤ 4) (w4 : R 4 ≤ 6) (w5 : R 5 ≤ 3) (w1 : R 1 ≤ 7) (hm : m < R 3) (lo : ∀ j, j ≠ 6 → R2 j = R j) : Drf (zup h tr (zI 32 (sgo ft m p))) s le tr td K R2 (sgo S m p) := by
  obtain ⟨⟨c0, c1, c2, c3, c4, c5, c6, c7, c8, c9, c10, c11⟩, r0, r1, r2, r3, r4, r5, r6, r7, r8, r9⟩ := hB
  unfold DOK at hK
  have l0 := lo 0 (by omega)
  have l1 := lo 1 (by omega)
  have l3 := lo 3 (by omega)
  have l4 := lo 4 (by omega)
  have l5 := lo 5 (by omega)
  rw [← l0] at c0
  have k8 : sgo S m p 38 = S 38 := sgo_k (by omega) (by omega)
  have k9 : sgo S m p 39 = S 39 := sgo_k (by omega) (by omega)
  rw [← k8, ← k9] at c9
  refine ⟨fc, fh, fn, fk, fs, fg, fw, fe, fl, sgo ft m p, ⟨(zup_ne (by omega)).trans c0, (zup_ne (by omega)).trans c1, (zup_ne (by omega)).trans c2, (zup_ne (by omega)).trans c3, (zup_ne (by omega)).trans c4, (zup_ne (by omega)).trans c5, (zup_ne (by omega)).trans c6, (zup_ne (by omega)).trans c7, (zup_ne (by omega)).trans c8, (zup_ne (by omega)).trans c9, (zup_ne (by omega)).trans c10, zup_same _ _ _⟩, r0, fun p hp => by rw [lo _ (by omega)]; exact r1 p (by omega), fun p hp => by rw [lo _ (by omega)]; exact r2 p hp, fun p hp => by rw [lo _ (by omega)]; exact r3 p (by omega), fun p hp => by rw [lo _ (by omega)]; exact r4 p (by omega), fun p hp => by rw [lo _ (by omega)]; exact r5 p (by omega), fun p hp => by rw [lo _ (by omega)]; exact r6 p (by omega), fun p hp => by rw [lo _ (by omega)]; exact r7 p (by omega), fun p hp => by rw [sgo_k (by omega) (by omega)]; exact r8 p (by omega), fun j hj => ?_⟩
  rw [l3] at hj
  exact (sgo_congr hm (fun j hj => r9 j hj) j hj)
