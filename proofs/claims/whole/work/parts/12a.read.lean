/-- the told names -/
def rTo (R : Nat → Nat) (x : Nat) : Prop := (x < 7 ∧ x < R 1) ∨ (7 ≤ x ∧ x < 11 ∧ x < 7 + R 3) ∨ (11 ≤ x ∧ x < 17 ∧ x < 11 + R 4) ∨ (17 ≤ x ∧ x < 20 ∧ x < 17 + R 5)
def rNm (R : Nat → Nat) : Prop := (∀ x, x < 20 → (0 < R (61 + x) ↔ rTo R x)) ∧ ∀ x, x < 20 → R (61 + x) ≤ 8 ∧ ∀ j, j < R (61 + x) → 97 ≤ R (81 + 8 * x + j) ∧ R (81 + 8 * x + j) ≤ 122
def RX (R S : Nat → Nat) : Prop := RI R S ∧ wfR R ∧ wfS R S ∧ (R 2 ≤ 10 ∧ R 6 ≤ 12 ∧ R 7 ≤ 6) ∧ (R 8 = 0 → R 1 = 0 ∧ R 2 = 0 ∧ R 3 = 0 ∧ R 4 = 0 ∧ R 5 = 0 ∧ R 6 = 0 ∧ R 7 = 0) ∧ rNm R ∧ S 38 < 2 ^ R 1 ∧ S 39 = 0 ∧ ∀ p, R 1 ≤ p → p < 7 → R (23 + p) = 0
theorem snm_len (R B : Nat → Nat) (t : Nat × Nat × Nat) (x : Nat) : snm R B t x (61 + x) = t.2.2 - t.2.1 := nup_same _ _ _
theorem snm_len' {R B : Nat → Nat} {t : Nat × Nat × Nat} {x y : Nat} (h : y ≠ x) (hy : y < 20) : snm R B t x (61 + y) = R (61 + y) := by
  unfold snm
  rw [nup_ne (by omega), ncpy_out _ _ (by omega)]
theorem snm_let {R B : Nat → Nat} {t : Nat × Nat × Nat} {x j : Nat} (hx : x < 20) (hj : j < t.2.2 - t.2.1) : snm R B t x (81 + 8 * x + j) = B (t.2.1 + j) := by
  unfold snm
  rw [nup_ne (by omega), ncpy_in _ _ hj]
theorem snm_let' {R B : Nat → Nat} {t : Nat × Nat × Nat} {x y j : Nat} (h : y ≠ x) (hx : x < 20) (hl : t.2.2 - t.2.1 ≤ 8) (hj : j < 8) : snm R B t x (81 + 8 * y + j) = R (81 + 8 * y + j) := by
  unfold snm
  rw [nup_ne (by omega), ncpy_out _ _ (by omega)]
theorem rNm_new {R R' B : Nat → Nat} {n : Nat} {t : Nat × Nat × Nat} {x : Nat} (hN : rNm R) (hk : sTk B n t) (hw : t.1 = 1) (hx : x < 20) (ht : ∀ y, y < 20 → (rTo R' y ↔ rTo R y ∨ y = x)) (he : ∀ j, 61 ≤ j → R' j = snm R B t x j) : rNm R' := by
  obtain ⟨-, -, -, -, -, -, t7, -⟩ := hk
  obtain ⟨w1, w2, w3⟩ := t7 hw
  obtain ⟨n1, n2⟩ := hN
  refine ⟨fun y hy => ?_, fun y hy => ?_⟩
  · rw [he _ (by omega), ht y hy]
    by_cases e : y = x
    · subst e
      rw [snm_len]
      exact ⟨fun _ => Or.inr rfl, fun _ => by omega⟩
    · rw [snm_len' e hy, n1 y hy]
      exact ⟨Or.inl, fun z => z.resolve_right e⟩
  · rw [he _ (by omega)]
    by_cases e : y = x
    · subst e
      rw [snm_len]
      refine ⟨w2, fun j hj => ?_⟩
      rw [he _ (by omega), snm_let hx hj]
      exact w3 j hj
    · rw [snm_len' e hy]
      refine ⟨(n2 y hy).1, fun j hj => ?_⟩
      have := (n2 y hy).1
      rw [he _ (by omega), snm_let' e hx w2 (by omega)]
      exact (n2 y hy).2 j hj
theorem rNm_keep {R R' : Nat → Nat} (hN : rNm R) (ht : R' 1 = R 1 ∧ R' 3 = R 3 ∧ R' 4 = R 4 ∧ R' 5 = R 5) (he : ∀ j, 61 ≤ j → R' j = R j) : rNm R' := by
  obtain ⟨n1, n2⟩ := hN
  obtain ⟨e1, e3, e4, e5⟩ := ht
  refine ⟨fun y hy => ?_, fun y hy => ?_⟩
  · rw [he _ (by omega), n1 y hy]
    unfold rTo
    rw [e1, e3, e4, e5]
  · rw [he _ (by omega)]
    refine ⟨(n2 y hy).1, fun j hj => ?_⟩
    rw [he _ (by omega)]
    exact (n2 y hy).2 j hj
theorem wfR_eq {R R' : Nat → Nat} (hR : wfR R) (h : ∀ j, j < 61 → j ≠ 2 → j ≠ 6 → j ≠ 7 → j ≠ 8 → R' j = R j) : wfR R' := by
  obtain ⟨w1, w3, w4, w5, w0, wP, wM, wK, wX⟩ := hR
  refine ⟨?_, ?_, ?_, ?_, ?_, ?_, ?_, ?_, ?_⟩
  · rw [h 1 (by omega) (by omega) (by omega) (by omega) (by omega)]; exact w1
  · rw [h 3 (by omega) (by omega) (by omega) (by omega) (by omega)]; exact w3
  · rw [h 4 (by omega) (by omega) (by omega) (by omega) (by omega)]; exact w4
  · rw [h 5 (by omega) (by omega) (by omega) (by omega) (by omega)]; exact w5
  · rw [h 0 (by omega) (by omega) (by omega) (by omega) (by omega)]; exact w0
  · rw [h 1 (by omega) (by omega) (by omega) (by omega) (by omega)]
    intro p hp
    rw [h (9 + p) (by omega) (by omega) (by omega) (by omega) (by omega), h (23 + p) (by omega) (by omega) (by omega) (by omega) (by omega)]
    exact wP p hp
  · rw [h 3 (by omega) (by omega) (by omega) (by omega) (by omega)]
    intro m hm
    rw [h (30 + m) (by omega) (by omega) (by omega) (by omega) (by omega)]
    exact wM m hm
  · rw [h 4 (by omega) (by omega) (by omega) (by omega) (by omega), h 3 (by omega) (by omega) (by omega) (by omega) (by omega)]
    intro k hk
    rw [h (34 + 4 * k) (by omega) (by omega) (by omega) (by omega) (by omega), h (34 + 4 * k + 1) (by omega) (by omega) (by omega) (by omega) (by omega), h (34 + 4 * k + 2) (by omega) (by omega) (by omega) (by omega) (by omega)]
    exact wK k hk
  · rw [h 5 (by omega) (by omega) (by omega) (by omega) (by omega), h 1 (by omega) (by omega) (by omega) (by omega) (by omega)]
    intro s hs
    rw [h (58 + s) (by omega) (by omega) (by omega) (by omega) (by omega)]
    exact wX s hs
theorem wfS_n {R R' S : Nat → Nat} (hS : wfS R S) (h : R' 1 = R 1 ∧ R' 3 = R 3 ∧ R' 4 = R 4) : wfS R' S := by
  unfold wfS
  rw [h.1, h.2.1, h.2.2]
  exact hS
theorem sNv_to {R B : Nat → Nat} {lo hi : Nat} {o : TO} (hN : rNm R) (h : oF (oB o (sNmd R B lo hi)) = false) : rTo R (lo + sNv R B lo hi o) ∧ sNv R B lo hi o ≤ hi - lo := by
  refine ⟨?_, sNv_le o⟩
  cases o with
  | inr e => cases h
  | inl t =>
    obtain ⟨t', ht'⟩ := oF_f h
    obtain ⟨rfl, -, x, hx, h1, h2⟩ := sNmd_w ht'
    have e : sNv R B lo hi (.inl t') = x - lo := by
      unfold sNv
      rw [ht']
      show (sfnd R B t').getD 0 - lo = _
      rw [hx]; rfl
    rw [e, show lo + (x - lo) = x by omega]
    have h3 := sfnd_lt hx
    have h4 := (sfst_some _ _ _ hx).2.2.1
    exact (hN.1 x h3).mp (of_decide_eq_true h4).1
theorem sAv_le {B : Nat → Nat} {n i u : Nat} (o : TO) : sAv B n i u o ≤ u := by
  unfold sAv
  cases h : sAf B n i u o with
  | inr e => exact Nat.zero_le _
  | inl t =>
    show (match oM B n o i with | .inl t => sVal B t | .inr _ => 0) ≤ u
    unfold sAf at h
    cases h2 : oM B n o i with
    | inr e => exact Nat.zero_le _
    | inl t2 =>
      rw [h2, oB_inl] at h
      show sVal B t2 ≤ u
      unfold sWh at h
      split at h
      · split at h
        · assumption
        · cases h
      · cases h
theorem sNw_w {R B : Nat → Nat} {n : Nat} {t : Nat × Nat × Nat} (h : oF (sNw R B n t) = false) : t.1 = 1 ∧ sIn B t = true ∧ sfnd R B t = none ∧ sNw R B n t = .inl (sNx B n t) := by
  unfold sNw at h ⊢
  split at h
  · rename_i ei
    split at h
    · rename_i en
      have := ei
      unfold sIn at this
      simp at this
      exact ⟨this.1, ei, en, by rw [if_pos ei, if_pos en]⟩
    · cases h
  · cases h
theorem lPl_f {R S B : Nat → Nat} {n : Nat} {o : TO} (h : oF (lPl R S B n o).1 = false) : ∃ t, o = .inl t ∧ oF (sNw R B n t) = false := by
  cases o with
  | inr e => cases h
  | inl t =>
    refine ⟨t, rfl, ?_⟩
    have h1 := sAf_f (show oF (sAf _ _ _ _ _) = false from h)
    cases e : sNw R B n t with
    | inl t' => rfl
    | inr e' => rw [e] at h1; cases h1
theorem lMa_f {R S B : Nat → Nat} {n : Nat} {o : TO} (h : oF (lMa R S B n o).1 = false) : ∃ t, o = .inl t ∧ oF (sNw R B n t) = false ∧ sKd B (sNw R B n t) ≠ none ∧ oF (oB (lMaO B n (sNw R B n t)) (sNmd (snm R B t (7 + R 3)) B 0 6)) = false := by
  cases o with
  | inr e => cases h
  | inl t =>
    have h1 := oP_f (show oF (oP _ _ _) = false from h)
    have h2 := oP_f (oM_f (oB_f h1))
    by_cases e : sKd B (sNw R B n t) = none
    · rw [if_pos e] at h2; exact (oX_f h2).elim
    · rw [if_neg e] at h2
      exact ⟨t, rfl, h2, e, h1⟩
theorem lKi_f {R S B : Nat → Nat} {n : Nat} {o : TO} (h : oF (lKi R S B n o).1 = false) : ∃ t, o = .inl t ∧ oF (sNw R B n t) = false ∧ oF (oB (oM B n (sNw R B n t) 17) (sNmd (snm R B t (11 + R 4)) B 7 10)) = false := by
  cases o with
  | inr e => cases h
  | inl t =>
    have h1 := oP_f (show oF (oP _ _ _) = false from sAf_f (sAf_f h))
    exact ⟨t, rfl, oM_f (oB_f h1), h1⟩
theorem lSt_f {R S B : Nat → Nat} {n : Nat} {o : TO} (h : oF (lSt R S B n o).1 = false) : ∃ t, o = .inl t ∧ oF (sNw R B n t) = false ∧ oF (oB (oM B n (sNw R B n t) 16) (sNmd (snm R B t (17 + R 5)) B 0 6)) = false := by
  cases o with
  | inr e => cases h
  | inl t =>
    have h1 := oP_f (show oF (oP _ _ _) = false from h)
    exact ⟨t, rfl, oM_f (oB_f h1), h1⟩
theorem lPa_f {R S B : Nat → Nat} {n : Nat} {o : TO} (h : oF (lPa R S B n o).1 = false) : oF (oB o (sNmd R B 0 6)) = false ∧ oF (oB (oP B n (oB o (sNmd R B 0 6))) (sNmd R B 0 6)) = false ∧ sNv R B 0 6 o ≠ sNv R B 0 6 (oP B n (oB o (sNmd R B 0 6))) ∧ (R (23 + sNv R B 0 6 o)).testBit (sNv R B 0 6 (oP B n (oB o (sNmd R B 0 6)))) = false := by
  have h1 := oP_f (show oF (oP _ _ _) = false from h)
  have h2 := oB_f h1
  refine ⟨oP_f (oB_f h2), h2, ?_⟩
  obtain ⟨t, ht⟩ := oF_f h2
  unfold lPaO at h1
  rw [ht, oB_inl] at h1
  split at h1
  · cases h1
  · rename_i z
    refine ⟨fun y => z (Or.inl y), ?_⟩
    cases y : (R (23 + sNv R B 0 6 o)).testBit (sNv R B 0 6 (oP B n (oB o (sNmd R B 0 6)))) with
    | false => rfl
    | true => exact absurd (Or.inr y) z
theorem lWa_f {R S B : Nat → Nat} {n : Nat} {o : TO} (h : oF (lWa R S B n o).1 = false) : oF (oB o (sNmd R B 7 10)) = false ∧ oF (oB (oP B n (oB o (sNmd R B 7 10))) (sNmd R B 0 6)) = false ∧ (R (23 + S (8 * sNv R B 7 10 o))).testBit (sNv R B 0 6 (oP B n (oB o (sNmd R B 7 10)))) = true := by
  have h1 := oP_f (show oF (oP _ _ _) = false from h)
  have h2 := oB_f h1
  refine ⟨oP_f (oB_f h2), h2, ?_⟩
  obtain ⟨t, ht⟩ := oF_f h2
  unfold lWaO at h1
  rw [ht, oB_inl] at h1
  split at h1
  · assumption
  · cases h1
theorem lTa_f {R S B : Nat → Nat} {n : Nat} {o : TO} (h : oF (lTa R S B n o).1 = false) : oF (oB o (sNmd R B 11 16)) = false ∧ oF (oB (oP B n (oB o (sNmd R B 11 16))) (sNmd R B 7 10)) = false ∧ S (32 + sNv R B 11 16 o) ≠ sNv R B 7 10 (oP B n (oB o (sNmd R B 11 16))) := by
  have h1 := oP_f (show oF (oP _ _ _) = false from h)
  have h2 := oB_f h1
  refine ⟨oP_f (oB_f h2), h2, ?_⟩
  obtain ⟨t, ht⟩ := oF_f h2
  unfold lTaO at h1
  rw [ht, oB_inl] at h1
  split at h1
  · cases h1
  · assumption
