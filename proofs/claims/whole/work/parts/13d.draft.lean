def drA (s a : Nat) : Prop := (s = 1007 ∧ 1007 ≤ a ∧ a ≤ 1018) ∨ (s = 1048 ∧ 1039 ≤ a ∧ a ≤ 1050)
def DOK (s le tr td : Nat) : Prop := (s = 1007 ∧ le = 1017 ∧ tr = 1018 ∧ td = 1008) ∨ (s = 1048 ∧ le = 1049 ∧ tr = 1050 ∧ td = 1039)
/-- the draft of a reading: counts K, the rest against R and S -/
def Drf (h : ZH) (s le tr td : Nat) (K R S : Nat → Nat) : Prop := ∃ fc fh fn fk fs fg fw fe fl ft : Nat → Nat, (h td = some (zO 5 [.ref (td + 1), .ref (td + 2), .ref (td + 3), .ref (td + 4), .ref (td + 5), .ref (td + 6), .ref (td + 7), .ref (td + 8), .int (nI (R 0))]) ∧ h (td + 1) = some (zI 8 fc) ∧ h (td + 2) = some (zI 7 fh) ∧ h (td + 3) = some (zI 7 fn) ∧ h (td + 4) = some (zI 4 fk) ∧ h (td + 5) = some (zI 6 fs) ∧ h (td + 6) = some (zI 6 fg) ∧ h (td + 7) = some (zI 6 fw) ∧ h (td + 8) = some (zI 3 fe) ∧ h s = some (zO 3 [.ref td, .ref le, .int (nI (S 38)), .int (nI (S 39)), .ref tr]) ∧ h le = some (zI 6 fl) ∧ h tr = some (zI 32 ft)) ∧ (∀ i, i < 8 → fc i = K i) ∧ (∀ p, p < R 1 → fh p = R (9 + p)) ∧ (∀ p, p < 7 → fn p = R (23 + p)) ∧ (∀ m, m < R 3 → fk m = R (30 + m)) ∧ (∀ k, k < R 4 → fs k = R (34 + 4 * k)) ∧ (∀ k, k < R 4 → fg k = R (34 + 4 * k + 1)) ∧ (∀ k, k < R 4 → fw k = R (34 + 4 * k + 2)) ∧ (∀ q, q < R 5 → fe q = R (58 + q)) ∧ (∀ k, k < R 4 → fl k = S (32 + k)) ∧ ∀ j, j < 8 * R 3 → ft j = S j
def DrS (h : ZH) (s le tr td : Nat) : Prop := ∃ (fc fh fn fk fs fg fw fe fl ft : Nat → Nat) (ra la sp : Int32), h td = some (zO 5 [.ref (td + 1), .ref (td + 2), .ref (td + 3), .ref (td + 4), .ref (td + 5), .ref (td + 6), .ref (td + 7), .ref (td + 8), .int ra]) ∧ h (td + 1) = some (zI 8 fc) ∧ h (td + 2) = some (zI 7 fh) ∧ h (td + 3) = some (zI 7 fn) ∧ h (td + 4) = some (zI 4 fk) ∧ h (td + 5) = some (zI 6 fs) ∧ h (td + 6) = some (zI 6 fg) ∧ h (td + 7) = some (zI 6 fw) ∧ h (td + 8) = some (zI 3 fe) ∧ h s = some (zO 3 [.ref td, .ref le, .int la, .int sp, .ref tr]) ∧ h le = some (zI 6 fl) ∧ h tr = some (zI 32 ft)
theorem Drf.s {h : ZH} {s le tr td : Nat} {K R S : Nat → Nat} (hD : Drf h s le tr td K R S) : DrS h s le tr td := by
  obtain ⟨fc, fh, fn, fk, fs, fg, fw, fe, fl, ft, hC, -⟩ := hD
  exact ⟨fc, fh, fn, fk, fs, fg, fw, fe, fl, ft, _, _, _, hC⟩
theorem Drf.on {h hh : ZH} {s le tr td : Nat} {K R S : Nat → Nat} (hK : DOK s le tr td) (hD : Drf h s le tr td K R S) (e : ∀ a, drA s a → hh a = h a) : Drf hh s le tr td K R S := by
  obtain ⟨fc, fh, fn, fk, fs, fg, fw, fe, fl, ft, ⟨c0, c1, c2, c3, c4, c5, c6, c7, c8, c9, c10, c11⟩, hC⟩ := hD
  unfold DOK at hK
  unfold drA at e
  refine ⟨fc, fh, fn, fk, fs, fg, fw, fe, fl, ft, ⟨(e _ (by omega)).trans c0, (e _ (by omega)).trans c1, (e _ (by omega)).trans c2, (e _ (by omega)).trans c3, (e _ (by omega)).trans c4, (e _ (by omega)).trans c5, (e _ (by omega)).trans c6, (e _ (by omega)).trans c7, (e _ (by omega)).trans c8, (e _ (by omega)).trans c9, (e _ (by omega)).trans c10, (e _ (by omega)).trans c11⟩, hC⟩
theorem DrS.on {h hh : ZH} {s le tr td : Nat} (hK : DOK s le tr td) (hD : DrS h s le tr td) (e : ∀ a, drA s a → hh a = h a) : DrS hh s le tr td := by
  obtain ⟨fc, fh, fn, fk, fs, fg, fw, fe, fl, ft, ra, la, sp, ⟨c0, c1, c2, c3, c4, c5, c6, c7, c8, c9, c10, c11⟩⟩ := hD
  unfold DOK at hK
  unfold drA at e
  exact ⟨fc, fh, fn, fk, fs, fg, fw, fe, fl, ft, ra, la, sp, ⟨(e _ (by omega)).trans c0, (e _ (by omega)).trans c1, (e _ (by omega)).trans c2, (e _ (by omega)).trans c3, (e _ (by omega)).trans c4, (e _ (by omega)).trans c5, (e _ (by omega)).trans c6, (e _ (by omega)).trans c7, (e _ (by omega)).trans c8, (e _ (by omega)).trans c9, (e _ (by omega)).trans c10, (e _ (by omega)).trans c11⟩⟩
def NT8 (c so nu : Nat → Nat) : Prop := ∀ i, i < 8 → c i = kCd i ∧ so i = 0 ∧ nu i = 0
def cBad (hh : ZH) (s le tr td len : Nat) (B : Nat → Nat) (e : Nat × Nat) : Prop := (∃ nc, hh 1001 = some (zO 2 (rdf (nI e.1) (nI e.2) nc s))) ∧ (∃ (so sa va en nx : Int32) (co : Int64), hh 1002 = some (zO 4 (tpf len so sa va co en nx))) ∧ hh 1003 = some (zI 900 B) ∧ (∃ c so nu, NT hh zer c so nu ∧ NT8 c so nu) ∧ DrS hh s le tr td
def cG (hh : ZH) (s le tr td : Nat) (K : Nat → Nat) (ff fa : Int32) (len n : Nat) (B R S : Nat → Nat) (t : Nat × Nat × Nat) : Prop := TpA hh len n B t ∧ (∃ nc c so nu ix, hh 1001 = some (zO 2 (rdf ff fa nc s)) ∧ NT hh R c so nu ∧ NTp R c so nu ix nc) ∧ Drf hh s le tr td K R S
def cL (h hh : ZH) (s le tr td : Nat) (K : Nat → Nat) (ff fa : Int32) (len n : Nat) (B : Nat → Nat) (w : Value) (l : TO × (Nat → Nat) × (Nat → Nat)) : Prop := (∀ a, a < 1001 ∨ 1006 < a → ¬ drA s a → hh a = h a) ∧ match l.1 with
  | .inl t => w = .int (zb true) ∧ cG hh s le tr td K ff fa len n B l.2.1 l.2.2 t
  | .inr e => w = .int (zb false) ∧ cBad hh s le tr td len B e
theorem cL.no {h h0 : ZH} {s le tr td : Nat} {K : Nat → Nat} {ff fa : Int32} {len n nc : Nat} {B c so nu : Nat → Nat} {t : Nat × Nat × Nat} {l : TO × (Nat → Nat) × (Nat → Nat)} {e : Nat × Nat} (hK : DOK s le tr td) (hT : TpA h0 len n B t) (hN : NT h0 zer c so nu) (h8 : NT8 c so nu) (hD : DrS h0 s le tr td) (hF : ∀ a, a < 1001 ∨ 1006 < a → ¬ drA s a → h0 a = h a) (hl : l.1 = .inr e) : cL h (zup h0 1001 (zO 2 (rdf (nI e.1) (nI e.2) nc s))) s le tr td K ff fa len n B (.int (zb false)) l := by
  refine ⟨fun a q1 q2 => (zup_ne (by omega)).trans (hF a q1 q2), ?_⟩
  rw [hl]
  exact ⟨rfl, ⟨nc, zup_same _ _ _⟩, ⟨_, _, _, _, _, _, (zup_ne (by decide)).trans hT.2⟩, (zup_ne (by decide)).trans hT.1, ⟨c, so, nu, ⟨(zup_ne (by decide)).trans hN.1, (zup_ne (by decide)).trans hN.2.1, (zup_ne (by decide)).trans hN.2.2⟩, h8⟩, hD.on hK (fun a q => zup_ne (by unfold drA at q; omega))⟩
theorem cL.yes {h hh : ZH} {s le tr td : Nat} {K : Nat → Nat} {ff fa : Int32} {len n nc : Nat} {B c so nu ix : Nat → Nat} {t : Nat × Nat × Nat} {l : TO × (Nat → Nat) × (Nat → Nat)} (hT : TpA hh len n B t) (h1 : hh 1001 = some (zO 2 (rdf ff fa nc s))) (hN : NT hh zer c so nu) (hP : NTp l.2.1 c so nu ix nc) (hD : Drf hh s le tr td K l.2.1 l.2.2) (hF : ∀ a, a < 1001 ∨ 1006 < a → ¬ drA s a → hh a = h a) (hl : l.1 = .inl t) : cL h hh s le tr td K ff fa len n B (.int (zb true)) l := by
  refine ⟨hF, ?_⟩
  rw [hl]
  exact ⟨rfl, hT, ⟨nc, c, so, nu, ix, h1, hN, hP⟩, hD⟩
theorem sWh_l {B : Nat → Nat} {n u : Nat} {t t2 : Nat × Nat × Nat} (h : sWh B n u t = .inl t2) : t2 = sNx B n t ∧ sWv B u t = nI (sVal B t) ∧ sVal B t ≤ u ∧ t.1 = 2 := by
  unfold sWh at h
  unfold sWv
  split at h
  · rename_i a
    split at h
    · rename_i b; cases h; rw [if_pos a, if_pos b]; exact ⟨rfl, rfl, b, a⟩
    · cases h
  · cases h
theorem sWh_r {B : Nat → Nat} {n u : Nat} {t : Nat × Nat × Nat} {e : Nat × Nat} (h : sWh B n u t = .inr e) : sWv B u t = -1 := by
  unfold sWh at h
  unfold sWv
  split at h
  · rename_i a
    split at h
    · cases h
    · rename_i b; rw [if_pos a, if_neg b]
  · rename_i a; rw [if_neg a]
theorem NTp.keep {R R' c so nu ix : Nat → Nat} {nc : Nat} (hT : NTp R c so nu ix nc) (h : R' 1 = R 1 ∧ R' 3 = R 3 ∧ R' 4 = R 4 ∧ R' 5 = R 5) (he : ∀ j, 61 ≤ j → R' j = R j) : NTp R' c so nu ix nc := by
  obtain ⟨c1, c2, c3, c4, c5, c6⟩ := hT
  obtain ⟨e1, e3, e4, e5⟩ := h
  have et : ∀ x, rTo R' x ↔ rTo R x := fun x => by unfold rTo; rw [e1, e3, e4, e5]
  refine ⟨c1, by rw [e1, e3, e4, e5]; exact c2, c3, fun i a b => ?_, fun x a b => c5 x a ((et x).mp b), c6⟩
  obtain ⟨d1, d2, d3, d4⟩ := c4 i a b
  refine ⟨d1, (et _).mpr d2, ?_, d4⟩
  rw [d3]
  unfold nCd
  rw [he _ (by omega)]
  exact scd_congr _ (fun j _ => (he _ (by omega)).symm)
theorem NTp.new {R R' B c so nu ix : Nat → Nat} {nc n x : Nat} {t : Nat × Nat × Nat} (hT : NTp R c so nu ix nc) (hN : rNm R) (hk : sTk B n t) (hw : oF (sNw R B n t) = false) (hx : x < 20) (h5 : R' 1 + R' 3 + R' 4 + R' 5 = R 1 + R 3 + R 4 + R 5 + 1) (ht : ∀ y, y < 20 → (rTo R' y ↔ rTo R y ∨ y = x)) (hu : ¬ rTo R x) (he : ∀ j, 61 ≤ j → R' j = snm R B t x j) : NTp R' (nup c nc (wCd B t)) (nup so nc (nSo x)) (nup nu nc (nNu x)) (nup ix nc x) (nc + 1) := by
  obtain ⟨w1, w2, w3, -⟩ := sNw_w hw
  obtain ⟨E1, E2, E3⟩ := sEn_ok hT hN hk w1
  obtain ⟨c1, c2, c3, c4, c5, c6⟩ := hT
  have hl := (hk.2.2.2.2.2.2.1 w1).2.1
  have fresh : ∀ i, i < nc → c i ≠ wCd B t := fun i hi e => by
    have q : sEn c nc B t = some i := by
      cases z : sEn c nc B t with
      | none =>
        have e0 : sEn c nc B t = sfst (fun i => decide (c i = wCd B t)) nc 0 := if_pos w1
        rw [e0] at z
        exact absurd e (of_decide_eq_false (sfst_none _ _ z i (Nat.zero_le _) (by omega)))
      | some j =>
        have e0 : sEn c nc B t = sfst (fun i => decide (c i = wCd B t)) nc 0 := if_pos w1
        have z2 := z
        rw [e0] at z2
        obtain ⟨-, a, b, -⟩ := sfst_some _ _ _ z2
        rw [c6 i j hi (by omega) (e.trans (of_decide_eq_true b).symm)]
    obtain ⟨a, b, d⟩ := E1 i q
    by_cases q8 : i < 8
    · have := kw_ky.mpr ⟨i, q8, b q8⟩
      unfold sIn at w2
      rw [this] at w2
      simp at w2
    · have := (d (by omega)).2
      rw [w3] at this; cases this
  have cd : ∀ y, y < 20 → y ≠ x → rTo R y → nCd R' y = nCd R y := fun y hy e tl => by
    unfold nCd
    rw [he _ (by omega), snm_len' e hy]
    refine scd_congr _ (fun j hj => ?_)
    have := (hN.2 y hy).1
    show R' (81 + 8 * y + j) = _
    rw [he _ (by omega), snm_let' e hx hl (by omega)]
  have cx : nCd R' x = wCd B t := by
    unfold nCd wCd
    rw [he _ (by omega), snm_len]
    refine scd_congr _ (fun j hj => ?_)
    show R' (81 + 8 * x + j) = _
    rw [he _ (by omega), snm_let hx hj]
  refine ⟨by omega, by omega, fun i hi => ?_, fun i a b => ?_, fun y a b => ?_, fun i j a b e => ?_⟩
  · rw [nup_ne (by omega), nup_ne (by omega), nup_ne (by omega)]; exact c3 i hi
  · by_cases q : i = nc
    · subst q
      rw [nup_same, nup_same, nup_same, nup_same]
      exact ⟨hx, (ht x hx).mpr (Or.inr rfl), cx.symm, rfl, rfl⟩
    · rw [nup_ne q, nup_ne q, nup_ne q, nup_ne q]
      obtain ⟨d1, d2, d3, d4⟩ := c4 i a (by omega)
      exact ⟨d1, (ht _ d1).mpr (Or.inl d2), by rw [cd _ d1 (fun z => hu (z ▸ d2)) d2]; exact d3, d4⟩
  · rcases (ht y a).mp b with b | b
    · obtain ⟨i, i1, i2, i3⟩ := c5 y a b
      exact ⟨i, i1, by omega, by rw [nup_ne (by omega)]; exact i3⟩
    · exact ⟨nc, c1, by omega, by rw [nup_same]; exact b.symm⟩
  · by_cases q : i = nc
    · by_cases q2 : j = nc
      · rw [q, q2]
      · subst q
        rw [nup_same, nup_ne q2] at e
        exact absurd e.symm (fresh j (by omega))
    · by_cases q2 : j = nc
      · subst q2
        rw [nup_same, nup_ne q] at e
        exact absurd e (fresh i (by omega))
      · rw [nup_ne q, nup_ne q2] at e
        exact c6 i j (by omega) (by omega) e
