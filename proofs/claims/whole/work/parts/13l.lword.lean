/-- which line a token begins -/
def sLi (B : Nat → Nat) (t : Nat × Nat × Nat) : Option Nat := sfst (fun i => sspl B t i) 8 0
theorem sLi_some {R B c so nu ix : Nat → Nat} {nc n i : Nat} {t : Nat × Nat × Nat} (hT : NTp R c so nu ix nc) (hN : rNm R) (hk : sTk B n t) (h : sEn c nc B t = some i) (hi : i < 8) : sLi B t = some i ∧ sspl B t i = true := by
  obtain ⟨hw, -⟩ := sEn_lt h
  obtain ⟨S1, S2, S3⟩ := sEn_ok hT hN hk hw
  have hs := (S1 i h).2.1 hi
  refine ⟨?_, hs⟩
  cases z : sLi B t with
  | none =>
    have := sfst_none _ _ z i (Nat.zero_le _) (by omega)
    rw [hs] at this; cases this
  | some j =>
    obtain ⟨-, a, b, -⟩ := sfst_some _ _ _ z
    have := (S3 j (by omega) b).symm.trans h
    cases this; rfl
theorem sLi_none {R B c so nu ix : Nat → Nat} {nc n : Nat} {t : Nat × Nat × Nat} (hT : NTp R c so nu ix nc) (hN : rNm R) (hk : sTk B n t) (h : ∀ i, sEn c nc B t = some i → 8 ≤ i) : sLi B t = none := by
  cases z : sLi B t with
  | none => rfl
  | some j =>
    obtain ⟨-, a, b, -⟩ := sfst_some _ _ _ z
    have hw : t.1 = 1 := (of_decide_eq_true (show sspl B t j = true from b)).1
    have := h j ((sEn_ok hT hN hk hw).2.2 j (by omega) b)
    omega
/-- the outcome of a line's first word -/
def sLw (R B : Nat → Nat) (n : Nat) (t : Nat × Nat × Nat) : TO := match sLi B t with
  | none => .inr (1, t.2.1)
  | some i => if i = 0 then (if R 8 = 0 then .inl (sNx B n t) else .inr (3, t.2.1)) else oBg B R n t i (decide (R i < zSt 0 i))
def sLwV (R B : Nat → Nat) (n : Nat) (t : Nat × Nat × Nat) : Int32 := match sLw R B n t with
  | .inr _ => -1
  | .inl _ => nI ((sLi B t).getD 0)
theorem sLw_0 {R B : Nat → Nat} {n : Nat} {t : Nat × Nat × Nat} (h : sLi B t = some 0) : sLw R B n t = if R 8 = 0 then .inl (sNx B n t) else .inr (3, t.2.1) := by
  unfold sLw
  rw [h]; rfl
theorem sLw_i {R S B : Nat → Nat} {n i : Nat} {t : Nat × Nat × Nat} (hX : RX R S) (h : sLi B t = some i) (h0 : i ≠ 0) (h8 : i < 8) (hs : sspl B t i = true) : sLw R B n t = if R 8 = 0 then .inr (6, t.2.1) else if R i < zSt 0 i then .inl (sNx B n t) else .inr (5, t.2.1) := by
  obtain ⟨-, -, -, -, hZ, -⟩ := hX
  have e : sLw R B n t = oBg B R n t i (decide (R i < zSt 0 i)) := by
    unfold sLw
    rw [h]; exact if_neg h0
  rw [e]
  unfold oBg
  rw [if_pos hs]
  by_cases q : R 8 = 0
  · obtain ⟨z1, z2, z3, z4, z5, z6, z7⟩ := hZ q
    have : R i < zSt 0 i := by
      rcases (show i = 1 ∨ i = 2 ∨ i = 3 ∨ i = 4 ∨ i = 5 ∨ i = 6 ∨ i = 7 by omega) with rfl | rfl | rfl | rfl | rfl | rfl | rfl
      all_goals first | (rw [z1]; decide) | (rw [z2]; decide) | (rw [z3]; decide) | (rw [z4]; decide) | (rw [z5]; decide) | (rw [z6]; decide) | (rw [z7]; decide)
    rw [if_pos q, if_pos q, decide_eq_true this]; rfl
  · rw [if_neg q, if_neg q]
    by_cases q2 : R i < zSt 0 i
    · rw [decide_eq_true q2, if_pos q2]; rfl
    · rw [decide_eq_false q2, if_neg q2]; rfl
theorem sLw_n {R B : Nat → Nat} {n : Nat} {t : Nat × Nat × Nat} (h : sLi B t = none) : sLw R B n t = .inr (1, t.2.1) := by
  unfold sLw
  rw [h]
theorem sLwV_r {R B : Nat → Nat} {n : Nat} {t : Nat × Nat × Nat} {e : Nat × Nat} (h : sLw R B n t = .inr e) : sLwV R B n t = -1 := by
  unfold sLwV
  rw [h]
theorem sLwV_l {R B : Nat → Nat} {n i : Nat} {t z : Nat × Nat × Nat} (h : sLw R B n t = .inl z) (hi : sLi B t = some i) : sLwV R B n t = nI i := by
  unfold sLwV
  rw [h, hi]; rfl
theorem zSt0_le : ∀ i : Fin 8, zSt 0 i.val ≤ 12 := by decide

set_option maxRecDepth 20000 in
set_option maxHeartbeats 1000000 in
theorem tX4_readLineWord {h : ZH} {ff fa : Int32} {s le tr td nc len n0 : Nat} {K B R S c so nu ix : Nat → Nat} {t : Nat × Nat × Nat} (hK : DOK s le tr td) (h1 : h 1001 = some (zO 2 (rdf ff fa nc s))) (hT : TpA h len n0 B t) (hN4 : NT h zer c so nu) (hNT : NTp R c so nu ix nc) (hX : RX R S) (hk : sTk B n0 t) (hD : Drf h s le tr td K R S) (hK0 : K 0 = R 8) (hKc : ∀ i, 1 ≤ i → i < 8 → K i = R i) : ZQ1 mX4_readLineWord 3 [.ref 1001] h (fun w hh => w = .int (sLwV R B n0 t) ∧ cO h hh nc s len n0 B (sLw R B n0 t)) := by
  intro n
  have hNm := hX.2.2.2.2.2.1
  have h2 := hT.2
  have n8 : NT8 c so nu := hNT.2.2.1
  have hKo := hK
  unfold DOK at hKo
  obtain ⟨x1, ⟨x2, x3, x4, x5, x6⟩, x7, x8, x9⟩ := id hX.1
  have hn : nc ≤ 28 := by have := hNT.2.1; omega
  obtain ⟨fc, fh, fn, fk, fs, fg, fw, fe, fl, ft, hB⟩ := id hD
  obtain ⟨⟨c0, c1, c2, c3, c4, c5, c6, c7, c8, c9, c10, c11⟩, r0, r1, r2, r3, r4, r5, r6, r7, r8, r9⟩ := id hB
  refine z_enter (lv := [(0, _)]) (by decide) (Nat.le_of_ble_eq_true rfl) rfl (fun X C => ?_)
  refine z_aload_n (pc := 0) C dX4_readLineWord_0 0 rfl ?_
  refine z_getf (pc := 1) C dX4_readLineWord_1 fX4_37 h1 (by first | rfl | assumption) ?_
  refine z_getf (pc := 4) C dX4_readLineWord_4 fX4_49 c9 (by first | rfl | assumption) ?_
  refine z_getf (pc := 7) C dX4_readLineWord_7 fX4_84 c0 (by first | rfl | assumption) ?_
  refine z_astore_n (pc := 10) (lv' := [(1, _), (0, _)]) C dX4_readLineWord_10 (by decide) rfl ?_
  refine z_aload_n (pc := 11) C dX4_readLineWord_11 1 rfl ?_
  refine z_cV1 (pc := 12) mX4_entryOfWord C [] dX4_readLineWord_12 lX4_99 mtX4_entryOfWord (tX4_entryOfWord h1 hT hN4.1 hn hk (hNT.c63 hNm)) h1 rfl rfl (by decide) (Nat.le_of_ble_eq_true rfl) (Nat.zero_le _) (Nat.zero_le _) ?_
  rcases hE : sEn c nc B t with _ | i
  · skip
    have eN := sLw_n (R := R) (n := n0) (sLi_none hNT hNm hk (fun i z => by rw [hE] at z; cases z))
    refine z_istore_n (pc := 15) (lv' := [(2, _), (1, _), (0, _)]) C dX4_readLineWord_15 (by decide) rfl ?_
    refine z_iload_n (pc := 16) C dX4_readLineWord_16 0 rfl ?_
    first | refine z_ifltO (pc := 17) C 26 dX4_readLineWord_17 (by decide) (by assumption) (fun hc17 => ?_) (fun hc17 => ?_) | refine z_ifltN (pc := 17) C 26 dX4_readLineWord_17 (by decide) (by omega) (fun hc17 => ?_) (fun hc17 => ?_) | refine z_if_lt (pc := 17) C 26 dX4_readLineWord_17 (by decide) (fun hc17 => ?_) (fun hc17 => ?_)
    · skip
      refine z_aload_n (pc := 26) C dX4_readLineWord_26 2 rfl ?_
      refine z_iconst (pc := 27) C dX4_readLineWord_27 (nI 1) (by decide) ?_
      refine z_cV1 (pc := 28) mX4_failed C [_] dX4_readLineWord_28 lX4_102 mtX4_failed (tX4_failed h1 hT) h1 rfl rfl (by decide) (Nat.le_of_ble_eq_true rfl) (Nat.zero_le _) (Nat.zero_le _) ?_
      refine z_iret (pc := 31) C dX4_readLineWord_31 rfl (Nat.zero_le _) (Nat.zero_le _) ⟨_, rfl, ?_, rfl⟩
      rw [sLwV_r (R := R) (eN)]; unfold cO; rw [eN]; exact ⟨rfl, rfl⟩
    · exact absurd (by decide) hc17
  · skip
    refine z_top (show zm (some i) = nI i from rfl) ?_
    have hi0 := sEn_lt hE
    refine z_istore_n (pc := 15) (lv' := [(2, _), (1, _), (0, _)]) C dX4_readLineWord_15 (by decide) rfl ?_
    refine z_iload_n (pc := 16) C dX4_readLineWord_16 0 rfl ?_
    first | refine z_ifltO (pc := 17) C 26 dX4_readLineWord_17 (by decide) (by assumption) (fun hc17 => ?_) (fun hc17 => ?_) | refine z_ifltN (pc := 17) C 26 dX4_readLineWord_17 (by decide) (by omega) (fun hc17 => ?_) (fun hc17 => ?_) | refine z_if_lt (pc := 17) C 26 dX4_readLineWord_17 (by decide) (fun hc17 => ?_) (fun hc17 => ?_)
    · exact hc17.elim
    · skip
      refine z_iload_n (pc := 20) C dX4_readLineWord_20 0 rfl ?_
      refine z_bipush (pc := 21) C dX4_readLineWord_21 (nI 8) (by decide) ?_
      first | refine z_icmpltN (pc := 23) C 32 dX4_readLineWord_23 (by decide) (by omega) (by omega) (fun hc23 => ?_) (fun hc23 => ?_) | refine z_icmp_lt (pc := 23) C 32 dX4_readLineWord_23 (by decide) (fun hc23 => ?_) (fun hc23 => ?_)
      · skip
        obtain ⟨g1, g2⟩ := sLi_some hNT hNm hk hE (by omega)
        have m12 : zSt 0 i ≤ 12 := zSt0_le ⟨i, by omega⟩
        have kb : K i < 2147483648 := by
          by_cases z : i = 0
          · subst z; omega
          · have := hKc i (by omega) (by omega)
            have := x1 i (by omega)
            omega
        have z0 : zSt 0 0 = 1 := rfl
        refine z_iload_n (pc := 32) C dX4_readLineWord_32 0 rfl ?_
        first | refine z_ifeqB (pc := 33) C 49 dX4_readLineWord_33 (by decide) (fun hc33 => ?_) (fun hc33 => ?_) | refine z_ifeqN (pc := 33) C 49 dX4_readLineWord_33 (by decide) (by omega) (fun hc33 => ?_) (fun hc33 => ?_) | refine z_if_eq (pc := 33) C 49 dX4_readLineWord_33 (by decide) (fun hc33 => ?_) (fun hc33 => ?_)
        · skip
          obtain rfl : i = 0 := by omega
          refine z_aload_n (pc := 49) C dX4_readLineWord_49 1 rfl ?_
          refine z_iload_n (pc := 50) C dX4_readLineWord_50 0 rfl ?_
          refine z_ialdE (pc := 51) C dX4_readLineWord_51 c1 (by omega) (by decide) (r0 _ (by omega)) ?_
          refine z_stn (pc := 52) (i := 0) C dX4_readLineWord_52 (by decide) sX4_106 ?_
          refine z_iload_n (pc := 55) C dX4_readLineWord_55 0 rfl ?_
          refine z_stld (pc := 56) (i := 0) C dX4_readLineWord_56 (by decide) (show _ < 8 from by omega) ?_
          first | refine z_icmpltN (pc := 57) C 74 dX4_readLineWord_57 (by decide) (by omega) (by omega) (fun hc57 => ?_) (fun hc57 => ?_) | refine z_icmp_lt (pc := 57) C 74 dX4_readLineWord_57 (by decide) (fun hc57 => ?_) (fun hc57 => ?_)
          · skip
            refine z_aload_n (pc := 74) C dX4_readLineWord_74 2 rfl ?_
            refine z_getf (pc := 75) C dX4_readLineWord_75 fX4_12 h1 (by first | rfl | assumption) ?_
            refine z_cV0Q (pc := 78) mX7_advance C [] dX4_readLineWord_78 lX4_93 mtX7_advance (tX7_adv hT hk) h2 rfl rfl (by decide) (Nat.le_of_ble_eq_true rfl) (Nat.zero_le _) (Nat.zero_le _) ?_
            rintro h3 ⟨hT3, F3⟩
            refine z_iload_n (pc := 81) C dX4_readLineWord_81 0 rfl ?_
            refine z_iret (pc := 82) C dX4_readLineWord_82 rfl (Nat.zero_le _) (Nat.zero_le _) ⟨_, rfl, ?_, rfl⟩
            first | (have eN : sLw R B n0 t = .inl (sNx B n0 t) := (sLw_0 g1).trans (if_pos (by omega)); rw [sLwV_l eN g1]; unfold cO; rw [eN]; exact ⟨rfl, hT3, F3⟩) | (have eN : sLw R B n0 t = .inl (sNx B n0 t) := (sLw_i hX g1 (by omega) (by omega) g2).trans ((if_neg (by omega)).trans (if_pos (by have := hKc i (by omega) (by omega); omega))); rw [sLwV_l eN g1]; unfold cO; rw [eN]; exact ⟨rfl, hT3, F3⟩)
          · skip
            refine z_aload_n (pc := 60) C dX4_readLineWord_60 2 rfl ?_
            refine z_iload_n (pc := 61) C dX4_readLineWord_61 0 rfl ?_
            first | refine z_ifneB (pc := 62) C 69 dX4_readLineWord_62 (by decide) (fun hc62 => ?_) (fun hc62 => ?_) | refine z_ifneN (pc := 62) C 69 dX4_readLineWord_62 (by decide) (by omega) (fun hc62 => ?_) (fun hc62 => ?_) | refine z_if_ne (pc := 62) C 69 dX4_readLineWord_62 (by decide) (fun hc62 => ?_) (fun hc62 => ?_)
            · skip
              refine z_iconst (pc := 69) C dX4_readLineWord_69 (nI 5) (by decide) ?_
              refine z_cV1 (pc := 70) mX4_failed C [_] dX4_readLineWord_70 lX4_102 mtX4_failed (tX4_failed h1 hT) h1 rfl rfl (by decide) (Nat.le_of_ble_eq_true rfl) (Nat.zero_le _) (Nat.zero_le _) ?_
              refine z_iret (pc := 73) C dX4_readLineWord_73 rfl (Nat.zero_le _) (Nat.zero_le _) ⟨_, rfl, ?_, rfl⟩
              first | (exfalso; omega) | (have eN : sLw R B n0 t = .inr (3, t.2.1) := (sLw_0 g1).trans (if_neg (by omega)); rw [sLwV_r (R := R) (eN)]; unfold cO; rw [eN]; exact ⟨rfl, rfl⟩) | (have eN : sLw R B n0 t = .inr (5, t.2.1) := (sLw_i hX g1 (by omega) (by omega) g2).trans ((if_neg (by omega)).trans (if_neg (by have := hKc i (by omega) (by omega); omega))); rw [sLwV_r (R := R) (eN)]; unfold cO; rw [eN]; exact ⟨rfl, rfl⟩)
            · skip
              refine z_iconst (pc := 65) C dX4_readLineWord_65 (nI 3) (by decide) ?_
              refine z_goto (pc := 66) C 70 dX4_readLineWord_66 (by decide) ?_
              refine z_cV1 (pc := 70) mX4_failed C [_] dX4_readLineWord_70 lX4_102 mtX4_failed (tX4_failed h1 hT) h1 rfl rfl (by decide) (Nat.le_of_ble_eq_true rfl) (Nat.zero_le _) (Nat.zero_le _) ?_
              refine z_iret (pc := 73) C dX4_readLineWord_73 rfl (Nat.zero_le _) (Nat.zero_le _) ⟨_, rfl, ?_, rfl⟩
              first | (exfalso; omega) | (have eN : sLw R B n0 t = .inr (3, t.2.1) := (sLw_0 g1).trans (if_neg (by omega)); rw [sLwV_r (R := R) (eN)]; unfold cO; rw [eN]; exact ⟨rfl, rfl⟩) | (have eN : sLw R B n0 t = .inr (5, t.2.1) := (sLw_i hX g1 (by omega) (by omega) g2).trans ((if_neg (by omega)).trans (if_neg (by have := hKc i (by omega) (by omega); omega))); rw [sLwV_r (R := R) (eN)]; unfold cO; rw [eN]; exact ⟨rfl, rfl⟩)
        · skip
          refine z_aload_n (pc := 36) C dX4_readLineWord_36 1 rfl ?_
          refine z_iconst (pc := 37) C dX4_readLineWord_37 (nI 0) (by decide) ?_
          refine z_ialdE (pc := 38) C dX4_readLineWord_38 c1 (by omega) (by decide) (r0 0 (by omega)) ?_
          first | refine z_ifneB (pc := 39) C 49 dX4_readLineWord_39 (by decide) (fun hc39 => ?_) (fun hc39 => ?_) | refine z_ifneN (pc := 39) C 49 dX4_readLineWord_39 (by decide) (by omega) (fun hc39 => ?_) (fun hc39 => ?_) | refine z_if_ne (pc := 39) C 49 dX4_readLineWord_39 (by decide) (fun hc39 => ?_) (fun hc39 => ?_)
          · skip
            refine z_aload_n (pc := 49) C dX4_readLineWord_49 1 rfl ?_
            refine z_iload_n (pc := 50) C dX4_readLineWord_50 0 rfl ?_
            refine z_ialdE (pc := 51) C dX4_readLineWord_51 c1 (by omega) (by decide) (r0 _ (by omega)) ?_
            refine z_stn (pc := 52) (i := 0) C dX4_readLineWord_52 (by decide) sX4_106 ?_
            refine z_iload_n (pc := 55) C dX4_readLineWord_55 0 rfl ?_
            refine z_stld (pc := 56) (i := 0) C dX4_readLineWord_56 (by decide) (show _ < 8 from by omega) ?_
            first | refine z_icmpltN (pc := 57) C 74 dX4_readLineWord_57 (by decide) (by omega) (by omega) (fun hc57 => ?_) (fun hc57 => ?_) | refine z_icmp_lt (pc := 57) C 74 dX4_readLineWord_57 (by decide) (fun hc57 => ?_) (fun hc57 => ?_)
            · skip
              refine z_aload_n (pc := 74) C dX4_readLineWord_74 2 rfl ?_
              refine z_getf (pc := 75) C dX4_readLineWord_75 fX4_12 h1 (by first | rfl | assumption) ?_
              refine z_cV0Q (pc := 78) mX7_advance C [] dX4_readLineWord_78 lX4_93 mtX7_advance (tX7_adv hT hk) h2 rfl rfl (by decide) (Nat.le_of_ble_eq_true rfl) (Nat.zero_le _) (Nat.zero_le _) ?_
              rintro h3 ⟨hT3, F3⟩
              refine z_iload_n (pc := 81) C dX4_readLineWord_81 0 rfl ?_
              refine z_iret (pc := 82) C dX4_readLineWord_82 rfl (Nat.zero_le _) (Nat.zero_le _) ⟨_, rfl, ?_, rfl⟩
              first | (have eN : sLw R B n0 t = .inl (sNx B n0 t) := (sLw_0 g1).trans (if_pos (by omega)); rw [sLwV_l eN g1]; unfold cO; rw [eN]; exact ⟨rfl, hT3, F3⟩) | (have eN : sLw R B n0 t = .inl (sNx B n0 t) := (sLw_i hX g1 (by omega) (by omega) g2).trans ((if_neg (by omega)).trans (if_pos (by have := hKc i (by omega) (by omega); omega))); rw [sLwV_l eN g1]; unfold cO; rw [eN]; exact ⟨rfl, hT3, F3⟩)
            · skip
              refine z_aload_n (pc := 60) C dX4_readLineWord_60 2 rfl ?_
              refine z_iload_n (pc := 61) C dX4_readLineWord_61 0 rfl ?_
              first | refine z_ifneB (pc := 62) C 69 dX4_readLineWord_62 (by decide) (fun hc62 => ?_) (fun hc62 => ?_) | refine z_ifneN (pc := 62) C 69 dX4_readLineWord_62 (by decide) (by omega) (fun hc62 => ?_) (fun hc62 => ?_) | refine z_if_ne (pc := 62) C 69 dX4_readLineWord_62 (by decide) (fun hc62 => ?_) (fun hc62 => ?_)
              · skip
                refine z_iconst (pc := 69) C dX4_readLineWord_69 (nI 5) (by decide) ?_
                refine z_cV1 (pc := 70) mX4_failed C [_] dX4_readLineWord_70 lX4_102 mtX4_failed (tX4_failed h1 hT) h1 rfl rfl (by decide) (Nat.le_of_ble_eq_true rfl) (Nat.zero_le _) (Nat.zero_le _) ?_
                refine z_iret (pc := 73) C dX4_readLineWord_73 rfl (Nat.zero_le _) (Nat.zero_le _) ⟨_, rfl, ?_, rfl⟩
                first | (exfalso; omega) | (have eN : sLw R B n0 t = .inr (3, t.2.1) := (sLw_0 g1).trans (if_neg (by omega)); rw [sLwV_r (R := R) (eN)]; unfold cO; rw [eN]; exact ⟨rfl, rfl⟩) | (have eN : sLw R B n0 t = .inr (5, t.2.1) := (sLw_i hX g1 (by omega) (by omega) g2).trans ((if_neg (by omega)).trans (if_neg (by have := hKc i (by omega) (by omega); omega))); rw [sLwV_r (R := R) (eN)]; unfold cO; rw [eN]; exact ⟨rfl, rfl⟩)
              · skip
                refine z_iconst (pc := 65) C dX4_readLineWord_65 (nI 3) (by decide) ?_
                refine z_goto (pc := 66) C 70 dX4_readLineWord_66 (by decide) ?_
                refine z_cV1 (pc := 70) mX4_failed C [_] dX4_readLineWord_70 lX4_102 mtX4_failed (tX4_failed h1 hT) h1 rfl rfl (by decide) (Nat.le_of_ble_eq_true rfl) (Nat.zero_le _) (Nat.zero_le _) ?_
                refine z_iret (pc := 73) C dX4_readLineWord_73 rfl (Nat.zero_le _) (Nat.zero_le _) ⟨_, rfl, ?_, rfl⟩
                first | (exfalso; omega) | (have eN : sLw R B n0 t = .inr (3, t.2.1) := (sLw_0 g1).trans (if_neg (by omega)); rw [sLwV_r (R := R) (eN)]; unfold cO; rw [eN]; exact ⟨rfl, rfl⟩) | (have eN : sLw R B n0 t = .inr (5, t.2.1) := (sLw_i hX g1 (by omega) (by omega) g2).trans ((if_neg (by omega)).trans (if_neg (by have := hKc i (by omega) (by omega); omega))); rw [sLwV_r (R := R) (eN)]; unfold cO; rw [eN]; exact ⟨rfl, rfl⟩)
          · skip
            have eN : sLw R B n0 t = .inr (6, t.2.1) := by rw [sLw_i hX g1 (by omega) (by omega) g2, if_pos (by omega)]
            refine z_aload_n (pc := 42) C dX4_readLineWord_42 2 rfl ?_
            refine z_bipush (pc := 43) C dX4_readLineWord_43 (nI 6) (by decide) ?_
            refine z_cV1 (pc := 45) mX4_failed C [_] dX4_readLineWord_45 lX4_102 mtX4_failed (tX4_failed h1 hT) h1 rfl rfl (by decide) (Nat.le_of_ble_eq_true rfl) (Nat.zero_le _) (Nat.zero_le _) ?_
            refine z_iret (pc := 48) C dX4_readLineWord_48 rfl (Nat.zero_le _) (Nat.zero_le _) ⟨_, rfl, ?_, rfl⟩
            rw [sLwV_r (R := R) (eN)]; unfold cO; rw [eN]; exact ⟨rfl, rfl⟩
      · skip
        have eN := sLw_n (R := R) (n := n0) (sLi_none hNT hNm hk (fun j z => by rw [hE] at z; cases z; omega))
        refine z_aload_n (pc := 26) C dX4_readLineWord_26 2 rfl ?_
        refine z_iconst (pc := 27) C dX4_readLineWord_27 (nI 1) (by decide) ?_
        refine z_cV1 (pc := 28) mX4_failed C [_] dX4_readLineWord_28 lX4_102 mtX4_failed (tX4_failed h1 hT) h1 rfl rfl (by decide) (Nat.le_of_ble_eq_true rfl) (Nat.zero_le _) (Nat.zero_le _) ?_
        refine z_iret (pc := 31) C dX4_readLineWord_31 rfl (Nat.zero_le _) (Nat.zero_le _) ⟨_, rfl, ?_, rfl⟩
        rw [sLwV_r (R := R) (eN)]; unfold cO; rw [eN]; exact ⟨rfl, rfl⟩
