/-- the rest of a line of sort i, from the token after its word -/
def lRs (R S B : Nat → Nat) (n i : Nat) (t : Nat × Nat × Nat) : TO × (Nat → Nat) × (Nat → Nat) := if i = 0 then lFoC R S B n t else if i = 1 then lPl R S B n (.inl t) else if i = 2 then lPa R S B n (.inl t) else if i = 3 then lMa R S B n (.inl t) else if i = 4 then lKi R S B n (.inl t) else if i = 5 then lSt R S B n (.inl t) else if i = 6 then lWa R S B n (.inl t) else lTa R S B n (.inl t)
theorem cL.w {h hh : ZH} {s le tr td : Nat} {K : Nat → Nat} {ff fa : Int32} {len n : Nat} {B : Nat → Nat} {w : Value} {l : TO × (Nat → Nat) × (Nat → Nat)} (hL : cL h hh s le tr td K ff fa len n B w l) : w = .int (zb (!oF l.1)) := by
  obtain ⟨-, hL⟩ := hL
  cases q : l.1 with
  | inl t => rw [q] at hL; exact hL.1
  | inr e => rw [q] at hL; exact hL.1

set_option maxRecDepth 20000 in
set_option maxHeartbeats 1000000 in
theorem tX4_readRest {h : ZH} {ff fa : Int32} {s le tr td nc len n0 : Nat} {K B R S c so nu ix : Nat → Nat} {t : Nat × Nat × Nat} {i : Nat} (hK : DOK s le tr td) (h1 : h 1001 = some (zO 2 (rdf ff fa nc s))) (hT : TpA h len n0 B t) (hN4 : NT h zer c so nu) (hNT : NTp R c so nu ix nc) (hX : RX R S) (hk : sTk B n0 t) (hD : Drf h s le tr td K R S) (hKc : ∀ i, 1 ≤ i → i < 8 → K i = R i) (hi : i < 8) (hm : i ≠ 0 → R i < zSt 0 i) : ZQ1 mX4_readRest 7 [.ref 1001, .int (nI i)] h (fun w hh => cL h hh s le tr td K ff fa len n0 B w (lRs R S B n0 i t)) := by
  intro n
  have hNm := hX.2.2.2.2.2.1
  have h2 := hT.2
  have n8 : NT8 c so nu := hNT.2.2.1
  have hKo := hK
  unfold DOK at hKo
  obtain ⟨x1, ⟨x2, x3, x4, x5, x6⟩, x7, x8, x9⟩ := id hX.1
  have hn : nc ≤ 28 := by have := hNT.2.1; omega
  obtain ⟨fc, fh, fn, fk, fs, fg, fw, fe, fl, ft, hB⟩ := id hD
  obtain ⟨⟨c0, c1, c2, c3, c4, c5, c6, c7, c8, c9, c10, c11⟩, r0, r1, r2, r3, r4, r5, r6, r7, r8, r9⟩ := id hB
  refine z_enter (lv := [(0, _), (1, _)]) (by decide) (Nat.le_of_ble_eq_true rfl) rfl (fun X C => ?_)
  refine z_aload_n (pc := 0) C dX4_readRest_0 0 rfl ?_
  refine z_getf (pc := 1) C dX4_readRest_1 fX4_37 h1 (by first | rfl | assumption) ?_
  refine z_getf (pc := 4) C dX4_readRest_4 fX4_49 c9 (by first | rfl | assumption) ?_
  refine z_getf (pc := 7) C dX4_readRest_7 fX4_84 c0 (by first | rfl | assumption) ?_
  refine z_iload_n (pc := 10) C dX4_readRest_10 1 rfl ?_
  refine z_ialdE (pc := 11) C dX4_readRest_11 c1 hi (by decide) (r0 _ hi) ?_
  refine z_istore_n (pc := 12) (lv' := [(2, _), (0, _), (1, _)]) C dX4_readRest_12 (by decide) rfl ?_
  refine z_iload_n (pc := 13) C dX4_readRest_13 2 rfl ?_
  rcases (show i = 0 ∨ i = 1 ∨ i = 2 ∨ i = 3 ∨ i = 4 ∨ i = 5 ∨ i = 6 ∨ i = 7 by omega) with rfl | rfl | rfl | rfl | rfl | rfl | rfl | rfl
  · skip
    refine z_tblIn (pc := 14) C 60 dX4_readRest_14 (by decide) (by decide) rfl (by decide) ?_
    refine z_aload_n (pc := 60) C dX4_readRest_60 1 rfl ?_
    refine z_cV1Q (pc := 61) mX4_readForest C [] dX4_readRest_61 lX4_109 mtX4_readForest (tX4_readForest hK h1 hT hN4 hNT hX hk hD) h1 rfl rfl (by decide) (Nat.le_of_ble_eq_true rfl) (Nat.zero_le _) (Nat.zero_le _) ?_
    rintro w1 h3 hL
    obtain rfl := hL.w
    refine z_zret (pc := 64) C dX4_readRest_64 rfl (by first | exact zb_nar _ | rfl) (Nat.zero_le _) (Nat.zero_le _) ⟨_, rfl, ?_, rfl⟩
    exact hL
  · skip
    refine z_tblIn (pc := 14) C 65 dX4_readRest_14 (by decide) (by decide) rfl (by decide) ?_
    refine z_aload_n (pc := 65) C dX4_readRest_65 1 rfl ?_
    refine z_iload_n (pc := 66) C dX4_readRest_66 0 rfl ?_
    refine z_top (show nI (K 1) = nI (R 1) from by rw [hKc 1 (by decide) (by decide)]) ?_
    refine z_cV1Q (pc := 67) mX4_readPlace C [_] dX4_readRest_67 lX4_113 mtX4_readPlace (tX4_readPlace hK h1 hT hN4 hNT hX hk hD (hm (by decide))) h1 rfl rfl (by decide) (Nat.le_of_ble_eq_true rfl) (Nat.zero_le _) (Nat.zero_le _) ?_
    rintro w1 h3 hL
    obtain rfl := hL.w
    refine z_zret (pc := 70) C dX4_readRest_70 rfl (by first | exact zb_nar _ | rfl) (Nat.zero_le _) (Nat.zero_le _) ⟨_, rfl, ?_, rfl⟩
    exact hL
  · skip
    refine z_tblIn (pc := 14) C 71 dX4_readRest_14 (by decide) (by decide) rfl (by decide) ?_
    refine z_aload_n (pc := 71) C dX4_readRest_71 1 rfl ?_
    refine z_cV1Q (pc := 72) mX4_readPath C [] dX4_readRest_72 lX4_116 mtX4_readPath (tX4_readPath hK h1 hT hN4 hNT hX hk hD) h1 rfl rfl (by decide) (Nat.le_of_ble_eq_true rfl) (Nat.zero_le _) (Nat.zero_le _) ?_
    rintro w1 h3 hL
    obtain rfl := hL.w
    refine z_zret (pc := 75) C dX4_readRest_75 rfl (by first | exact zb_nar _ | rfl) (Nat.zero_le _) (Nat.zero_le _) ⟨_, rfl, ?_, rfl⟩
    exact hL
  · skip
    refine z_tblIn (pc := 14) C 76 dX4_readRest_14 (by decide) (by decide) rfl (by decide) ?_
    refine z_aload_n (pc := 76) C dX4_readRest_76 1 rfl ?_
    refine z_iload_n (pc := 77) C dX4_readRest_77 0 rfl ?_
    refine z_top (show nI (K 3) = nI (R 3) from by rw [hKc 3 (by decide) (by decide)]) ?_
    refine z_cV1Q (pc := 78) mX4_readMan C [_] dX4_readRest_78 lX4_119 mtX4_readMan (tX4_readMan hK h1 hT hN4 hNT hX hk hD (hm (by decide))) h1 rfl rfl (by decide) (Nat.le_of_ble_eq_true rfl) (Nat.zero_le _) (Nat.zero_le _) ?_
    rintro w1 h3 hL
    obtain rfl := hL.w
    refine z_zret (pc := 81) C dX4_readRest_81 rfl (by first | exact zb_nar _ | rfl) (Nat.zero_le _) (Nat.zero_le _) ⟨_, rfl, ?_, rfl⟩
    exact hL
  · skip
    refine z_tblIn (pc := 14) C 82 dX4_readRest_14 (by decide) (by decide) rfl (by decide) ?_
    refine z_aload_n (pc := 82) C dX4_readRest_82 1 rfl ?_
    refine z_iload_n (pc := 83) C dX4_readRest_83 0 rfl ?_
    refine z_top (show nI (K 4) = nI (R 4) from by rw [hKc 4 (by decide) (by decide)]) ?_
    refine z_cV1Q (pc := 84) mX4_readKill C [_] dX4_readRest_84 lX4_122 mtX4_readKill (tX4_readKill hK h1 hT hN4 hNT hX hk hD (hm (by decide))) h1 rfl rfl (by decide) (Nat.le_of_ble_eq_true rfl) (Nat.zero_le _) (Nat.zero_le _) ?_
    rintro w1 h3 hL
    obtain rfl := hL.w
    refine z_zret (pc := 87) C dX4_readRest_87 rfl (by first | exact zb_nar _ | rfl) (Nat.zero_le _) (Nat.zero_le _) ⟨_, rfl, ?_, rfl⟩
    exact hL
  · skip
    refine z_tblIn (pc := 14) C 88 dX4_readRest_14 (by decide) (by decide) rfl (by decide) ?_
    refine z_aload_n (pc := 88) C dX4_readRest_88 1 rfl ?_
    refine z_iload_n (pc := 89) C dX4_readRest_89 0 rfl ?_
    refine z_top (show nI (K 5) = nI (R 5) from by rw [hKc 5 (by decide) (by decide)]) ?_
    refine z_cV1Q (pc := 90) mX4_readStray C [_] dX4_readRest_90 lX4_125 mtX4_readStray (tX4_readStray hK h1 hT hN4 hNT hX hk hD (hm (by decide))) h1 rfl rfl (by decide) (Nat.le_of_ble_eq_true rfl) (Nat.zero_le _) (Nat.zero_le _) ?_
    rintro w1 h3 hL
    obtain rfl := hL.w
    refine z_zret (pc := 93) C dX4_readRest_93 rfl (by first | exact zb_nar _ | rfl) (Nat.zero_le _) (Nat.zero_le _) ⟨_, rfl, ?_, rfl⟩
    exact hL
  · skip
    refine z_tblIn (pc := 14) C 94 dX4_readRest_14 (by decide) (by decide) rfl (by decide) ?_
    refine z_aload_n (pc := 94) C dX4_readRest_94 1 rfl ?_
    refine z_cV1Q (pc := 95) mX4_readWalk C [] dX4_readRest_95 lX4_128 mtX4_readWalk (tX4_readWalk hK h1 hT hN4 hNT hX hk hD hKc) h1 rfl rfl (by decide) (Nat.le_of_ble_eq_true rfl) (Nat.zero_le _) (Nat.zero_le _) ?_
    rintro w1 h3 hL
    obtain rfl := hL.w
    refine z_zret (pc := 98) C dX4_readRest_98 rfl (by first | exact zb_nar _ | rfl) (Nat.zero_le _) (Nat.zero_le _) ⟨_, rfl, ?_, rfl⟩
    exact hL
  · skip
    refine z_tblIn (pc := 14) C 99 dX4_readRest_14 (by decide) (by decide) rfl (by decide) ?_
    refine z_aload_n (pc := 99) C dX4_readRest_99 1 rfl ?_
    refine z_cV1Q (pc := 100) mX4_readTaken C [] dX4_readRest_100 lX4_131 mtX4_readTaken (tX4_readTaken hK h1 hT hN4 hNT hX hk hD) h1 rfl rfl (by decide) (Nat.le_of_ble_eq_true rfl) (Nat.zero_le _) (Nat.zero_le _) ?_
    rintro w1 h3 hL
    obtain rfl := hL.w
    refine z_zret (pc := 103) C dX4_readRest_103 rfl (by first | exact zb_nar _ | rfl) (Nat.zero_le _) (Nat.zero_le _) ⟨_, rfl, ?_, rfl⟩
    exact hL
