set_option maxRecDepth 20000 in
set_option maxHeartbeats 1000000 in
theorem tX4_readWalk {h : ZH} {ff fa : Int32} {s le tr td nc len n0 : Nat} {K B R S c so nu ix : Nat → Nat} {t : Nat × Nat × Nat} (hK : DOK s le tr td) (h1 : h 1001 = some (zO 2 (rdf ff fa nc s))) (hT : TpA h len n0 B t) (hN4 : NT h zer c so nu) (hNT : NTp R c so nu ix nc) (hX : RX R S) (hk : sTk B n0 t) (hD : Drf h s le tr td K R S) (hKc : ∀ i, 1 ≤ i → i < 8 → K i = R i) : ZQ1 mX4_readWalk 6 [.ref 1001] h (fun w hh => cL h hh s le tr td K ff fa len n0 B w (lWa R S B n0 (.inl t))) := by
  intro n
  have hNm := hX.2.2.2.2.2.1
  have h2 := hT.2
  have n8 : NT8 c so nu := hNT.2.2.1
  have hKo := hK
  unfold DOK at hKo
  obtain ⟨x1, ⟨x2, x3, x4, x5, x6⟩, x7, x8, x9⟩ := id hX.1
  have hn : nc ≤ 28 := by have := hNT.2.1; omega
  have h10 := h1
  have hN0 := hN4
  have hD0 := hD
  have G0 : ∀ a, a < 1001 ∨ 1006 < a → ¬ drA s a → h a = h a := fun _ _ _ => rfl
  have hT0 := hT
  refine z_enter (lv := [(0, _)]) (by decide) (Nat.le_of_ble_eq_true rfl) rfl (fun X C => ?_)
  refine z_aload_n (pc := 0) C dX4_readWalk_0 0 rfl ?_
  refine z_iconst (pc := 1) C dX4_readWalk_1 (nI 3) (by decide) ?_
  refine z_cV1 (pc := 2) mX4_findName C [_] dX4_readWalk_2 lX4_172 mtX4_findName (tX4_findName (R := R) h10 hT0 hN0 hNT hNm hn hk (Or.inr (Or.inl ⟨rfl, rfl, rfl⟩))) h1 rfl rfl (by decide) (Nat.le_of_ble_eq_true rfl) (Nat.zero_le _) (Nat.zero_le _) ?_
  rcases hE1 : sNmd R B 7 10 t with z1 | e1
  · skip
    obtain ⟨y1, v1, w1⟩ := sFv_l hE1
    obtain rfl : t = z1 := y1.symm
    refine z_top v1 ?_
    refine z_hp (show _ = h from rfl) ?_
    have eb : oP B n0 (oB (.inl t) (sNmd R B 7 10)) = .inl (sNx B n0 t) := by rw [oB_inl, hE1]; rfl
    obtain ⟨a1, a2⟩ := sNv_to (R := R) (B := B) (lo := 7) (hi := 10) (o := .inl t) hNm (by rw [oB_inl, hE1]; rfl)
    have ha : (sNv R B 7 10 (.inl t)) < R 3 := by unfold rTo at a1; omega
    refine z_istore_n (pc := 5) (lv' := [(1, _), (0, _)]) C dX4_readWalk_5 (by decide) rfl ?_
    refine z_iload_n (pc := 6) C dX4_readWalk_6 0 rfl ?_
    first | refine z_ifgeN (pc := 7) C 12 dX4_readWalk_7 (by decide) (by omega) (fun hc7 => ?_) (fun hc7 => ?_) | refine z_if_ge (pc := 7) C 12 dX4_readWalk_7 (by decide) (fun hc7 => ?_) (fun hc7 => ?_)
    · skip
      refine z_aload_n (pc := 12) C dX4_readWalk_12 1 rfl ?_
      refine z_getf (pc := 13) C dX4_readWalk_13 fX4_12 h1 (by first | rfl | assumption) ?_
      refine z_cV0Q (pc := 16) mX7_advance C [] dX4_readWalk_16 lX4_93 mtX7_advance (tX7_adv hT hk) h2 rfl rfl (by decide) (Nat.le_of_ble_eq_true rfl) (Nat.zero_le _) (Nat.zero_le _) ?_
      rintro h2 ⟨hT2, F2⟩
      have k2 := (sNx_ok hk).1
      have h12 : h2 1001 = _ := (F2 1001 (by decide)).trans h10
      have hN2 := hN0.on (hh := h2) (fun a q1 q2 => F2 a (by omega))
      have hD2 := hD0.on hK (hh := h2) (fun a q => F2 a (by unfold drA at q; omega))
      have G2 : ∀ a, a < 1001 ∨ 1006 < a → ¬ drA s a → h2 a = h a := fun a q1 q2 => (F2 a (by omega)).trans (G0 a q1 q2)
      have h22 := hT2.2
      refine z_aload_n (pc := 19) C dX4_readWalk_19 1 rfl ?_
      refine z_iconst (pc := 20) C dX4_readWalk_20 (nI 1) (by decide) ?_
      refine z_cV1 (pc := 21) mX4_findName C [_] dX4_readWalk_21 lX4_172 mtX4_findName (tX4_findName (R := R) h12 hT2 hN2 hNT hNm hn k2 (Or.inl ⟨rfl, rfl, rfl⟩)) h12 rfl rfl (by decide) (Nat.le_of_ble_eq_true rfl) (Nat.zero_le _) (Nat.zero_le _) ?_
      rcases hE2 : sNmd R B 0 6 (sNx B n0 t) with z2 | e2
      · skip
        obtain ⟨y2, v2, w2⟩ := sFv_l hE2
        obtain rfl : (sNx B n0 t) = z2 := y2.symm
        refine z_top v2 ?_
        refine z_hp (show _ = h2 from rfl) ?_
        obtain ⟨b1, b2⟩ := sNv_to (R := R) (B := B) (lo := 0) (hi := 6) (o := .inl (sNx B n0 t)) hNm (by rw [oB_inl, hE2]; rfl)
        have hb : (sNv R B 0 6 (.inl (sNx B n0 t))) < R 1 := by unfold rTo at b1; omega
        obtain ⟨fc, fh, fn, fk, fs, fg, fw, fe, fl, ft, hB⟩ := id hD2
        obtain ⟨⟨c0, c1, c2, c3, c4, c5, c6, c7, c8, c9, c10, c11⟩, r0, r1, r2, r3, r4, r5, r6, r7, r8, r9⟩ := id hB
        have x10 := x8 (sNv R B 7 10 (.inl t)) (by omega)
        have x11 := x7 (S (8 * (sNv R B 7 10 (.inl t)))) (by omega)
        have eL : (lWa R S B n0 (.inl t)).1 = oP B n0 (if (R (23 + S (8 * (sNv R B 7 10 (.inl t))))).testBit (sNv R B 0 6 (.inl (sNx B n0 t))) = true then .inl (sNx B n0 t) else .inr (7, (sNx B n0 t).2.1)) := by show oP B n0 (lWaO R S B n0 (.inl t)) = _; unfold lWaO; rw [eb, oB_inl, hE2]; rfl
        have eL2 : (lWa R S B n0 (.inl t)).2 = (nup R 6 (R 6 + 1), sgo S (sNv R B 7 10 (.inl t)) (sNv R B 0 6 (.inl (sNx B n0 t)))) := by show (_, sgo S (sNv R B 7 10 (.inl t)) (sNv R B 0 6 (oP B n0 (oB (.inl t) (sNmd R B 7 10))))) = _; rw [eb]
        refine z_istore_n (pc := 24) (lv' := [(2, _), (1, _), (0, _)]) C dX4_readWalk_24 (by decide) rfl ?_
        refine z_iload_n (pc := 25) C dX4_readWalk_25 0 rfl ?_
        first | refine z_ifgeN (pc := 26) C 31 dX4_readWalk_26 (by decide) (by omega) (fun hc26 => ?_) (fun hc26 => ?_) | refine z_if_ge (pc := 26) C 31 dX4_readWalk_26 (by decide) (fun hc26 => ?_) (fun hc26 => ?_)
        · skip
          refine z_aload_n (pc := 31) C dX4_readWalk_31 2 rfl ?_
          refine z_getf (pc := 32) C dX4_readWalk_32 fX4_37 h12 (by first | rfl | assumption) ?_
          refine z_getf (pc := 35) C dX4_readWalk_35 fX4_49 c9 (by first | rfl | assumption) ?_
          refine z_getf (pc := 38) C dX4_readWalk_38 fX4_169 c0 (by first | rfl | assumption) ?_
          refine z_aload_n (pc := 41) C dX4_readWalk_41 2 rfl ?_
          refine z_getf (pc := 42) C dX4_readWalk_42 fX4_37 h12 (by first | rfl | assumption) ?_
          refine z_iload_n (pc := 45) C dX4_readWalk_45 1 rfl ?_
          refine z_cV1 (pc := 46) mX5_at C [_] dX4_readWalk_46 lX4_209 mtX5_at (tX5_at (hD2.scn hKc x2) hX.2.1 ha) c9 rfl rfl (by decide) (Nat.le_of_ble_eq_true rfl) (Nat.zero_le _) (Nat.zero_le _) ?_
          refine z_ialdE (pc := 49) C dX4_readWalk_49 c3 (by omega) (by decide) (r2 _ (by omega)) ?_
          refine z_iload_n (pc := 50) C dX4_readWalk_50 0 rfl ?_
          refine z_cSN1 (pc := 51) mX11_has C [_, _] dX4_readWalk_51 lX4_175 mtX11_has (tX11_has (a := R (23 + S (8 * (sNv R B 7 10 (.inl t))))) (k := (sNv R B 0 6 (.inl (sNx B n0 t)))) (by omega) (by omega)) rfl rfl (by decide) (Nat.le_of_ble_eq_true rfl) (Nat.zero_le _) (Nat.zero_le _) ?_
          first | refine z_ifneB (pc := 54) C 64 dX4_readWalk_54 (by decide) (fun hc54 => ?_) (fun hc54 => ?_) | refine z_ifneN (pc := 54) C 64 dX4_readWalk_54 (by decide) (by omega) (fun hc54 => ?_) (fun hc54 => ?_) | refine z_if_ne (pc := 54) C 64 dX4_readWalk_54 (by decide) (fun hc54 => ?_) (fun hc54 => ?_)
          · skip
            have e41 : (R (23 + S (8 * (sNv R B 7 10 (.inl t))))).testBit (sNv R B 0 6 (.inl (sNx B n0 t))) = true := hc54
            refine z_aload_n (pc := 64) C dX4_readWalk_64 2 rfl ?_
            refine z_getf (pc := 65) C dX4_readWalk_65 fX4_12 h12 (by first | rfl | assumption) ?_
            refine z_cV0Q (pc := 68) mX7_advance C [] dX4_readWalk_68 lX4_93 mtX7_advance (tX7_adv hT2 k2) h22 rfl rfl (by decide) (Nat.le_of_ble_eq_true rfl) (Nat.zero_le _) (Nat.zero_le _) ?_
            rintro h3 ⟨hT3, F3⟩
            have k3 := (sNx_ok k2).1
            have h13 : h3 1001 = _ := (F3 1001 (by decide)).trans h12
            have hN3 := hN2.on (hh := h3) (fun a q1 q2 => F3 a (by omega))
            have hD3 := hD2.on hK (hh := h3) (fun a q => F3 a (by unfold drA at q; omega))
            have G3 : ∀ a, a < 1001 ∨ 1006 < a → ¬ drA s a → h3 a = h a := fun a q1 q2 => (F3 a (by omega)).trans (G2 a q1 q2)
            have h23 := hT3.2
            refine z_aload_n (pc := 71) C dX4_readWalk_71 2 rfl ?_
            refine z_getf (pc := 72) C dX4_readWalk_72 fX4_37 h13 (by first | rfl | assumption) ?_
            refine z_iload_n (pc := 75) C dX4_readWalk_75 1 rfl ?_
            refine z_iload_n (pc := 76) C dX4_readWalk_76 0 rfl ?_
            refine z_cV0 (pc := 77) mX5_go C [_, _] dX4_readWalk_77 lX4_211 mtX5_go (tX5_go ((F3 s (by omega)).trans c9) ((F3 tr (by omega)).trans c11) (by omega)) ((F3 s (by omega)).trans c9) rfl rfl (by decide) (Nat.le_of_ble_eq_true rfl) (Nat.zero_le _) (Nat.zero_le _) ?_
            refine z_iconst (pc := 80) C dX4_readWalk_80 (zb true) (by decide) ?_
            refine z_zret (pc := 81) C dX4_readWalk_81 rfl (by first | exact zb_nar _ | rfl) (Nat.zero_le _) (Nat.zero_le _) ⟨_, rfl, ?_, rfl⟩
            exact cL.yes (l := lWa R S B n0 (.inl t)) (hT3.on (fun a q => zup_ne (by omega))) ((zup_ne (by omega)).trans h13) (hN3.on (fun a q1 q2 => zup_ne (by omega))) (hNT.keep ⟨rfl, rfl, rfl, rfl⟩ (fun j hj => nup_ne (by omega))) (by rw [eL2]; exact DrC.wa hK (DrC.on (h := h2) (hh := h3) hB hK (fun a q => F3 a (by unfold drA at q; omega))) x3 x4 x5 x2 ha (fun j q => nup_ne q)) (fun a q1 q2 => (zup_ne (by unfold drA at q2; omega)).trans (G3 a q1 q2)) (by rw [eL, if_pos e41]; rfl)
          · skip
            have e41 : ¬ (R (23 + S (8 * (sNv R B 7 10 (.inl t))))).testBit (sNv R B 0 6 (.inl (sNx B n0 t))) = true := by rw [show _ = false from hc54]; decide
            refine z_aload_n (pc := 57) C dX4_readWalk_57 2 rfl ?_
            refine z_bipush (pc := 58) C dX4_readWalk_58 (nI 7) (by decide) ?_
            refine z_cV1 (pc := 60) mX4_fail C [_] dX4_readWalk_60 lX4_90 mtX4_fail (tX4_fail h12 hT2) h12 rfl rfl (by decide) (Nat.le_of_ble_eq_true rfl) (Nat.zero_le _) (Nat.zero_le _) ?_
            refine z_zret (pc := 63) C dX4_readWalk_63 rfl (by first | exact zb_nar _ | rfl) (Nat.zero_le _) (Nat.zero_le _) ⟨_, rfl, ?_, rfl⟩
            exact cL.no (l := lWa R S B n0 (.inl t)) (e := (7, (sNx B n0 t).2.1)) hK hT2 hN2 n8 hD2.s G2 (by rw [eL, if_neg e41]; rfl)
        · exact hc26.elim
      · skip
        refine z_top (sFv_r hE2) ?_
        refine z_hp (show _ = zup h2 1001 (zO 2 (rdf (nI e2.1) (nI e2.2) nc s)) from rfl) ?_
        have eF : (lWa R S B n0 (.inl t)).1 = .inr e2 := by show oP B n0 (lWaO R S B n0 (.inl t)) = _; unfold lWaO; rw [eb, oB_inl, hE2]; rfl
        refine z_istore_n (pc := 24) (lv' := [(2, _), (1, _), (0, _)]) C dX4_readWalk_24 (by decide) rfl ?_
        refine z_iload_n (pc := 25) C dX4_readWalk_25 0 rfl ?_
        first | refine z_ifgeN (pc := 26) C 31 dX4_readWalk_26 (by decide) (by omega) (fun hc26 => ?_) (fun hc26 => ?_) | refine z_if_ge (pc := 26) C 31 dX4_readWalk_26 (by decide) (fun hc26 => ?_) (fun hc26 => ?_)
        · exact absurd hc26 (by decide)
        · skip
          refine z_iconst (pc := 29) C dX4_readWalk_29 (zb false) (by decide) ?_
          refine z_zret (pc := 30) C dX4_readWalk_30 rfl (by first | exact zb_nar _ | rfl) (Nat.zero_le _) (Nat.zero_le _) ⟨_, rfl, ?_, rfl⟩
          exact cL.no   hK hT2 hN2 n8 hD2.s G2 (eF)
    · exact hc7.elim
  · skip
    refine z_top (sFv_r hE1) ?_
    refine z_hp (show _ = zup h 1001 (zO 2 (rdf (nI e1.1) (nI e1.2) nc s)) from rfl) ?_
    have eF : (lWa R S B n0 (.inl t)).1 = .inr e1 := by show oP B n0 (lWaO R S B n0 (.inl t)) = _; unfold lWaO; rw [oB_inl, hE1]; rfl
    refine z_istore_n (pc := 5) (lv' := [(1, _), (0, _)]) C dX4_readWalk_5 (by decide) rfl ?_
    refine z_iload_n (pc := 6) C dX4_readWalk_6 0 rfl ?_
    first | refine z_ifgeN (pc := 7) C 12 dX4_readWalk_7 (by decide) (by omega) (fun hc7 => ?_) (fun hc7 => ?_) | refine z_if_ge (pc := 7) C 12 dX4_readWalk_7 (by decide) (fun hc7 => ?_) (fun hc7 => ?_)
    · exact absurd hc7 (by decide)
    · skip
      refine z_iconst (pc := 10) C dX4_readWalk_10 (zb false) (by decide) ?_
      refine z_zret (pc := 11) C dX4_readWalk_11 rfl (by first | exact zb_nar _ | rfl) (Nat.zero_le _) (Nat.zero_le _) ⟨_, rfl, ?_, rfl⟩
      exact cL.no hK hT0 hN0 n8 hD0.s G0 (eF)

set_option maxRecDepth 20000 in
set_option maxHeartbeats 1000000 in
theorem tX4_readPath {h : ZH} {ff fa : Int32} {s le tr td nc len n0 : Nat} {K B R S c so nu ix : Nat → Nat} {t : Nat × Nat × Nat} (hK : DOK s le tr td) (h1 : h 1001 = some (zO 2 (rdf ff fa nc s))) (hT : TpA h len n0 B t) (hN4 : NT h zer c so nu) (hNT : NTp R c so nu ix nc) (hX : RX R S) (hk : sTk B n0 t) (hD : Drf h s le tr td K R S) : ZQ1 mX4_readPath 6 [.ref 1001] h (fun w hh => cL h hh s le tr td K ff fa len n0 B w (lPa R S B n0 (.inl t))) := by
  intro n
  have hNm := hX.2.2.2.2.2.1
  have h2 := hT.2
  have n8 : NT8 c so nu := hNT.2.2.1
  have hKo := hK
  unfold DOK at hKo
  obtain ⟨x1, ⟨x2, x3, x4, x5, x6⟩, x7, x8, x9⟩ := id hX.1
  have hn : nc ≤ 28 := by have := hNT.2.1; omega
  have h10 := h1
  have hN0 := hN4
  have hD0 := hD
  have G0 : ∀ a, a < 1001 ∨ 1006 < a → ¬ drA s a → h a = h a := fun _ _ _ => rfl
  have hT0 := hT
  obtain ⟨gc, gh, gn, gk, gs, gg, gw, ge, gl, gt, ⟨p0, p1, p2, p3, p4, p5, p6, p7, p8, p9, -⟩, -⟩ := id hD
  refine z_enter (lv := [(0, _)]) (by decide) (Nat.le_of_ble_eq_true rfl) rfl (fun X C => ?_)
  refine z_aload_n (pc := 0) C dX4_readPath_0 0 rfl ?_
  refine z_getf (pc := 1) C dX4_readPath_1 fX4_37 h1 (by first | rfl | assumption) ?_
  refine z_getf (pc := 4) C dX4_readPath_4 fX4_49 p9 (by first | rfl | assumption) ?_
  refine z_getf (pc := 7) C dX4_readPath_7 fX4_169 p0 (by first | rfl | assumption) ?_
  refine z_astore_n (pc := 10) (lv' := [(1, _), (0, _)]) C dX4_readPath_10 (by decide) rfl ?_
  refine z_aload_n (pc := 11) C dX4_readPath_11 1 rfl ?_
  refine z_iconst (pc := 12) C dX4_readPath_12 (nI 1) (by decide) ?_
  refine z_cV1 (pc := 13) mX4_findName C [_] dX4_readPath_13 lX4_172 mtX4_findName (tX4_findName (R := R) h10 hT0 hN0 hNT hNm hn hk (Or.inl ⟨rfl, rfl, rfl⟩)) h1 rfl rfl (by decide) (Nat.le_of_ble_eq_true rfl) (Nat.zero_le _) (Nat.zero_le _) ?_
  rcases hE1 : sNmd R B 0 6 t with z1 | e1
  · skip
    obtain ⟨y1, v1, w1⟩ := sFv_l hE1
    obtain rfl : t = z1 := y1.symm
    refine z_top v1 ?_
    refine z_hp (show _ = h from rfl) ?_
    have eb : oP B n0 (oB (.inl t) (sNmd R B 0 6)) = .inl (sNx B n0 t) := by rw [oB_inl, hE1]; rfl
    obtain ⟨a1, a2⟩ := sNv_to (R := R) (B := B) (lo := 0) (hi := 6) (o := .inl t) hNm (by rw [oB_inl, hE1]; rfl)
    have ha : (sNv R B 0 6 (.inl t)) < R 1 := by unfold rTo at a1; omega
    refine z_istore_n (pc := 16) (lv' := [(2, _), (1, _), (0, _)]) C dX4_readPath_16 (by decide) rfl ?_
    refine z_iload_n (pc := 17) C dX4_readPath_17 0 rfl ?_
    first | refine z_ifgeN (pc := 18) C 23 dX4_readPath_18 (by decide) (by omega) (fun hc18 => ?_) (fun hc18 => ?_) | refine z_if_ge (pc := 18) C 23 dX4_readPath_18 (by decide) (fun hc18 => ?_) (fun hc18 => ?_)
    · skip
      refine z_aload_n (pc := 23) C dX4_readPath_23 2 rfl ?_
      refine z_getf (pc := 24) C dX4_readPath_24 fX4_12 h1 (by first | rfl | assumption) ?_
      refine z_cV0Q (pc := 27) mX7_advance C [] dX4_readPath_27 lX4_93 mtX7_advance (tX7_adv hT hk) h2 rfl rfl (by decide) (Nat.le_of_ble_eq_true rfl) (Nat.zero_le _) (Nat.zero_le _) ?_
      rintro h2 ⟨hT2, F2⟩
      have k2 := (sNx_ok hk).1
      have h12 : h2 1001 = _ := (F2 1001 (by decide)).trans h10
      have hN2 := hN0.on (hh := h2) (fun a q1 q2 => F2 a (by omega))
      have hD2 := hD0.on hK (hh := h2) (fun a q => F2 a (by unfold drA at q; omega))
      have G2 : ∀ a, a < 1001 ∨ 1006 < a → ¬ drA s a → h2 a = h a := fun a q1 q2 => (F2 a (by omega)).trans (G0 a q1 q2)
      have h22 := hT2.2
      refine z_aload_n (pc := 30) C dX4_readPath_30 2 rfl ?_
      refine z_iconst (pc := 31) C dX4_readPath_31 (nI 1) (by decide) ?_
      refine z_cV1 (pc := 32) mX4_findName C [_] dX4_readPath_32 lX4_172 mtX4_findName (tX4_findName (R := R) h12 hT2 hN2 hNT hNm hn k2 (Or.inl ⟨rfl, rfl, rfl⟩)) h12 rfl rfl (by decide) (Nat.le_of_ble_eq_true rfl) (Nat.zero_le _) (Nat.zero_le _) ?_
      rcases hE2 : sNmd R B 0 6 (sNx B n0 t) with z2 | e2
      · skip
        obtain ⟨y2, v2, w2⟩ := sFv_l hE2
        obtain rfl : (sNx B n0 t) = z2 := y2.symm
        refine z_top v2 ?_
        refine z_hp (show _ = h2 from rfl) ?_
        obtain ⟨b1, b2⟩ := sNv_to (R := R) (B := B) (lo := 0) (hi := 6) (o := .inl (sNx B n0 t)) hNm (by rw [oB_inl, hE2]; rfl)
        have hb : (sNv R B 0 6 (.inl (sNx B n0 t))) < R 1 := by unfold rTo at b1; omega
        obtain ⟨fc, fh, fn, fk, fs, fg, fw, fe, fl, ft, hB⟩ := id hD2
        obtain ⟨⟨c0, c1, c2, c3, c4, c5, c6, c7, c8, c9, c10, c11⟩, r0, r1, r2, r3, r4, r5, r6, r7, r8, r9⟩ := id hB
        have x11 := x7 (sNv R B 0 6 (.inl t)) (by omega)
        have eL : (lPa R S B n0 (.inl t)).1 = oP B n0 (if ((sNv R B 0 6 (.inl t)) = (sNv R B 0 6 (.inl (sNx B n0 t))) ∨ (R (23 + (sNv R B 0 6 (.inl t)))).testBit (sNv R B 0 6 (.inl (sNx B n0 t))) = true) then .inr (3, (sNx B n0 t).2.1) else .inl (sNx B n0 t)) := by show oP B n0 (lPaO R B n0 (.inl t)) = _; unfold lPaO; rw [eb, oB_inl, hE2]; rfl
        have eL2 : (lPa R S B n0 (.inl t)).2 = (lPaR R (sNv R B 0 6 (.inl t)) (sNv R B 0 6 (.inl (sNx B n0 t))), S) := by show (lPaR R (sNv R B 0 6 (.inl t)) (sNv R B 0 6 (oP B n0 (oB (.inl t) (sNmd R B 0 6)))), S) = _; rw [eb]
        refine z_istore_n (pc := 35) (lv' := [(3, _), (2, _), (1, _), (0, _)]) C dX4_readPath_35 (by decide) rfl ?_
        refine z_iload_n (pc := 36) C dX4_readPath_36 0 rfl ?_
        first | refine z_ifgeN (pc := 37) C 42 dX4_readPath_37 (by decide) (by omega) (fun hc37 => ?_) (fun hc37 => ?_) | refine z_if_ge (pc := 37) C 42 dX4_readPath_37 (by decide) (fun hc37 => ?_) (fun hc37 => ?_)
        · skip
          refine z_iload_n (pc := 42) C dX4_readPath_42 0 rfl ?_
          refine z_iload_n (pc := 43) C dX4_readPath_43 1 rfl ?_
          first | refine z_icmpeqN (pc := 44) C 57 dX4_readPath_44 (by decide) (by omega) (by omega) (fun hc44 => ?_) (fun hc44 => ?_) | refine z_icmp_eq (pc := 44) C 57 dX4_readPath_44 (by decide) (fun hc44 => ?_) (fun hc44 => ?_)
          · skip
            have e41 : ((sNv R B 0 6 (.inl t)) = (sNv R B 0 6 (.inl (sNx B n0 t))) ∨ (R (23 + (sNv R B 0 6 (.inl t)))).testBit (sNv R B 0 6 (.inl (sNx B n0 t))) = true) := Or.inl hc44.symm
            refine z_aload_n (pc := 57) C dX4_readPath_57 3 rfl ?_
            refine z_iconst (pc := 58) C dX4_readPath_58 (nI 3) (by decide) ?_
            refine z_cV1 (pc := 59) mX4_fail C [_] dX4_readPath_59 lX4_90 mtX4_fail (tX4_fail h12 hT2) h12 rfl rfl (by decide) (Nat.le_of_ble_eq_true rfl) (Nat.zero_le _) (Nat.zero_le _) ?_
            refine z_zret (pc := 62) C dX4_readPath_62 rfl (by first | exact zb_nar _ | rfl) (Nat.zero_le _) (Nat.zero_le _) ⟨_, rfl, ?_, rfl⟩
            exact cL.no (l := lPa R S B n0 (.inl t)) (e := (3, (sNx B n0 t).2.1)) hK hT2 hN2 n8 hD2.s G2 (by rw [eL, if_pos e41]; rfl)
          · skip
            refine z_aload_n (pc := 47) C dX4_readPath_47 2 rfl ?_
            refine z_iload_n (pc := 48) C dX4_readPath_48 1 rfl ?_
            refine z_ialdE (pc := 49) C dX4_readPath_49 c3 (by omega) (by decide) (r2 _ (by omega)) ?_
            refine z_iload_n (pc := 50) C dX4_readPath_50 0 rfl ?_
            refine z_cSN1 (pc := 51) mX11_has C [_, _] dX4_readPath_51 lX4_175 mtX11_has (tX11_has (a := R (23 + (sNv R B 0 6 (.inl t)))) (k := (sNv R B 0 6 (.inl (sNx B n0 t)))) (by omega) (by omega)) rfl rfl (by decide) (Nat.le_of_ble_eq_true rfl) (Nat.zero_le _) (Nat.zero_le _) ?_
            first | refine z_ifeqB (pc := 54) C 63 dX4_readPath_54 (by decide) (fun hc54 => ?_) (fun hc54 => ?_) | refine z_ifeqN (pc := 54) C 63 dX4_readPath_54 (by decide) (by omega) (fun hc54 => ?_) (fun hc54 => ?_) | refine z_if_eq (pc := 54) C 63 dX4_readPath_54 (by decide) (fun hc54 => ?_) (fun hc54 => ?_)
            · skip
              have e41 : ¬ ((sNv R B 0 6 (.inl t)) = (sNv R B 0 6 (.inl (sNx B n0 t))) ∨ (R (23 + (sNv R B 0 6 (.inl t)))).testBit (sNv R B 0 6 (.inl (sNx B n0 t))) = true) := by rintro (z | z); (exact hc44 z.symm); cases (show _ = false from hc54).symm.trans z
              refine z_aload_n (pc := 63) C dX4_readPath_63 3 rfl ?_
              refine z_getf (pc := 64) C dX4_readPath_64 fX4_12 h12 (by first | rfl | assumption) ?_
              refine z_cV0Q (pc := 67) mX7_advance C [] dX4_readPath_67 lX4_93 mtX7_advance (tX7_adv hT2 k2) h22 rfl rfl (by decide) (Nat.le_of_ble_eq_true rfl) (Nat.zero_le _) (Nat.zero_le _) ?_
              rintro h3 ⟨hT3, F3⟩
              have k3 := (sNx_ok k2).1
              have h13 : h3 1001 = _ := (F3 1001 (by decide)).trans h12
              have hN3 := hN2.on (hh := h3) (fun a q1 q2 => F3 a (by omega))
              have hD3 := hD2.on hK (hh := h3) (fun a q => F3 a (by unfold drA at q; omega))
              have G3 : ∀ a, a < 1001 ∨ 1006 < a → ¬ drA s a → h3 a = h a := fun a q1 q2 => (F3 a (by omega)).trans (G2 a q1 q2)
              have h23 := hT3.2
              refine z_aload_n (pc := 70) C dX4_readPath_70 2 rfl ?_
              refine z_iload_n (pc := 71) C dX4_readPath_71 1 rfl ?_
              refine z_dup2 (pc := 72) C dX4_readPath_72 rfl rfl ?_
              refine z_ialdE (pc := 73) C dX4_readPath_73 ((F3 (td + 3) (by omega)).trans c3) (by omega) (by decide) (r2 _ (by omega)) ?_
              refine z_iconst (pc := 74) C dX4_readPath_74 (nI 1) (by decide) ?_
              refine z_iload_n (pc := 75) C dX4_readPath_75 0 rfl ?_
              first | refine z_ishlN (pc := 76) C dX4_readPath_76 (by omega) ?_ | refine z_ishl (pc := 76) C dX4_readPath_76 ?_
              first | refine z_iorN (pc := 77) C dX4_readPath_77 ?_ | refine z_ior (pc := 77) C dX4_readPath_77 ?_
              first | refine z_iastN (pc := 78) C dX4_readPath_78 ((F3 (td + 3) (by omega)).trans c3) (by omega) (by decide) ?_ | refine z_iastI (pc := 78) C dX4_readPath_78 ((F3 (td + 3) (by omega)).trans c3) (by omega) (by decide) ?_
              refine z_aload_n (pc := 79) C dX4_readPath_79 2 rfl ?_
              refine z_iload_n (pc := 80) C dX4_readPath_80 0 rfl ?_
              refine z_dup2 (pc := 81) C dX4_readPath_81 rfl rfl ?_
              refine z_ialdE (pc := 82) C dX4_readPath_82 (zup_same _ _ _) (by omega) (by decide) (show nup fn (sNv R B 0 6 (.inl t)) (R (23 + (sNv R B 0 6 (.inl t))) ||| 1 <<< (sNv R B 0 6 (.inl (sNx B n0 t)))) (sNv R B 0 6 (.inl (sNx B n0 t))) = R (23 + (sNv R B 0 6 (.inl (sNx B n0 t)))) from (nup_ne (fun z => e41 (Or.inl z.symm))).trans (r2 _ (by omega))) ?_
              refine z_iconst (pc := 83) C dX4_readPath_83 (nI 1) (by decide) ?_
              refine z_iload_n (pc := 84) C dX4_readPath_84 1 rfl ?_
              first | refine z_ishlN (pc := 85) C dX4_readPath_85 (by omega) ?_ | refine z_ishl (pc := 85) C dX4_readPath_85 ?_
              first | refine z_iorN (pc := 86) C dX4_readPath_86 ?_ | refine z_ior (pc := 86) C dX4_readPath_86 ?_
              first | refine z_iastN (pc := 87) C dX4_readPath_87 (zup_same _ _ _) (by omega) (by decide) ?_ | refine z_iastI (pc := 87) C dX4_readPath_87 (zup_same _ _ _) (by omega) (by decide) ?_
              rw [zup_zup]
              refine z_iconst (pc := 88) C dX4_readPath_88 (zb true) (by decide) ?_
              refine z_zret (pc := 89) C dX4_readPath_89 rfl (by first | exact zb_nar _ | rfl) (Nat.zero_le _) (Nat.zero_le _) ⟨_, rfl, ?_, rfl⟩
              have hne : (sNv R B 0 6 (.inl t)) ≠ (sNv R B 0 6 (.inl (sNx B n0 t))) := fun z => e41 (Or.inl z); have lo : ∀ j, j ≠ 2 → j ≠ 23 + (sNv R B 0 6 (.inl t)) → j ≠ 23 + (sNv R B 0 6 (.inl (sNx B n0 t))) → lPaR R (sNv R B 0 6 (.inl t)) (sNv R B 0 6 (.inl (sNx B n0 t))) j = R j := (fun j q1 q2 q3 => by unfold lPaR; rw [nup_ne q1, nup_ne q3, nup_ne q2]); exact cL.yes (l := lPa R S B n0 (.inl t)) (hT3.on (fun a q => zup_ne (by omega))) ((zup_ne (by omega)).trans h13) (hN3.on (fun a q1 q2 => zup_ne (by omega))) (by rw [eL2]; exact hNT.keep ⟨lo 1 (by omega) (by omega) (by omega), lo 3 (by omega) (by omega) (by omega), lo 4 (by omega) (by omega) (by omega), lo 5 (by omega) (by omega) (by omega)⟩ (fun j hj => lo j (by omega) (by omega) (by omega))) (by rw [eL2]; exact DrC.pa (x := (R (23 + (sNv R B 0 6 (.inl t))) ||| 1 <<< (sNv R B 0 6 (.inl (sNx B n0 t))))) (y := (R (23 + (sNv R B 0 6 (.inl (sNx B n0 t)))) ||| 1 <<< (sNv R B 0 6 (.inl t)))) hK (DrC.on (h := h2) (hh := h3) hB hK (fun a q => F3 a (by unfold drA at q; omega))) x3 x4 x5 x2 (by omega) (by omega) hne lo ((nup_ne (by omega)).trans ((nup_ne (by omega)).trans (nup_same _ _ _))) ((nup_ne (by omega)).trans (nup_same _ _ _))) (fun a q1 q2 => (zup_ne (by unfold drA at q2; omega)).trans (G3 a q1 q2)) (by rw [eL, if_neg e41]; rfl)
            · skip
              have e41 : ((sNv R B 0 6 (.inl t)) = (sNv R B 0 6 (.inl (sNx B n0 t))) ∨ (R (23 + (sNv R B 0 6 (.inl t)))).testBit (sNv R B 0 6 (.inl (sNx B n0 t))) = true) := Or.inr hc54
              refine z_aload_n (pc := 57) C dX4_readPath_57 3 rfl ?_
              refine z_iconst (pc := 58) C dX4_readPath_58 (nI 3) (by decide) ?_
              refine z_cV1 (pc := 59) mX4_fail C [_] dX4_readPath_59 lX4_90 mtX4_fail (tX4_fail h12 hT2) h12 rfl rfl (by decide) (Nat.le_of_ble_eq_true rfl) (Nat.zero_le _) (Nat.zero_le _) ?_
              refine z_zret (pc := 62) C dX4_readPath_62 rfl (by first | exact zb_nar _ | rfl) (Nat.zero_le _) (Nat.zero_le _) ⟨_, rfl, ?_, rfl⟩
              exact cL.no (l := lPa R S B n0 (.inl t)) (e := (3, (sNx B n0 t).2.1)) hK hT2 hN2 n8 hD2.s G2 (by rw [eL, if_pos e41]; rfl)
        · exact hc37.elim
      · skip
        refine z_top (sFv_r hE2) ?_
        refine z_hp (show _ = zup h2 1001 (zO 2 (rdf (nI e2.1) (nI e2.2) nc s)) from rfl) ?_
        have eF : (lPa R S B n0 (.inl t)).1 = .inr e2 := by show oP B n0 (lPaO R B n0 (.inl t)) = _; unfold lPaO; rw [eb, oB_inl, hE2]; rfl
        refine z_istore_n (pc := 35) (lv' := [(3, _), (2, _), (1, _), (0, _)]) C dX4_readPath_35 (by decide) rfl ?_
        refine z_iload_n (pc := 36) C dX4_readPath_36 0 rfl ?_
        first | refine z_ifgeN (pc := 37) C 42 dX4_readPath_37 (by decide) (by omega) (fun hc37 => ?_) (fun hc37 => ?_) | refine z_if_ge (pc := 37) C 42 dX4_readPath_37 (by decide) (fun hc37 => ?_) (fun hc37 => ?_)
        · exact absurd hc37 (by decide)
        · skip
          refine z_iconst (pc := 40) C dX4_readPath_40 (zb false) (by decide) ?_
          refine z_zret (pc := 41) C dX4_readPath_41 rfl (by first | exact zb_nar _ | rfl) (Nat.zero_le _) (Nat.zero_le _) ⟨_, rfl, ?_, rfl⟩
          exact cL.no   hK hT2 hN2 n8 hD2.s G2 (eF)
    · exact hc18.elim
  · skip
    refine z_top (sFv_r hE1) ?_
    refine z_hp (show _ = zup h 1001 (zO 2 (rdf (nI e1.1) (nI e1.2) nc s)) from rfl) ?_
    have eF : (lPa R S B n0 (.inl t)).1 = .inr e1 := by show oP B n0 (lPaO R B n0 (.inl t)) = _; unfold lPaO; rw [oB_inl, hE1]; rfl
    refine z_istore_n (pc := 16) (lv' := [(2, _), (1, _), (0, _)]) C dX4_readPath_16 (by decide) rfl ?_
    refine z_iload_n (pc := 17) C dX4_readPath_17 0 rfl ?_
    first | refine z_ifgeN (pc := 18) C 23 dX4_readPath_18 (by decide) (by omega) (fun hc18 => ?_) (fun hc18 => ?_) | refine z_if_ge (pc := 18) C 23 dX4_readPath_18 (by decide) (fun hc18 => ?_) (fun hc18 => ?_)
    · exact absurd hc18 (by decide)
    · skip
      refine z_iconst (pc := 21) C dX4_readPath_21 (zb false) (by decide) ?_
      refine z_zret (pc := 22) C dX4_readPath_22 rfl (by first | exact zb_nar _ | rfl) (Nat.zero_le _) (Nat.zero_le _) ⟨_, rfl, ?_, rfl⟩
      exact cL.no hK hT0 hN0 n8 hD0.s G0 (eF)
