theorem sFv_l {R B : Nat → Nat} {lo hi : Nat} {t z : Nat × Nat × Nat} (h : sNmd R B lo hi t = .inl z) : z = t ∧ sFv R B lo hi t = nI (sNv R B lo hi (.inl t)) ∧ t.1 = 1 := by
  obtain ⟨rfl, hw, -⟩ := sNmd_w h
  unfold sFv
  rw [h]
  exact ⟨rfl, rfl, hw⟩
theorem sFv_r {R B : Nat → Nat} {lo hi : Nat} {t : Nat × Nat × Nat} {e : Nat × Nat} (h : sNmd R B lo hi t = .inr e) : sFv R B lo hi t = -1 := by
  unfold sFv
  rw [h]
theorem Drf.scn {h : ZH} {s le tr td : Nat} {K R S : Nat → Nat} (hD : Drf h s le tr td K R S) (hc : ∀ i, 1 ≤ i → i < 8 → K i = R i) (w1 : R 1 ≤ 7) : Scn h s le tr td R S := by
  obtain ⟨fc, fh, fn, fk, fs, fg, fw, fe, fl, ft, ⟨c0, c1, c2, c3, c4, c5, c6, c7, c8, c9, c10, c11⟩, r0, r1, r2, r3, r4, r5, r6, r7, r8, r9⟩ := hD
  exact ⟨⟨fc, fh, fn, fk, fs, fg, fw, fe, c0, c1, c2, c3, c4, c5, c6, c7, c8, fun i a b => (r0 i b).trans (hc i a b), r1, fun p hp => r2 p (by omega), r3, r4, r5, r6, r7⟩, fl, ft, c9, c10, c11, r8, r9⟩

theorem DrC.on {h hh : ZH} {s le tr td : Nat} {K R S fc fh fn fk fs fg fw fe fl ft : Nat → Nat} (hB : DrC h s le tr td K R S fc fh fn fk fs fg fw fe fl ft) (hK : DOK s le tr td) (e : ∀ a, drA s a → hh a = h a) : DrC hh s le tr td K R S fc fh fn fk fs fg fw fe fl ft := by
  obtain ⟨⟨c0, c1, c2, c3, c4, c5, c6, c7, c8, c9, c10, c11⟩, hC⟩ := hB
  unfold DOK at hK
  unfold drA at e
  exact ⟨⟨(e _ (by omega)).trans c0, (e _ (by omega)).trans c1, (e _ (by omega)).trans c2, (e _ (by omega)).trans c3, (e _ (by omega)).trans c4, (e _ (by omega)).trans c5, (e _ (by omega)).trans c6, (e _ (by omega)).trans c7, (e _ (by omega)).trans c8, (e _ (by omega)).trans c9, (e _ (by omega)).trans c10, (e _ (by omega)).trans c11⟩, hC⟩

set_option maxRecDepth 20000 in
set_option maxHeartbeats 1000000 in
theorem tX4_readTaken {h : ZH} {ff fa : Int32} {s le tr td nc len n0 : Nat} {K B R S c so nu ix : Nat → Nat} {t : Nat × Nat × Nat} (hK : DOK s le tr td) (h1 : h 1001 = some (zO 2 (rdf ff fa nc s))) (hT : TpA h len n0 B t) (hN4 : NT h zer c so nu) (hNT : NTp R c so nu ix nc) (hX : RX R S) (hk : sTk B n0 t) (hD : Drf h s le tr td K R S) : ZQ1 mX4_readTaken 6 [.ref 1001] h (fun w hh => cL h hh s le tr td K ff fa len n0 B w (lTa R S B n0 (.inl t))) := by
  intro n
  have hNm := hX.2.2.2.2.2.1
  have h2 := hT.2
  have n8 : NT8 c so nu := hNT.2.2.1
  have hKo := hK
  unfold DOK at hKo
  obtain ⟨x1, ⟨x2, x3, x4, x5, x6⟩, x7, x8, x9⟩ := id hX.1
  have hn : nc ≤ 28 := by have := hNT.2.1; omega
  have h10 := h1
  have hN0 := hN4
  have hD0 := hD
  have G0 : ∀ a, a < 1001 ∨ 1006 < a → ¬ drA s a → h a = h a := fun _ _ _ => rfl
  have hT0 := hT
  refine z_enter (lv := [(0, _)]) (by decide) (Nat.le_of_ble_eq_true rfl) rfl (fun X C => ?_)
  refine z_aload_n (pc := 0) C dX4_readTaken_0 0 rfl ?_
  refine z_iconst (pc := 1) C dX4_readTaken_1 (nI 4) (by decide) ?_
  refine z_cV1 (pc := 2) mX4_findName C [_] dX4_readTaken_2 lX4_172 mtX4_findName (tX4_findName (R := R) h10 hT0 hN0 hNT hNm hn hk (Or.inr (Or.inr ⟨rfl, rfl, rfl⟩))) h1 rfl rfl (by decide) (Nat.le_of_ble_eq_true rfl) (Nat.zero_le _) (Nat.zero_le _) ?_
  rcases hE1 : sNmd R B 11 16 t with z1 | e1
  · skip
    obtain ⟨y1, v1, w1⟩ := sFv_l hE1
    obtain rfl : t = z1 := y1.symm
    refine z_top v1 ?_
    refine z_hp (show _ = h from rfl) ?_
    have eb : oP B n0 (oB (.inl t) (sNmd R B 11 16)) = .inl (sNx B n0 t) := by rw [oB_inl, hE1]; rfl
    obtain ⟨a1, a2⟩ := sNv_to (R := R) (B := B) (lo := 11) (hi := 16) (o := .inl t) hNm (by rw [oB_inl, hE1]; rfl)
    have ha : (sNv R B 11 16 (.inl t)) < R 4 := by unfold rTo at a1; omega
    refine z_istore_n (pc := 5) (lv' := [(1, _), (0, _)]) C dX4_readTaken_5 (by decide) rfl ?_
    refine z_iload_n (pc := 6) C dX4_readTaken_6 0 rfl ?_
    first | refine z_ifgeN (pc := 7) C 12 dX4_readTaken_7 (by decide) (by omega) (fun hc7 => ?_) (fun hc7 => ?_) | refine z_if_ge (pc := 7) C 12 dX4_readTaken_7 (by decide) (fun hc7 => ?_) (fun hc7 => ?_)
    · skip
      refine z_aload_n (pc := 12) C dX4_readTaken_12 1 rfl ?_
      refine z_getf (pc := 13) C dX4_readTaken_13 fX4_12 h1 (by first | rfl | assumption) ?_
      refine z_cV0Q (pc := 16) mX7_advance C [] dX4_readTaken_16 lX4_93 mtX7_advance (tX7_adv hT hk) h2 rfl rfl (by decide) (Nat.le_of_ble_eq_true rfl) (Nat.zero_le _) (Nat.zero_le _) ?_
      rintro h2 ⟨hT2, F2⟩
      have k2 := (sNx_ok hk).1
      have h12 : h2 1001 = _ := (F2 1001 (by decide)).trans h10
      have hN2 := hN0.on (hh := h2) (fun a q1 q2 => F2 a (by omega))
      have hD2 := hD0.on hK (hh := h2) (fun a q => F2 a (by unfold drA at q; omega))
      have G2 : ∀ a, a < 1001 ∨ 1006 < a → ¬ drA s a → h2 a = h a := fun a q1 q2 => (F2 a (by omega)).trans (G0 a q1 q2)
      have h22 := hT2.2
      refine z_aload_n (pc := 19) C dX4_readTaken_19 1 rfl ?_
      refine z_iconst (pc := 20) C dX4_readTaken_20 (nI 3) (by decide) ?_
      refine z_cV1 (pc := 21) mX4_findName C [_] dX4_readTaken_21 lX4_172 mtX4_findName (tX4_findName (R := R) h12 hT2 hN2 hNT hNm hn k2 (Or.inr (Or.inl ⟨rfl, rfl, rfl⟩))) h12 rfl rfl (by decide) (Nat.le_of_ble_eq_true rfl) (Nat.zero_le _) (Nat.zero_le _) ?_
      rcases hE2 : sNmd R B 7 10 (sNx B n0 t) with z2 | e2
      · skip
        obtain ⟨y2, v2, w2⟩ := sFv_l hE2
        obtain rfl : (sNx B n0 t) = z2 := y2.symm
        refine z_top v2 ?_
        refine z_hp (show _ = h2 from rfl) ?_
        obtain ⟨b1, b2⟩ := sNv_to (R := R) (B := B) (lo := 7) (hi := 10) (o := .inl (sNx B n0 t)) hNm (by rw [oB_inl, hE2]; rfl)
        have hb : (sNv R B 7 10 (.inl (sNx B n0 t))) < R 3 := by unfold rTo at b1; omega
        obtain ⟨fc, fh, fn, fk, fs, fg, fw, fe, fl, ft, hB⟩ := id hD2
        obtain ⟨⟨c0, c1, c2, c3, c4, c5, c6, c7, c8, c9, c10, c11⟩, r0, r1, r2, r3, r4, r5, r6, r7, r8, r9⟩ := id hB
        have eL : (lTa R S B n0 (.inl t)).1 = oP B n0 (if S (32 + (sNv R B 11 16 (.inl t))) = (sNv R B 7 10 (.inl (sNx B n0 t))) then .inr (3, (sNx B n0 t).2.1) else .inl (sNx B n0 t)) := by show oP B n0 (lTaO R S B n0 (.inl t)) = _; unfold lTaO; rw [eb, oB_inl, hE2]; rfl
        have eL2 : (lTa R S B n0 (.inl t)).2 = (nup R 7 (R 7 + 1), nup S (32 + (sNv R B 11 16 (.inl t))) (sNv R B 7 10 (.inl (sNx B n0 t)))) := by show (_, nup S (32 + (sNv R B 11 16 (.inl t))) (sNv R B 7 10 (oP B n0 (oB (.inl t) (sNmd R B 11 16))))) = _; rw [eb]
        refine z_istore_n (pc := 24) (lv' := [(2, _), (1, _), (0, _)]) C dX4_readTaken_24 (by decide) rfl ?_
        refine z_iload_n (pc := 25) C dX4_readTaken_25 0 rfl ?_
        first | refine z_ifgeN (pc := 26) C 31 dX4_readTaken_26 (by decide) (by omega) (fun hc26 => ?_) (fun hc26 => ?_) | refine z_if_ge (pc := 26) C 31 dX4_readTaken_26 (by decide) (fun hc26 => ?_) (fun hc26 => ?_)
        · skip
          refine z_aload_n (pc := 31) C dX4_readTaken_31 2 rfl ?_
          refine z_getf (pc := 32) C dX4_readTaken_32 fX4_37 h12 (by first | rfl | assumption) ?_
          refine z_getf (pc := 35) C dX4_readTaken_35 fX4_203 c9 (by first | rfl | assumption) ?_
          have x10 := x9 (sNv R B 11 16 (.inl t)) (by omega)
          refine z_iload_n (pc := 38) C dX4_readTaken_38 1 rfl ?_
          refine z_ialdE (pc := 39) C dX4_readTaken_39 c10 (by omega) (by decide) (r8 _ ha) ?_
          refine z_iload_n (pc := 40) C dX4_readTaken_40 0 rfl ?_
          first | refine z_icmpneN (pc := 41) C 50 dX4_readTaken_41 (by decide) (by omega) (by omega) (fun hc41 => ?_) (fun hc41 => ?_) | refine z_icmp_ne (pc := 41) C 50 dX4_readTaken_41 (by decide) (fun hc41 => ?_) (fun hc41 => ?_)
          · skip
            have e41 : ¬ S (32 + (sNv R B 11 16 (.inl t))) = (sNv R B 7 10 (.inl (sNx B n0 t))) := hc41
            refine z_aload_n (pc := 50) C dX4_readTaken_50 2 rfl ?_
            refine z_getf (pc := 51) C dX4_readTaken_51 fX4_12 h12 (by first | rfl | assumption) ?_
            refine z_cV0Q (pc := 54) mX7_advance C [] dX4_readTaken_54 lX4_93 mtX7_advance (tX7_adv hT2 k2) h22 rfl rfl (by decide) (Nat.le_of_ble_eq_true rfl) (Nat.zero_le _) (Nat.zero_le _) ?_
            rintro h3 ⟨hT3, F3⟩
            have k3 := (sNx_ok k2).1
            have h13 : h3 1001 = _ := (F3 1001 (by decide)).trans h12
            have hN3 := hN2.on (hh := h3) (fun a q1 q2 => F3 a (by omega))
            have hD3 := hD2.on hK (hh := h3) (fun a q => F3 a (by unfold drA at q; omega))
            have G3 : ∀ a, a < 1001 ∨ 1006 < a → ¬ drA s a → h3 a = h a := fun a q1 q2 => (F3 a (by omega)).trans (G2 a q1 q2)
            have h23 := hT3.2
            refine z_aload_n (pc := 57) C dX4_readTaken_57 2 rfl ?_
            refine z_getf (pc := 58) C dX4_readTaken_58 fX4_37 h13 (by first | rfl | assumption) ?_
            refine z_getf (pc := 61) C dX4_readTaken_61 fX4_203 ((F3 s (by omega)).trans c9) (by first | rfl | assumption) ?_
            refine z_iload_n (pc := 64) C dX4_readTaken_64 1 rfl ?_
            refine z_iload_n (pc := 65) C dX4_readTaken_65 0 rfl ?_
            first | refine z_iastN (pc := 66) C dX4_readTaken_66 ((F3 le (by omega)).trans c10) (by omega) (by decide) ?_ | refine z_iastI (pc := 66) C dX4_readTaken_66 ((F3 le (by omega)).trans c10) (by omega) (by decide) ?_
            refine z_iconst (pc := 67) C dX4_readTaken_67 (zb true) (by decide) ?_
            refine z_zret (pc := 68) C dX4_readTaken_68 rfl (by first | exact zb_nar _ | rfl) (Nat.zero_le _) (Nat.zero_le _) ⟨_, rfl, ?_, rfl⟩
            exact cL.yes (l := lTa R S B n0 (.inl t)) (hT3.on (fun a q => zup_ne (by omega))) ((zup_ne (by omega)).trans h13) (hN3.on (fun a q1 q2 => zup_ne (by omega))) (hNT.keep ⟨rfl, rfl, rfl, rfl⟩ (fun j hj => nup_ne (by omega))) (by rw [eL2]; exact DrC.ta hK (DrC.on (h := h2) (hh := h3) hB hK (fun a q => F3 a (by unfold drA at q; omega))) x3 x4 x5 x2 (by omega) (fun j q => nup_ne q)) (fun a q1 q2 => (zup_ne (by unfold drA at q2; omega)).trans (G3 a q1 q2)) (by rw [eL, if_neg e41]; rfl)
          · skip
            have e41 : S (32 + (sNv R B 11 16 (.inl t))) = (sNv R B 7 10 (.inl (sNx B n0 t))) := hc41
            refine z_aload_n (pc := 44) C dX4_readTaken_44 2 rfl ?_
            refine z_iconst (pc := 45) C dX4_readTaken_45 (nI 3) (by decide) ?_
            refine z_cV1 (pc := 46) mX4_fail C [_] dX4_readTaken_46 lX4_90 mtX4_fail (tX4_fail h12 hT2) h12 rfl rfl (by decide) (Nat.le_of_ble_eq_true rfl) (Nat.zero_le _) (Nat.zero_le _) ?_
            refine z_zret (pc := 49) C dX4_readTaken_49 rfl (by first | exact zb_nar _ | rfl) (Nat.zero_le _) (Nat.zero_le _) ⟨_, rfl, ?_, rfl⟩
            exact cL.no (l := lTa R S B n0 (.inl t)) (e := (3, (sNx B n0 t).2.1)) hK hT2 hN2 n8 hD2.s G2 (by rw [eL, if_pos e41]; rfl)
        · exact hc26.elim
      · skip
        refine z_top (sFv_r hE2) ?_
        refine z_hp (show _ = zup h2 1001 (zO 2 (rdf (nI e2.1) (nI e2.2) nc s)) from rfl) ?_
        have eF : (lTa R S B n0 (.inl t)).1 = .inr e2 := by show oP B n0 (lTaO R S B n0 (.inl t)) = _; unfold lTaO; rw [eb, oB_inl, hE2]; rfl
        refine z_istore_n (pc := 24) (lv' := [(2, _), (1, _), (0, _)]) C dX4_readTaken_24 (by decide) rfl ?_
        refine z_iload_n (pc := 25) C dX4_readTaken_25 0 rfl ?_
        first | refine z_ifgeN (pc := 26) C 31 dX4_readTaken_26 (by decide) (by omega) (fun hc26 => ?_) (fun hc26 => ?_) | refine z_if_ge (pc := 26) C 31 dX4_readTaken_26 (by decide) (fun hc26 => ?_) (fun hc26 => ?_)
        · exact absurd hc26 (by decide)
        · skip
          refine z_iconst (pc := 29) C dX4_readTaken_29 (zb false) (by decide) ?_
          refine z_zret (pc := 30) C dX4_readTaken_30 rfl (by first | exact zb_nar _ | rfl) (Nat.zero_le _) (Nat.zero_le _) ⟨_, rfl, ?_, rfl⟩
          exact cL.no   hK hT2 hN2 n8 hD2.s G2 (eF)
    · exact hc7.elim
  · skip
    refine z_top (sFv_r hE1) ?_
    refine z_hp (show _ = zup h 1001 (zO 2 (rdf (nI e1.1) (nI e1.2) nc s)) from rfl) ?_
    have eF : (lTa R S B n0 (.inl t)).1 = .inr e1 := by show oP B n0 (lTaO R S B n0 (.inl t)) = _; unfold lTaO; rw [oB_inl, hE1]; rfl
    refine z_istore_n (pc := 5) (lv' := [(1, _), (0, _)]) C dX4_readTaken_5 (by decide) rfl ?_
    refine z_iload_n (pc := 6) C dX4_readTaken_6 0 rfl ?_
    first | refine z_ifgeN (pc := 7) C 12 dX4_readTaken_7 (by decide) (by omega) (fun hc7 => ?_) (fun hc7 => ?_) | refine z_if_ge (pc := 7) C 12 dX4_readTaken_7 (by decide) (fun hc7 => ?_) (fun hc7 => ?_)
    · exact absurd hc7 (by decide)
    · skip
      refine z_iconst (pc := 10) C dX4_readTaken_10 (zb false) (by decide) ?_
      refine z_zret (pc := 11) C dX4_readTaken_11 rfl (by first | exact zb_nar _ | rfl) (Nat.zero_le _) (Nat.zero_le _) ⟨_, rfl, ?_, rfl⟩
      exact cL.no hK hT0 hN0 n8 hD0.s G0 (eF)
