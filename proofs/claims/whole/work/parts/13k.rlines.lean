set_option maxRecDepth 20000 in
set_option maxHeartbeats 4000000 in
theorem tX4_readKill {h : ZH} {ff fa : Int32} {s le tr td nc len n0 : Nat} {K B R S c so nu ix : Nat → Nat} {t : Nat × Nat × Nat} (hK : DOK s le tr td) (h1 : h 1001 = some (zO 2 (rdf ff fa nc s))) (hT : TpA h len n0 B t) (hN4 : NT h zer c so nu) (hNT : NTp R c so nu ix nc) (hX : RX R S) (hk : sTk B n0 t) (hD : Drf h s le tr td K R S) (hc : R 4 < 6) : ZQ1 mX4_readKill 6 [.ref 1001, .int (nI (R 4))] h (fun w hh => cL h hh s le tr td K ff fa len n0 B w (lKi R S B n0 (.inl t))) := by
  intro n
  have hNm := hX.2.2.2.2.2.1
  have h2 := hT.2
  have n8 : NT8 c so nu := hNT.2.2.1
  have hKo := hK
  unfold DOK at hKo
  obtain ⟨x1, ⟨x2, x3, x4, x5, x6⟩, x7, x8, x9⟩ := id hX.1
  have hn : nc ≤ 28 := by have := hNT.2.1; omega
  have h10 := h1
  have hN0 := hN4
  have hD0 := hD
  have G0 : ∀ a, a < 1001 ∨ 1006 < a → ¬ drA s a → h a = h a := fun _ _ _ => rfl
  have hT0 := hT
  have hn2 : nc < 28 := by have := hNT.2.1; omega
  refine z_enter (lv := [(0, _), (1, _)]) (by decide) (Nat.le_of_ble_eq_true rfl) rfl (fun X C => ?_)
  refine z_aload_n (pc := 0) C dX4_readKill_0 0 rfl ?_
  refine z_iconst (pc := 1) C dX4_readKill_1 (nI 4) (by decide) ?_
  refine z_iload_n (pc := 2) C dX4_readKill_2 1 rfl ?_
  refine z_cV1Q (pc := 3) mX4_readNewName C [_, _] dX4_readKill_3 lX4_151 mtX4_readNewName (tX4_readNewName (R := R) h1 hT hN4 hNT hNm hn hk hn2) h1 rfl rfl (by decide) (Nat.le_of_ble_eq_true rfl) (Nat.zero_le _) (Nat.zero_le _) ?_
  rintro _ h2 ⟨rfl, hC2⟩
  first | refine z_ifneB (pc := 6) C 11 dX4_readKill_6 (by decide) (fun hc6 => ?_) (fun hc6 => ?_) | refine z_ifneN (pc := 6) C 11 dX4_readKill_6 (by decide) (by omega) (fun hc6 => ?_) (fun hc6 => ?_) | refine z_if_ne (pc := 6) C 11 dX4_readKill_6 (by decide) (fun hc6 => ?_) (fun hc6 => ?_)
  · skip
    have o6 := nt_T hc6
    obtain ⟨u1, u2, u3, u4⟩ := sNw_w o6
    unfold cNw at hC2
    rw [u4] at hC2
    obtain ⟨hT2, hN2, h12, Fn2⟩ := hC2
    have k2 := (sNx_ok hk).1
    have hD2 := hD.on hK (hh := h2) (fun a q => Fn2 a (by unfold drA at q; omega))
    have G2 : ∀ a, a < 1001 ∨ 1006 < a → ¬ drA s a → h2 a = h a := fun a q1 q2 => Fn2 a q1
    have h22 := hT2.2
    have n82 : NT8 (nup c nc (wCd B t)) (nup so nc 4) (nup nu nc (R 4)) := fun i hi => by have := hNT.1; rw [nup_ne (by omega), nup_ne (by omega), nup_ne (by omega)]; exact n8 i hi
    have hNT2 : NTp (nup (snm R B t (11 + R 4)) 4 (R 4 + 1)) (nup c nc (wCd B t)) (nup so nc 4) (nup nu nc (R 4)) (nup ix nc (11 + R 4)) (nc + 1) := by
      have z := NTp.new (R' := (nup (snm R B t (11 + R 4)) 4 (R 4 + 1))) (x := (11 + R 4)) hNT hNm hk o6 (by omega) (by rw [nup_same, nup_ne (by omega), nup_ne (by omega), nup_ne (by omega), snm_ne (by omega), snm_ne (by omega), snm_ne (by omega)]; omega) (fun y hy => by unfold rTo; rw [nup_same, nup_ne (by omega), nup_ne (by omega), nup_ne (by omega), snm_ne (by omega), snm_ne (by omega), snm_ne (by omega)]; omega) (by unfold rTo; omega) (fun j hj => nup_ne (by omega))
      rw [show nSo (11 + R 4) = 4 from by unfold nSo; rw [if_neg (by omega), if_neg (by omega), if_pos (by omega)], show nNu (11 + R 4) = R 4 from by unfold nNu; rw [if_neg (by omega), if_neg (by omega), if_pos (by omega)]; omega] at z
      exact z
    have hNm2 : rNm (nup (snm R B t (11 + R 4)) 4 (R 4 + 1)) := rNm_new (x := (11 + R 4)) hNm hk u1 (by omega) (fun y hy => by unfold rTo; rw [nup_same, nup_ne (by omega), nup_ne (by omega), nup_ne (by omega), snm_ne (by omega), snm_ne (by omega), snm_ne (by omega)]; omega) (fun j hj => nup_ne (by omega))
    have nN : ∀ lo hi, sNmd (nup (snm R B t (11 + R 4)) 4 (R 4 + 1)) B lo hi = sNmd (snm R B t (11 + R 4)) B lo hi := fun lo hi => sNmd_n (fun j hj => nup_ne (by omega))
    have nV : ∀ lo hi o, sNv (nup (snm R B t (11 + R 4)) 4 (R 4 + 1)) B lo hi o = sNv (snm R B t (11 + R 4)) B lo hi o := fun lo hi o => sNv_n (fun j hj => nup_ne (by omega))
    have hn3 : nc + 1 ≤ 28 := by omega
    have eL : lKi R S B n0 (.inl t) = lKiA (snm R B t (11 + R 4)) S B n0 (R 4) (.inl (sNx B n0 t)) := by show lKiA _ S B n0 (R 4) (sNw R B n0 t) = _; rw [u4]
    refine z_aload_n (pc := 11) C dX4_readKill_11 0 rfl ?_
    refine z_ldcS (pc := 12) (ix := 190) (i := 17) (tx := "by") C dX4_readKill_12 (show (RX4, 190, "by", 17) ∈ zSR by simp [zSR]) ?_
    refine z_cV1Q (pc := 14) mX4_readWord C [_] dX4_readKill_14 lX4_136 mtX4_readWord (tX4_readWord h12 hT2 k2 (by decide)) h12 rfl rfl (by decide) (Nat.le_of_ble_eq_true rfl) (Nat.zero_le _) (Nat.zero_le _) ?_
    rintro _ h3 ⟨rfl, hC3⟩
    first | refine z_ifeqB (pc := 17) C 28 dX4_readKill_17 (by decide) (fun hc17 => ?_) (fun hc17 => ?_) | refine z_ifeqN (pc := 17) C 28 dX4_readKill_17 (by decide) (by omega) (fun hc17 => ?_) (fun hc17 => ?_) | refine z_if_eq (pc := 17) C 28 dX4_readKill_17 (by decide) (fun hc17 => ?_) (fun hc17 => ?_)
    · skip
      have e17 : sMu B n0 (sNx B n0 t) 17 = .inr (1, (sNx B n0 t).2.1) := by unfold sMu; rw [show sspl B (sNx B n0 t) 17 = false from hc17]; rfl
      rw [e17] at hC3
      obtain rfl : h3 = _ := hC3
      have eF : (lKi R S B n0 (.inl t)).1 = .inr (1, (sNx B n0 t).2.1) := by rw [eL]; show sAf B n0 19 20 (sAf B n0 18 3 (lKiO (snm R B t (11 + R 4)) B n0 (.inl (sNx B n0 t)))) = _; unfold lKiO; rw [show oM B n0 (.inl (sNx B n0 t)) 17 = sMu B n0 (sNx B n0 t) 17 from rfl, e17]; rfl
      refine z_iconst (pc := 28) C dX4_readKill_28 (-1) (by decide) ?_
      refine z_istore_n (pc := 29) (lv' := [(2, _), (0, _), (1, _)]) C dX4_readKill_29 (by decide) rfl ?_
      refine z_iload_n (pc := 30) C dX4_readKill_30 0 rfl ?_
      first | refine z_ifgeN (pc := 31) C 36 dX4_readKill_31 (by decide) (by omega) (fun hc31 => ?_) (fun hc31 => ?_) | refine z_if_ge (pc := 31) C 36 dX4_readKill_31 (by decide) (fun hc31 => ?_) (fun hc31 => ?_)
      · exact absurd hc31 (by decide)
      · skip
        refine z_iconst (pc := 34) C dX4_readKill_34 (zb false) (by decide) ?_
        refine z_zret (pc := 35) C dX4_readKill_35 rfl (by first | exact zb_nar _ | rfl) (Nat.zero_le _) (Nat.zero_le _) ⟨_, rfl, ?_, rfl⟩
        first | exact cL.no (e := e1) hK hT3 hN3 n82 hD3.s G3 eF | exact cL.no (e := (1, (sNx B n0 t).2.1)) hK hT2 hN2 n82 hD2.s G2 eF
    · skip
      have e17 : sMu B n0 (sNx B n0 t) 17 = .inl (sNx B n0 (sNx B n0 t)) := by unfold sMu; rw [show sspl B (sNx B n0 t) 17 = true from hc17]; rfl
      rw [e17] at hC3
      obtain ⟨hT3, F3⟩ := hC3
      have k3 := (sNx_ok k2).1
      have h13 : h3 1001 = _ := (F3 1001 (by decide)).trans h12
      have hN3 := hN2.on (hh := h3) (fun a q1 q2 => F3 a (by omega))
      have hD3 := hD2.on hK (hh := h3) (fun a q => F3 a (by unfold drA at q; omega))
      have G3 : ∀ a, a < 1001 ∨ 1006 < a → ¬ drA s a → h3 a = h a := fun a q1 q2 => (F3 a (by omega)).trans (G2 a q1 q2)
      have h23 := hT3.2
      have eM : oM B n0 (.inl (sNx B n0 t)) 17 = .inl (sNx B n0 (sNx B n0 t)) := e17
      refine z_aload_n (pc := 20) C dX4_readKill_20 0 rfl ?_
      refine z_iconst (pc := 21) C dX4_readKill_21 (nI 3) (by decide) ?_
      refine z_cV1 (pc := 22) mX4_findName C [_] dX4_readKill_22 lX4_172 mtX4_findName (tX4_findName (R := (nup (snm R B t (11 + R 4)) 4 (R 4 + 1))) h13 hT3 hN3 hNT2 hNm2 hn3 k3 (Or.inr (Or.inl ⟨rfl, rfl, rfl⟩))) h13 rfl rfl (by decide) (Nat.le_of_ble_eq_true rfl) (Nat.zero_le _) (Nat.zero_le _) ?_
      rcases hE1 : sNmd (nup (snm R B t (11 + R 4)) 4 (R 4 + 1)) B 7 10 (sNx B n0 (sNx B n0 t)) with z1 | e1
      · skip
        obtain ⟨y1, v1, w1⟩ := sFv_l hE1
        obtain rfl : (sNx B n0 (sNx B n0 t)) = z1 := y1.symm
        refine z_top v1 ?_
        refine z_hp (show _ = h3 from rfl) ?_
        obtain ⟨a1, a2⟩ := sNv_to (R := (nup (snm R B t (11 + R 4)) 4 (R 4 + 1))) (B := B) (lo := 7) (hi := 10) (o := .inl (sNx B n0 (sNx B n0 t))) hNm2 (by rw [oB_inl, hE1]; rfl)
        have ha : (sNv (nup (snm R B t (11 + R 4)) 4 (R 4 + 1)) B 7 10 (.inl (sNx B n0 (sNx B n0 t)))) < 4 := by omega
        have eKO : lKiO (snm R B t (11 + R 4)) B n0 (.inl (sNx B n0 t)) = .inl (sNx B n0 (sNx B n0 (sNx B n0 t))) := by unfold lKiO; rw [eM, ← nN, oB_inl, hE1]; rfl
        refine z_goto (pc := 25) C 29 dX4_readKill_25 (by decide) ?_
        refine z_istore_n (pc := 29) (lv' := [(2, _), (0, _), (1, _)]) C dX4_readKill_29 (by decide) rfl ?_
        refine z_iload_n (pc := 30) C dX4_readKill_30 0 rfl ?_
        first | refine z_ifgeN (pc := 31) C 36 dX4_readKill_31 (by decide) (by omega) (fun hc31 => ?_) (fun hc31 => ?_) | refine z_if_ge (pc := 31) C 36 dX4_readKill_31 (by decide) (fun hc31 => ?_) (fun hc31 => ?_)
        · skip
          refine z_aload_n (pc := 36) C dX4_readKill_36 1 rfl ?_
          refine z_getf (pc := 37) C dX4_readKill_37 fX4_12 h13 (by first | rfl | assumption) ?_
          refine z_cV0Q (pc := 40) mX7_advance C [] dX4_readKill_40 lX4_93 mtX7_advance (tX7_adv hT3 k3) h23 rfl rfl (by decide) (Nat.le_of_ble_eq_true rfl) (Nat.zero_le _) (Nat.zero_le _) ?_
          rintro h4 ⟨hT4, F4⟩
          have k4 := (sNx_ok k3).1
          have h14 : h4 1001 = _ := (F4 1001 (by decide)).trans h13
          have hNk4 := hN3.on (hh := h4) (fun a q1 q2 => F4 a (by omega))
          have hD4 := hD3.on hK (hh := h4) (fun a q => F4 a (by unfold drA at q; omega))
          have G4 : ∀ a, a < 1001 ∨ 1006 < a → ¬ drA s a → h4 a = h a := fun a q1 q2 => (F4 a (by omega)).trans (G3 a q1 q2)
          have h24 := hT4.2
          refine z_aload_n (pc := 43) C dX4_readKill_43 1 rfl ?_
          refine z_ldcS (pc := 44) (ix := 192) (i := 18) (tx := "far") C dX4_readKill_44 (show (RX4, 192, "far", 18) ∈ zSR by simp [zSR]) ?_
          refine z_cV1Q (pc := 46) mX4_readWord C [_] dX4_readKill_46 lX4_136 mtX4_readWord (tX4_readWord h14 hT4 k4 (by decide)) h14 rfl rfl (by decide) (Nat.le_of_ble_eq_true rfl) (Nat.zero_le _) (Nat.zero_le _) ?_
          rintro _ h5 ⟨rfl, hC5⟩
          first | refine z_ifeqB (pc := 49) C 60 dX4_readKill_49 (by decide) (fun hc49 => ?_) (fun hc49 => ?_) | refine z_ifeqN (pc := 49) C 60 dX4_readKill_49 (by decide) (by omega) (fun hc49 => ?_) (fun hc49 => ?_) | refine z_if_eq (pc := 49) C 60 dX4_readKill_49 (by decide) (fun hc49 => ?_) (fun hc49 => ?_)
          · skip
            have e49 : sMu B n0 (sNx B n0 (sNx B n0 (sNx B n0 t))) 18 = .inr (1, (sNx B n0 (sNx B n0 (sNx B n0 t))).2.1) := by unfold sMu; rw [show sspl B (sNx B n0 (sNx B n0 (sNx B n0 t))) 18 = false from hc49]; rfl
            rw [e49] at hC5
            obtain rfl : h5 = _ := hC5
            have eF : (lKi R S B n0 (.inl t)).1 = .inr (1, (sNx B n0 (sNx B n0 (sNx B n0 t))).2.1) := by rw [eL]; show sAf B n0 19 20 (sAf B n0 18 3 (lKiO (snm R B t (11 + R 4)) B n0 (.inl (sNx B n0 t)))) = _; rw [eKO, show sAf B n0 18 3 (.inl (sNx B n0 (sNx B n0 (sNx B n0 t)))) = oB (sMu B n0 (sNx B n0 (sNx B n0 (sNx B n0 t))) 18) (sWh B n0 3) from rfl, e49]; rfl
            refine z_iconst (pc := 60) C dX4_readKill_60 (-1) (by decide) ?_
            refine z_istore_n (pc := 61) (lv' := [(3, _), (2, _), (0, _), (1, _)]) C dX4_readKill_61 (by decide) rfl ?_
            refine z_iload_n (pc := 62) C dX4_readKill_62 0 rfl ?_
            first | refine z_ifgeN (pc := 63) C 68 dX4_readKill_63 (by decide) (by omega) (fun hc63 => ?_) (fun hc63 => ?_) | refine z_if_ge (pc := 63) C 68 dX4_readKill_63 (by decide) (fun hc63 => ?_) (fun hc63 => ?_)
            · exact absurd hc63 (by decide)
            · skip
              refine z_iconst (pc := 66) C dX4_readKill_66 (zb false) (by decide) ?_
              refine z_zret (pc := 67) C dX4_readKill_67 rfl (by first | exact zb_nar _ | rfl) (Nat.zero_le _) (Nat.zero_le _) ⟨_, rfl, ?_, rfl⟩
              first | exact cL.no (e := ew2) hK hT5 hN5 n82 hD5.s G5 eF | exact cL.no (e := (1, (sNx B n0 (sNx B n0 (sNx B n0 t))).2.1)) hK hT4 hNk4 n82 hD4.s G4 eF
          · skip
            have e49 : sMu B n0 (sNx B n0 (sNx B n0 (sNx B n0 t))) 18 = .inl (sNx B n0 (sNx B n0 (sNx B n0 (sNx B n0 t)))) := by unfold sMu; rw [show sspl B (sNx B n0 (sNx B n0 (sNx B n0 t))) 18 = true from hc49]; rfl
            rw [e49] at hC5
            obtain ⟨hT5, F5⟩ := hC5
            have k5 := (sNx_ok k4).1
            have h15 : h5 1001 = _ := (F5 1001 (by decide)).trans h14
            have hN5 := hNk4.on (hh := h5) (fun a q1 q2 => F5 a (by omega))
            have hD5 := hD4.on hK (hh := h5) (fun a q => F5 a (by unfold drA at q; omega))
            have G5 : ∀ a, a < 1001 ∨ 1006 < a → ¬ drA s a → h5 a = h a := fun a q1 q2 => (F5 a (by omega)).trans (G4 a q1 q2)
            have h25 := hT5.2
            refine z_aload_n (pc := 52) C dX4_readKill_52 1 rfl ?_
            refine z_iconst (pc := 53) C dX4_readKill_53 (nI 3) (by decide) ?_
            refine z_cV1Q (pc := 54) mX4_readWhole C [_] dX4_readKill_54 lX4_140 mtX4_readWhole (tX4_readWhole h15 hT5 k5 (by decide)) h15 rfl rfl (by decide) (Nat.le_of_ble_eq_true rfl) (Nat.zero_le _) (Nat.zero_le _) ?_
            rintro _ h6 ⟨rfl, hC6⟩
            rcases hE2 : sWh B n0 3 (sNx B n0 (sNx B n0 (sNx B n0 (sNx B n0 t)))) with z6 | ew2
            · skip
              obtain ⟨rfl, v1, v2, v3⟩ := sWh_l hE2
              refine z_top v1 ?_
              rw [hE2] at hC6
              obtain ⟨hT6, F6⟩ := hC6
              have k6 := (sNx_ok k5).1
              have h16 : h6 1001 = _ := (F6 1001 (by decide)).trans h15
              have hN6 := hN5.on (hh := h6) (fun a q1 q2 => F6 a (by omega))
              have hD6 := hD5.on hK (hh := h6) (fun a q => F6 a (by unfold drA at q; omega))
              have G6 : ∀ a, a < 1001 ∨ 1006 < a → ¬ drA s a → h6 a = h a := fun a q1 q2 => (F6 a (by omega)).trans (G5 a q1 q2)
              have h26 := hT6.2
              have eA1 : sAf B n0 18 3 (.inl (sNx B n0 (sNx B n0 (sNx B n0 t)))) = .inl (sNx B n0 (sNx B n0 (sNx B n0 (sNx B n0 (sNx B n0 t))))) := by show oB (sMu B n0 (sNx B n0 (sNx B n0 (sNx B n0 t))) 18) (sWh B n0 3) = _; rw [e49]; exact hE2
              have eV1 : sAv B n0 18 3 (.inl (sNx B n0 (sNx B n0 (sNx B n0 t)))) = (sVal B (sNx B n0 (sNx B n0 (sNx B n0 (sNx B n0 t))))) := by unfold sAv; rw [eA1]; show (match sMu B n0 (sNx B n0 (sNx B n0 (sNx B n0 t))) 18 with | .inl t => sVal B t | .inr _ => 0) = _; rw [e49]
              refine z_goto (pc := 57) C 61 dX4_readKill_57 (by decide) ?_
              refine z_istore_n (pc := 61) (lv' := [(3, _), (2, _), (0, _), (1, _)]) C dX4_readKill_61 (by decide) rfl ?_
              refine z_iload_n (pc := 62) C dX4_readKill_62 0 rfl ?_
              first | refine z_ifgeN (pc := 63) C 68 dX4_readKill_63 (by decide) (by omega) (fun hc63 => ?_) (fun hc63 => ?_) | refine z_if_ge (pc := 63) C 68 dX4_readKill_63 (by decide) (fun hc63 => ?_) (fun hc63 => ?_)
              · skip
                refine z_aload_n (pc := 68) C dX4_readKill_68 2 rfl ?_
                refine z_ldcS (pc := 69) (ix := 194) (i := 19) (tx := "worth") C dX4_readKill_69 (show (RX4, 194, "worth", 19) ∈ zSR by simp [zSR]) ?_
                refine z_cV1Q (pc := 71) mX4_readWord C [_] dX4_readKill_71 lX4_136 mtX4_readWord (tX4_readWord h16 hT6 k6 (by decide)) h16 rfl rfl (by decide) (Nat.le_of_ble_eq_true rfl) (Nat.zero_le _) (Nat.zero_le _) ?_
                rintro _ h7 ⟨rfl, hC7⟩
                first | refine z_ifeqB (pc := 74) C 86 dX4_readKill_74 (by decide) (fun hc74 => ?_) (fun hc74 => ?_) | refine z_ifeqN (pc := 74) C 86 dX4_readKill_74 (by decide) (by omega) (fun hc74 => ?_) (fun hc74 => ?_) | refine z_if_eq (pc := 74) C 86 dX4_readKill_74 (by decide) (fun hc74 => ?_) (fun hc74 => ?_)
                · skip
                  have e74 : sMu B n0 (sNx B n0 (sNx B n0 (sNx B n0 (sNx B n0 (sNx B n0 t))))) 19 = .inr (1, (sNx B n0 (sNx B n0 (sNx B n0 (sNx B n0 (sNx B n0 t))))).2.1) := by unfold sMu; rw [show sspl B (sNx B n0 (sNx B n0 (sNx B n0 (sNx B n0 (sNx B n0 t))))) 19 = false from hc74]; rfl
                  rw [e74] at hC7
                  obtain rfl : h7 = _ := hC7
                  have eF : (lKi R S B n0 (.inl t)).1 = .inr (1, (sNx B n0 (sNx B n0 (sNx B n0 (sNx B n0 (sNx B n0 t))))).2.1) := by rw [eL]; show sAf B n0 19 20 (sAf B n0 18 3 (lKiO (snm R B t (11 + R 4)) B n0 (.inl (sNx B n0 t)))) = _; rw [eKO, eA1, show sAf B n0 19 20 (.inl (sNx B n0 (sNx B n0 (sNx B n0 (sNx B n0 (sNx B n0 t)))))) = oB (sMu B n0 (sNx B n0 (sNx B n0 (sNx B n0 (sNx B n0 (sNx B n0 t))))) 19) (sWh B n0 20) from rfl, e74]; rfl
                  refine z_iconst (pc := 86) C dX4_readKill_86 (-1) (by decide) ?_
                  refine z_istore (pc := 87) (lv' := [(4, _), (3, _), (2, _), (0, _), (1, _)]) C dX4_readKill_87 (by decide) rfl ?_
                  refine z_iload (pc := 89) C dX4_readKill_89 0 rfl ?_
                  first | refine z_ifgeN (pc := 91) C 96 dX4_readKill_91 (by decide) (by omega) (fun hc91 => ?_) (fun hc91 => ?_) | refine z_if_ge (pc := 91) C 96 dX4_readKill_91 (by decide) (fun hc91 => ?_) (fun hc91 => ?_)
                  · exact absurd hc91 (by decide)
                  · skip
                    refine z_iconst (pc := 94) C dX4_readKill_94 (zb false) (by decide) ?_
                    refine z_zret (pc := 95) C dX4_readKill_95 rfl (by first | exact zb_nar _ | rfl) (Nat.zero_le _) (Nat.zero_le _) ⟨_, rfl, ?_, rfl⟩
                    first | exact cL.no (e := ew3) hK hT7 hN7 n82 hD7.s G7 eF | exact cL.no (e := (1, (sNx B n0 (sNx B n0 (sNx B n0 (sNx B n0 (sNx B n0 t))))).2.1)) hK hT6 hN6 n82 hD6.s G6 eF
                · skip
                  have e74 : sMu B n0 (sNx B n0 (sNx B n0 (sNx B n0 (sNx B n0 (sNx B n0 t))))) 19 = .inl (sNx B n0 (sNx B n0 (sNx B n0 (sNx B n0 (sNx B n0 (sNx B n0 t)))))) := by unfold sMu; rw [show sspl B (sNx B n0 (sNx B n0 (sNx B n0 (sNx B n0 (sNx B n0 t))))) 19 = true from hc74]; rfl
                  rw [e74] at hC7
                  obtain ⟨hT7, F7⟩ := hC7
                  have k7 := (sNx_ok k6).1
                  have h17 : h7 1001 = _ := (F7 1001 (by decide)).trans h16
                  have hN7 := hN6.on (hh := h7) (fun a q1 q2 => F7 a (by omega))
                  have hD7 := hD6.on hK (hh := h7) (fun a q => F7 a (by unfold drA at q; omega))
                  have G7 : ∀ a, a < 1001 ∨ 1006 < a → ¬ drA s a → h7 a = h a := fun a q1 q2 => (F7 a (by omega)).trans (G6 a q1 q2)
                  have h27 := hT7.2
                  refine z_aload_n (pc := 77) C dX4_readKill_77 2 rfl ?_
                  refine z_bipush (pc := 78) C dX4_readKill_78 (nI 20) (by decide) ?_
                  refine z_cV1Q (pc := 80) mX4_readWhole C [_] dX4_readKill_80 lX4_140 mtX4_readWhole (tX4_readWhole h17 hT7 k7 (by decide)) h17 rfl rfl (by decide) (Nat.le_of_ble_eq_true rfl) (Nat.zero_le _) (Nat.zero_le _) ?_
                  rintro _ h8 ⟨rfl, hC8⟩
                  rcases hE3 : sWh B n0 20 (sNx B n0 (sNx B n0 (sNx B n0 (sNx B n0 (sNx B n0 (sNx B n0 t)))))) with z8 | ew3
                  · skip
                    obtain ⟨rfl, y1, y2, y3⟩ := sWh_l hE3
                    refine z_top y1 ?_
                    rw [hE3] at hC8
                    obtain ⟨hT8, F8⟩ := hC8
                    have k8 := (sNx_ok k7).1
                    have h18 : h8 1001 = _ := (F8 1001 (by decide)).trans h17
                    have hN8 := hN7.on (hh := h8) (fun a q1 q2 => F8 a (by omega))
                    have hD8 := hD7.on hK (hh := h8) (fun a q => F8 a (by unfold drA at q; omega))
                    have G8 : ∀ a, a < 1001 ∨ 1006 < a → ¬ drA s a → h8 a = h a := fun a q1 q2 => (F8 a (by omega)).trans (G7 a q1 q2)
                    have h28 := hT8.2
                    obtain ⟨fc, fh, fn, fk, fs, fg, fw, fe, fl, ft, hB⟩ := id hD8
                    obtain ⟨⟨c0, c1, c2, c3, c4, c5, c6, c7, c8, c9, c10, c11⟩, r0, r1, r2, r3, r4, r5, r6, r7, r8, r9⟩ := id hB
                    have eA2 : sAf B n0 19 20 (.inl (sNx B n0 (sNx B n0 (sNx B n0 (sNx B n0 (sNx B n0 t)))))) = .inl (sNx B n0 (sNx B n0 (sNx B n0 (sNx B n0 (sNx B n0 (sNx B n0 (sNx B n0 t))))))) := by show oB (sMu B n0 (sNx B n0 (sNx B n0 (sNx B n0 (sNx B n0 (sNx B n0 t))))) 19) (sWh B n0 20) = _; rw [e74]; exact hE3
                    have eV2 : sAv B n0 19 20 (.inl (sNx B n0 (sNx B n0 (sNx B n0 (sNx B n0 (sNx B n0 t)))))) = (sVal B (sNx B n0 (sNx B n0 (sNx B n0 (sNx B n0 (sNx B n0 (sNx B n0 t))))))) := by unfold sAv; rw [eA2]; show (match sMu B n0 (sNx B n0 (sNx B n0 (sNx B n0 (sNx B n0 (sNx B n0 t))))) 19 with | .inl t => sVal B t | .inr _ => 0) = _; rw [e74]
                    have e14 : (lKi R S B n0 (.inl t)).1 = .inl (sNx B n0 (sNx B n0 (sNx B n0 (sNx B n0 (sNx B n0 (sNx B n0 (sNx B n0 t))))))) := by rw [eL]; show sAf B n0 19 20 (sAf B n0 18 3 (lKiO (snm R B t (11 + R 4)) B n0 (.inl (sNx B n0 t)))) = _; rw [eKO, eA1]; exact eA2
                    have eR : (lKi R S B n0 (.inl t)).2 = (nup (nup (nup (nup (snm R B t (11 + R 4)) (34 + 4 * R 4) (sNv (nup (snm R B t (11 + R 4)) 4 (R 4 + 1)) B 7 10 (.inl (sNx B n0 (sNx B n0 t))))) (34 + 4 * R 4 + 1) (sVal B (sNx B n0 (sNx B n0 (sNx B n0 (sNx B n0 t)))))) (34 + 4 * R 4 + 2) (sVal B (sNx B n0 (sNx B n0 (sNx B n0 (sNx B n0 (sNx B n0 (sNx B n0 t)))))))) 4 (R 4 + 1), nup S (32 + R 4) (sNv (nup (snm R B t (11 + R 4)) 4 (R 4 + 1)) B 7 10 (.inl (sNx B n0 (sNx B n0 t))))) := by rw [eL]; show (nup (nup (nup (nup (snm R B t (11 + R 4)) (34 + 4 * R 4) (sNv (snm R B t (11 + R 4)) B 7 10 (oM B n0 (.inl (sNx B n0 t)) 17))) (34 + 4 * R 4 + 1) (sAv B n0 18 3 (lKiO (snm R B t (11 + R 4)) B n0 (.inl (sNx B n0 t))))) (34 + 4 * R 4 + 2) (sAv B n0 19 20 (sAf B n0 18 3 (lKiO (snm R B t (11 + R 4)) B n0 (.inl (sNx B n0 t)))))) 4 (R 4 + 1), nup S (32 + R 4) (sNv (snm R B t (11 + R 4)) B 7 10 (oM B n0 (.inl (sNx B n0 t)) 17))) = _; rw [eM, ← nV, eKO, eV1, eA1, eV2]
                    refine z_goto (pc := 83) C 87 dX4_readKill_83 (by decide) ?_
                    refine z_istore (pc := 87) (lv' := [(4, _), (3, _), (2, _), (0, _), (1, _)]) C dX4_readKill_87 (by decide) rfl ?_
                    refine z_iload (pc := 89) C dX4_readKill_89 0 rfl ?_
                    first | refine z_ifgeN (pc := 91) C 96 dX4_readKill_91 (by decide) (by omega) (fun hc91 => ?_) (fun hc91 => ?_) | refine z_if_ge (pc := 91) C 96 dX4_readKill_91 (by decide) (fun hc91 => ?_) (fun hc91 => ?_)
                    · skip
                      refine z_aload_n (pc := 96) C dX4_readKill_96 3 rfl ?_
                      refine z_getf (pc := 97) C dX4_readKill_97 fX4_37 h18 (by first | rfl | assumption) ?_
                      refine z_getf (pc := 100) C dX4_readKill_100 fX4_49 c9 (by first | rfl | assumption) ?_
                      refine z_getf (pc := 103) C dX4_readKill_103 fX4_196 c0 (by first | rfl | assumption) ?_
                      refine z_iload_n (pc := 106) C dX4_readKill_106 4 rfl ?_
                      refine z_iload_n (pc := 107) C dX4_readKill_107 2 rfl ?_
                      first | refine z_iastN (pc := 108) C dX4_readKill_108 c5 (by omega) (by decide) ?_ | refine z_iastI (pc := 108) C dX4_readKill_108 c5 (by omega) (by decide) ?_
                      refine z_aload_n (pc := 109) C dX4_readKill_109 3 rfl ?_
                      refine z_getf (pc := 110) C dX4_readKill_110 fX4_37 ((zup_ne (by omega)).trans h18) (by first | rfl | assumption) ?_
                      refine z_getf (pc := 113) C dX4_readKill_113 fX4_49 ((zup_ne (by omega)).trans c9) (by first | rfl | assumption) ?_
                      refine z_getf (pc := 116) C dX4_readKill_116 fX4_199 ((zup_ne (by omega)).trans c0) (by first | rfl | assumption) ?_
                      refine z_iload_n (pc := 119) C dX4_readKill_119 4 rfl ?_
                      refine z_iload_n (pc := 120) C dX4_readKill_120 1 rfl ?_
                      first | refine z_iastN (pc := 121) C dX4_readKill_121 ((zup_ne (by omega)).trans c6) (by omega) (by decide) ?_ | refine z_iastI (pc := 121) C dX4_readKill_121 ((zup_ne (by omega)).trans c6) (by omega) (by decide) ?_
                      refine z_aload_n (pc := 122) C dX4_readKill_122 3 rfl ?_
                      refine z_getf (pc := 123) C dX4_readKill_123 fX4_37 ((zup_ne (by omega)).trans ((zup_ne (by omega)).trans h18)) (by first | rfl | assumption) ?_
                      refine z_getf (pc := 126) C dX4_readKill_126 fX4_49 ((zup_ne (by omega)).trans ((zup_ne (by omega)).trans c9)) (by first | rfl | assumption) ?_
                      refine z_getf (pc := 129) C dX4_readKill_129 fX4_201 ((zup_ne (by omega)).trans ((zup_ne (by omega)).trans c0)) (by first | rfl | assumption) ?_
                      refine z_iload_n (pc := 132) C dX4_readKill_132 4 rfl ?_
                      refine z_iload (pc := 133) C dX4_readKill_133 0 rfl ?_
                      first | refine z_iastN (pc := 135) C dX4_readKill_135 ((zup_ne (by omega)).trans ((zup_ne (by omega)).trans c7)) (by omega) (by decide) ?_ | refine z_iastI (pc := 135) C dX4_readKill_135 ((zup_ne (by omega)).trans ((zup_ne (by omega)).trans c7)) (by omega) (by decide) ?_
                      refine z_aload_n (pc := 136) C dX4_readKill_136 3 rfl ?_
                      refine z_getf (pc := 137) C dX4_readKill_137 fX4_37 ((zup_ne (by omega)).trans ((zup_ne (by omega)).trans ((zup_ne (by omega)).trans h18))) (by first | rfl | assumption) ?_
                      refine z_getf (pc := 140) C dX4_readKill_140 fX4_203 ((zup_ne (by omega)).trans ((zup_ne (by omega)).trans ((zup_ne (by omega)).trans c9))) (by first | rfl | assumption) ?_
                      refine z_iload_n (pc := 143) C dX4_readKill_143 4 rfl ?_
                      refine z_iload_n (pc := 144) C dX4_readKill_144 2 rfl ?_
                      first | refine z_iastN (pc := 145) C dX4_readKill_145 ((zup_ne (by omega)).trans ((zup_ne (by omega)).trans ((zup_ne (by omega)).trans c10))) (by omega) (by decide) ?_ | refine z_iastI (pc := 145) C dX4_readKill_145 ((zup_ne (by omega)).trans ((zup_ne (by omega)).trans ((zup_ne (by omega)).trans c10))) (by omega) (by decide) ?_
                      refine z_iconst (pc := 146) C dX4_readKill_146 (zb true) (by decide) ?_
                      refine z_zret (pc := 147) C dX4_readKill_147 rfl (by first | exact zb_nar _ | rfl) (Nat.zero_le _) (Nat.zero_le _) ⟨_, rfl, ?_, rfl⟩
                      have lo : ∀ j, j < 61 → j ≠ 4 → j < 34 + 4 * R 4 ∨ 34 + 4 * R 4 + 2 < j → (nup (nup (nup (nup (snm R B t (11 + R 4)) (34 + 4 * R 4) (sNv (nup (snm R B t (11 + R 4)) 4 (R 4 + 1)) B 7 10 (.inl (sNx B n0 (sNx B n0 t))))) (34 + 4 * R 4 + 1) (sVal B (sNx B n0 (sNx B n0 (sNx B n0 (sNx B n0 t)))))) (34 + 4 * R 4 + 2) (sVal B (sNx B n0 (sNx B n0 (sNx B n0 (sNx B n0 (sNx B n0 (sNx B n0 t)))))))) 4 (R 4 + 1)) j = R j := (fun j q0 q1 q2 => by rw [nup_ne q1, nup_ne (by omega), nup_ne (by omega), nup_ne (by omega), snm_ne q0]); exact cL.yes (l := lKi R S B n0 (.inl t)) (hT8.on (fun a q => (zup_ne (by omega)).trans ((zup_ne (by omega)).trans ((zup_ne (by omega)).trans (zup_ne (by omega)))))) ((zup_ne (by omega)).trans ((zup_ne (by omega)).trans ((zup_ne (by omega)).trans ((zup_ne (by omega)).trans h18)))) (hN8.on (fun a q1 q2 => (zup_ne (by omega)).trans ((zup_ne (by omega)).trans ((zup_ne (by omega)).trans (zup_ne (by omega)))))) (by rw [eR]; show NTp (nup (nup (nup (nup (snm R B t (11 + R 4)) (34 + 4 * R 4) (sNv (nup (snm R B t (11 + R 4)) 4 (R 4 + 1)) B 7 10 (.inl (sNx B n0 (sNx B n0 t))))) (34 + 4 * R 4 + 1) (sVal B (sNx B n0 (sNx B n0 (sNx B n0 (sNx B n0 t)))))) (34 + 4 * R 4 + 2) (sVal B (sNx B n0 (sNx B n0 (sNx B n0 (sNx B n0 (sNx B n0 (sNx B n0 t)))))))) 4 (R 4 + 1)) _ _ _ _ _; exact hNT2.keep ⟨by rw [lo 1 (by omega) (by omega) (by omega), nup_ne (by omega), snm_ne (by omega)], by rw [lo 3 (by omega) (by omega) (by omega), nup_ne (by omega), snm_ne (by omega)], by rw [nup_same, nup_same], by rw [lo 5 (by omega) (by omega) (by omega), nup_ne (by omega), snm_ne (by omega)]⟩ (fun j hj => by rw [nup_ne (by omega), nup_ne (by omega), nup_ne (by omega), nup_ne (by omega), nup_ne (by omega)])) (by rw [eR]; show Drf _ s le tr td K (nup (nup (nup (nup (snm R B t (11 + R 4)) (34 + 4 * R 4) (sNv (nup (snm R B t (11 + R 4)) 4 (R 4 + 1)) B 7 10 (.inl (sNx B n0 (sNx B n0 t))))) (34 + 4 * R 4 + 1) (sVal B (sNx B n0 (sNx B n0 (sNx B n0 (sNx B n0 t)))))) (34 + 4 * R 4 + 2) (sVal B (sNx B n0 (sNx B n0 (sNx B n0 (sNx B n0 (sNx B n0 (sNx B n0 t)))))))) 4 (R 4 + 1)) (nup S (32 + R 4) (sNv (nup (snm R B t (11 + R 4)) 4 (R 4 + 1)) B 7 10 (.inl (sNx B n0 (sNx B n0 t))))); exact DrC.ki (v := (sNv (nup (snm R B t (11 + R 4)) 4 (R 4 + 1)) B 7 10 (.inl (sNx B n0 (sNx B n0 t))))) (a0 := (sVal B (sNx B n0 (sNx B n0 (sNx B n0 (sNx B n0 t)))))) (b0 := (sVal B (sNx B n0 (sNx B n0 (sNx B n0 (sNx B n0 (sNx B n0 (sNx B n0 t)))))))) hK hB x3 x4 x5 x2 hc lo (nup_same _ _ _) (by rw [nup_ne (by omega), nup_ne (by omega), nup_ne (by omega), nup_same]) (by rw [nup_ne (by omega), nup_ne (by omega), nup_same]) (by rw [nup_ne (by omega), nup_same])) (fun a q1 q2 => (zup_ne (by unfold drA at q2; omega)).trans ((zup_ne (by unfold drA at q2; omega)).trans ((zup_ne (by unfold drA at q2; omega)).trans ((zup_ne (by unfold drA at q2; omega)).trans (G8 a q1 q2))))) e14
                    · exact hc91.elim
                  · skip
                    refine z_top (sWh_r hE3) ?_
                    rw [hE3] at hC8
                    obtain rfl : h8 = _ := hC8
                    have eF : (lKi R S B n0 (.inl t)).1 = .inr ew3 := by rw [eL]; show sAf B n0 19 20 (sAf B n0 18 3 (lKiO (snm R B t (11 + R 4)) B n0 (.inl (sNx B n0 t)))) = _; rw [eKO, eA1, show sAf B n0 19 20 (.inl (sNx B n0 (sNx B n0 (sNx B n0 (sNx B n0 (sNx B n0 t)))))) = oB (sMu B n0 (sNx B n0 (sNx B n0 (sNx B n0 (sNx B n0 (sNx B n0 t))))) 19) (sWh B n0 20) from rfl, e74, oB_inl, hE3]
                    refine z_goto (pc := 83) C 87 dX4_readKill_83 (by decide) ?_
                    refine z_istore (pc := 87) (lv' := [(4, _), (3, _), (2, _), (0, _), (1, _)]) C dX4_readKill_87 (by decide) rfl ?_
                    refine z_iload (pc := 89) C dX4_readKill_89 0 rfl ?_
                    first | refine z_ifgeN (pc := 91) C 96 dX4_readKill_91 (by decide) (by omega) (fun hc91 => ?_) (fun hc91 => ?_) | refine z_if_ge (pc := 91) C 96 dX4_readKill_91 (by decide) (fun hc91 => ?_) (fun hc91 => ?_)
                    · exact absurd hc91 (by decide)
                    · skip
                      refine z_iconst (pc := 94) C dX4_readKill_94 (zb false) (by decide) ?_
                      refine z_zret (pc := 95) C dX4_readKill_95 rfl (by first | exact zb_nar _ | rfl) (Nat.zero_le _) (Nat.zero_le _) ⟨_, rfl, ?_, rfl⟩
                      first | exact cL.no (e := ew3) hK hT7 hN7 n82 hD7.s G7 eF | exact cL.no (e := (1, (sNx B n0 (sNx B n0 (sNx B n0 (sNx B n0 (sNx B n0 t))))).2.1)) hK hT6 hN6 n82 hD6.s G6 eF
              · exact hc63.elim
            · skip
              refine z_top (sWh_r hE2) ?_
              rw [hE2] at hC6
              obtain rfl : h6 = _ := hC6
              have eF : (lKi R S B n0 (.inl t)).1 = .inr ew2 := by rw [eL]; show sAf B n0 19 20 (sAf B n0 18 3 (lKiO (snm R B t (11 + R 4)) B n0 (.inl (sNx B n0 t)))) = _; rw [eKO, show sAf B n0 18 3 (.inl (sNx B n0 (sNx B n0 (sNx B n0 t)))) = oB (sMu B n0 (sNx B n0 (sNx B n0 (sNx B n0 t))) 18) (sWh B n0 3) from rfl, e49, oB_inl, hE2]; rfl
              refine z_goto (pc := 57) C 61 dX4_readKill_57 (by decide) ?_
              refine z_istore_n (pc := 61) (lv' := [(3, _), (2, _), (0, _), (1, _)]) C dX4_readKill_61 (by decide) rfl ?_
              refine z_iload_n (pc := 62) C dX4_readKill_62 0 rfl ?_
              first | refine z_ifgeN (pc := 63) C 68 dX4_readKill_63 (by decide) (by omega) (fun hc63 => ?_) (fun hc63 => ?_) | refine z_if_ge (pc := 63) C 68 dX4_readKill_63 (by decide) (fun hc63 => ?_) (fun hc63 => ?_)
              · exact absurd hc63 (by decide)
              · skip
                refine z_iconst (pc := 66) C dX4_readKill_66 (zb false) (by decide) ?_
                refine z_zret (pc := 67) C dX4_readKill_67 rfl (by first | exact zb_nar _ | rfl) (Nat.zero_le _) (Nat.zero_le _) ⟨_, rfl, ?_, rfl⟩
                first | exact cL.no (e := ew2) hK hT5 hN5 n82 hD5.s G5 eF | exact cL.no (e := (1, (sNx B n0 (sNx B n0 (sNx B n0 t))).2.1)) hK hT4 hNk4 n82 hD4.s G4 eF
        · exact hc31.elim
      · skip
        refine z_top (sFv_r hE1) ?_
        refine z_hp (show _ = zup h3 1001 (zO 2 (rdf (nI e1.1) (nI e1.2) (nc + 1) s)) from rfl) ?_
        have eF : (lKi R S B n0 (.inl t)).1 = .inr e1 := by rw [eL]; show sAf B n0 19 20 (sAf B n0 18 3 (lKiO (snm R B t (11 + R 4)) B n0 (.inl (sNx B n0 t)))) = _; unfold lKiO; rw [eM, ← nN, oB_inl, hE1]; rfl
        refine z_goto (pc := 25) C 29 dX4_readKill_25 (by decide) ?_
        refine z_istore_n (pc := 29) (lv' := [(2, _), (0, _), (1, _)]) C dX4_readKill_29 (by decide) rfl ?_
        refine z_iload_n (pc := 30) C dX4_readKill_30 0 rfl ?_
        first | refine z_ifgeN (pc := 31) C 36 dX4_readKill_31 (by decide) (by omega) (fun hc31 => ?_) (fun hc31 => ?_) | refine z_if_ge (pc := 31) C 36 dX4_readKill_31 (by decide) (fun hc31 => ?_) (fun hc31 => ?_)
        · exact absurd hc31 (by decide)
        · skip
          refine z_iconst (pc := 34) C dX4_readKill_34 (zb false) (by decide) ?_
          refine z_zret (pc := 35) C dX4_readKill_35 rfl (by first | exact zb_nar _ | rfl) (Nat.zero_le _) (Nat.zero_le _) ⟨_, rfl, ?_, rfl⟩
          first | exact cL.no (e := e1) hK hT3 hN3 n82 hD3.s G3 eF | exact cL.no (e := (1, (sNx B n0 t).2.1)) hK hT2 hN2 n82 hD2.s G2 eF
  · skip
    have o6 := nt_F hc6
    obtain ⟨e6, he6⟩ := oF_t o6
    unfold cNw at hC2
    rw [he6] at hC2
    obtain rfl : h2 = _ := hC2
    have eF : (lKi R S B n0 (.inl t)).1 = .inr e6 := by show (lKiA _ S B n0 _ (sNw R B n0 t)).1 = _; rw [he6]; rfl
    refine z_iconst (pc := 9) C dX4_readKill_9 (zb false) (by decide) ?_
    refine z_zret (pc := 10) C dX4_readKill_10 rfl (by first | exact zb_nar _ | rfl) (Nat.zero_le _) (Nat.zero_le _) ⟨_, rfl, ?_, rfl⟩
    exact cL.no hK hT0 hN0 n8 hD0.s G0 (eF)
