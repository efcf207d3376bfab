set_option maxRecDepth 20000 in
set_option maxHeartbeats 1000000 in
theorem tX4_readStray {h : ZH} {ff fa : Int32} {s le tr td nc len n0 : Nat} {K B R S c so nu ix : Nat → Nat} {t : Nat × Nat × Nat} (hK : DOK s le tr td) (h1 : h 1001 = some (zO 2 (rdf ff fa nc s))) (hT : TpA h len n0 B t) (hN4 : NT h zer c so nu) (hNT : NTp R c so nu ix nc) (hX : RX R S) (hk : sTk B n0 t) (hD : Drf h s le tr td K R S) (hc : R 5 < 3) : ZQ1 mX4_readStray 6 [.ref 1001, .int (nI (R 5))] h (fun w hh => cL h hh s le tr td K ff fa len n0 B w (lSt R S B n0 (.inl t))) := by
  intro n
  have hNm := hX.2.2.2.2.2.1
  have h2 := hT.2
  have n8 : NT8 c so nu := hNT.2.2.1
  have hKo := hK
  unfold DOK at hKo
  obtain ⟨x1, ⟨x2, x3, x4, x5, x6⟩, x7, x8, x9⟩ := id hX.1
  have hn : nc ≤ 28 := by have := hNT.2.1; omega
  have h10 := h1
  have hN0 := hN4
  have hD0 := hD
  have G0 : ∀ a, a < 1001 ∨ 1006 < a → ¬ drA s a → h a = h a := fun _ _ _ => rfl
  have hT0 := hT
  have hn2 : nc < 28 := by have := hNT.2.1; omega
  refine z_enter (lv := [(0, _), (1, _)]) (by decide) (Nat.le_of_ble_eq_true rfl) rfl (fun X C => ?_)
  refine z_aload_n (pc := 0) C dX4_readStray_0 0 rfl ?_
  refine z_iconst (pc := 1) C dX4_readStray_1 (nI 5) (by decide) ?_
  refine z_iload_n (pc := 2) C dX4_readStray_2 1 rfl ?_
  refine z_cV1Q (pc := 3) mX4_readNewName C [_, _] dX4_readStray_3 lX4_151 mtX4_readNewName (tX4_readNewName (R := R) h1 hT hN4 hNT hNm hn hk hn2) h1 rfl rfl (by decide) (Nat.le_of_ble_eq_true rfl) (Nat.zero_le _) (Nat.zero_le _) ?_
  rintro _ h2 ⟨rfl, hC2⟩
  first | refine z_ifneB (pc := 6) C 11 dX4_readStray_6 (by decide) (fun hc6 => ?_) (fun hc6 => ?_) | refine z_ifneN (pc := 6) C 11 dX4_readStray_6 (by decide) (by omega) (fun hc6 => ?_) (fun hc6 => ?_) | refine z_if_ne (pc := 6) C 11 dX4_readStray_6 (by decide) (fun hc6 => ?_) (fun hc6 => ?_)
  · skip
    have o6 := nt_T hc6
    obtain ⟨u1, u2, u3, u4⟩ := sNw_w o6
    unfold cNw at hC2
    rw [u4] at hC2
    obtain ⟨hT2, hN2, h12, Fn2⟩ := hC2
    have k2 := (sNx_ok hk).1
    have hD2 := hD.on hK (hh := h2) (fun a q => Fn2 a (by unfold drA at q; omega))
    have G2 : ∀ a, a < 1001 ∨ 1006 < a → ¬ drA s a → h2 a = h a := fun a q1 q2 => Fn2 a q1
    have h22 := hT2.2
    have n82 : NT8 (nup c nc (wCd B t)) (nup so nc 5) (nup nu nc (R 5)) := fun i hi => by have := hNT.1; rw [nup_ne (by omega), nup_ne (by omega), nup_ne (by omega)]; exact n8 i hi
    have hNT2 : NTp (nup (snm R B t (17 + R 5)) 5 (R 5 + 1)) (nup c nc (wCd B t)) (nup so nc 5) (nup nu nc (R 5)) (nup ix nc (17 + R 5)) (nc + 1) := by
      have z := NTp.new (R' := (nup (snm R B t (17 + R 5)) 5 (R 5 + 1))) (x := (17 + R 5)) hNT hNm hk o6 (by omega) (by rw [nup_same, nup_ne (by omega), nup_ne (by omega), nup_ne (by omega), snm_ne (by omega), snm_ne (by omega), snm_ne (by omega)]; omega) (fun y hy => by unfold rTo; rw [nup_same, nup_ne (by omega), nup_ne (by omega), nup_ne (by omega), snm_ne (by omega), snm_ne (by omega), snm_ne (by omega)]; omega) (by unfold rTo; omega) (fun j hj => nup_ne (by omega))
      rw [show nSo (17 + R 5) = 5 from by unfold nSo; rw [if_neg (by omega), if_neg (by omega), if_neg (by omega)], show nNu (17 + R 5) = R 5 from by unfold nNu; rw [if_neg (by omega), if_neg (by omega), if_neg (by omega)]; omega] at z
      exact z
    have hNm2 : rNm (nup (snm R B t (17 + R 5)) 5 (R 5 + 1)) := rNm_new (x := (17 + R 5)) hNm hk u1 (by omega) (fun y hy => by unfold rTo; rw [nup_same, nup_ne (by omega), nup_ne (by omega), nup_ne (by omega), snm_ne (by omega), snm_ne (by omega), snm_ne (by omega)]; omega) (fun j hj => nup_ne (by omega))
    have nN : ∀ lo hi, sNmd (nup (snm R B t (17 + R 5)) 5 (R 5 + 1)) B lo hi = sNmd (snm R B t (17 + R 5)) B lo hi := fun lo hi => sNmd_n (fun j hj => nup_ne (by omega))
    have nV : ∀ lo hi o, sNv (nup (snm R B t (17 + R 5)) 5 (R 5 + 1)) B lo hi o = sNv (snm R B t (17 + R 5)) B lo hi o := fun lo hi o => sNv_n (fun j hj => nup_ne (by omega))
    have hn3 : nc + 1 ≤ 28 := by omega
    have eL : lSt R S B n0 (.inl t) = lStA (snm R B t (17 + R 5)) S B n0 (R 5) (.inl (sNx B n0 t)) := by show lStA _ S B n0 (R 5) (sNw R B n0 t) = _; rw [u4]
    refine z_aload_n (pc := 11) C dX4_readStray_11 0 rfl ?_
    refine z_ldcS (pc := 12) (ix := 181) (i := 16) (tx := "at") C dX4_readStray_12 (show (RX4, 181, "at", 16) ∈ zSR by simp [zSR]) ?_
    refine z_cV1Q (pc := 14) mX4_readWord C [_] dX4_readStray_14 lX4_136 mtX4_readWord (tX4_readWord h12 hT2 k2 (by decide)) h12 rfl rfl (by decide) (Nat.le_of_ble_eq_true rfl) (Nat.zero_le _) (Nat.zero_le _) ?_
    rintro _ h3 ⟨rfl, hC3⟩
    first | refine z_ifeqB (pc := 17) C 28 dX4_readStray_17 (by decide) (fun hc17 => ?_) (fun hc17 => ?_) | refine z_ifeqN (pc := 17) C 28 dX4_readStray_17 (by decide) (by omega) (fun hc17 => ?_) (fun hc17 => ?_) | refine z_if_eq (pc := 17) C 28 dX4_readStray_17 (by decide) (fun hc17 => ?_) (fun hc17 => ?_)
    · skip
      have e17 : sMu B n0 (sNx B n0 t) 16 = .inr (1, (sNx B n0 t).2.1) := by unfold sMu; rw [show sspl B (sNx B n0 t) 16 = false from hc17]; rfl
      rw [e17] at hC3
      obtain rfl : h3 = _ := hC3
      have eF : (lSt R S B n0 (.inl t)).1 = .inr (1, (sNx B n0 t).2.1) := by rw [eL]; show oP B n0 (oB (oM B n0 (.inl (sNx B n0 t)) 16) (sNmd (snm R B t (17 + R 5)) B 0 6)) = _; rw [show oM B n0 (.inl (sNx B n0 t)) 16 = sMu B n0 (sNx B n0 t) 16 from rfl, e17]; rfl
      refine z_iconst (pc := 28) C dX4_readStray_28 (-1) (by decide) ?_
      refine z_istore_n (pc := 29) (lv' := [(2, _), (0, _), (1, _)]) C dX4_readStray_29 (by decide) rfl ?_
      refine z_iload_n (pc := 30) C dX4_readStray_30 0 rfl ?_
      first | refine z_ifgeN (pc := 31) C 36 dX4_readStray_31 (by decide) (by omega) (fun hc31 => ?_) (fun hc31 => ?_) | refine z_if_ge (pc := 31) C 36 dX4_readStray_31 (by decide) (fun hc31 => ?_) (fun hc31 => ?_)
      · exact absurd hc31 (by decide)
      · skip
        refine z_iconst (pc := 34) C dX4_readStray_34 (zb false) (by decide) ?_
        refine z_zret (pc := 35) C dX4_readStray_35 rfl (by first | exact zb_nar _ | rfl) (Nat.zero_le _) (Nat.zero_le _) ⟨_, rfl, ?_, rfl⟩
        first | exact cL.no (e := e1) hK hT3 hN3 n82 hD3.s G3 eF | exact cL.no (e := (1, (sNx B n0 t).2.1)) hK hT2 hN2 n82 hD2.s G2 eF
    · skip
      have e17 : sMu B n0 (sNx B n0 t) 16 = .inl (sNx B n0 (sNx B n0 t)) := by unfold sMu; rw [show sspl B (sNx B n0 t) 16 = true from hc17]; rfl
      rw [e17] at hC3
      obtain ⟨hT3, F3⟩ := hC3
      have k3 := (sNx_ok k2).1
      have h13 : h3 1001 = _ := (F3 1001 (by decide)).trans h12
      have hN3 := hN2.on (hh := h3) (fun a q1 q2 => F3 a (by omega))
      have hD3 := hD2.on hK (hh := h3) (fun a q => F3 a (by unfold drA at q; omega))
      have G3 : ∀ a, a < 1001 ∨ 1006 < a → ¬ drA s a → h3 a = h a := fun a q1 q2 => (F3 a (by omega)).trans (G2 a q1 q2)
      have h23 := hT3.2
      have eM : oM B n0 (.inl (sNx B n0 t)) 16 = .inl (sNx B n0 (sNx B n0 t)) := e17
      refine z_aload_n (pc := 20) C dX4_readStray_20 0 rfl ?_
      refine z_iconst (pc := 21) C dX4_readStray_21 (nI 1) (by decide) ?_
      refine z_cV1 (pc := 22) mX4_findName C [_] dX4_readStray_22 lX4_172 mtX4_findName (tX4_findName (R := (nup (snm R B t (17 + R 5)) 5 (R 5 + 1))) h13 hT3 hN3 hNT2 hNm2 hn3 k3 (Or.inl ⟨rfl, rfl, rfl⟩)) h13 rfl rfl (by decide) (Nat.le_of_ble_eq_true rfl) (Nat.zero_le _) (Nat.zero_le _) ?_
      rcases hE1 : sNmd (nup (snm R B t (17 + R 5)) 5 (R 5 + 1)) B 0 6 (sNx B n0 (sNx B n0 t)) with z1 | e1
      · skip
        obtain ⟨y1, v1, w1⟩ := sFv_l hE1
        obtain rfl : (sNx B n0 (sNx B n0 t)) = z1 := y1.symm
        refine z_top v1 ?_
        refine z_hp (show _ = h3 from rfl) ?_
        obtain ⟨a1, a2⟩ := sNv_to (R := (nup (snm R B t (17 + R 5)) 5 (R 5 + 1))) (B := B) (lo := 0) (hi := 6) (o := .inl (sNx B n0 (sNx B n0 t))) hNm2 (by rw [oB_inl, hE1]; rfl)
        have ha : (sNv (nup (snm R B t (17 + R 5)) 5 (R 5 + 1)) B 0 6 (.inl (sNx B n0 (sNx B n0 t)))) < 7 := by omega
        have e14 : (lSt R S B n0 (.inl t)).1 = .inl (sNx B n0 (sNx B n0 (sNx B n0 t))) := by rw [eL]; show oP B n0 (oB (oM B n0 (.inl (sNx B n0 t)) 16) (sNmd (snm R B t (17 + R 5)) B 0 6)) = _; rw [eM, ← nN, oB_inl, hE1]; rfl
        have eR : (lSt R S B n0 (.inl t)).2 = (nup (nup (snm R B t (17 + R 5)) (58 + R 5) (sNv (nup (snm R B t (17 + R 5)) 5 (R 5 + 1)) B 0 6 (.inl (sNx B n0 (sNx B n0 t))))) 5 (R 5 + 1), S) := by rw [eL]; show (nup (nup (snm R B t (17 + R 5)) (58 + R 5) (sNv (snm R B t (17 + R 5)) B 0 6 (oM B n0 (.inl (sNx B n0 t)) 16))) 5 (R 5 + 1), S) = _; rw [eM, ← nV]
        refine z_goto (pc := 25) C 29 dX4_readStray_25 (by decide) ?_
        refine z_istore_n (pc := 29) (lv' := [(2, _), (0, _), (1, _)]) C dX4_readStray_29 (by decide) rfl ?_
        refine z_iload_n (pc := 30) C dX4_readStray_30 0 rfl ?_
        first | refine z_ifgeN (pc := 31) C 36 dX4_readStray_31 (by decide) (by omega) (fun hc31 => ?_) (fun hc31 => ?_) | refine z_if_ge (pc := 31) C 36 dX4_readStray_31 (by decide) (fun hc31 => ?_) (fun hc31 => ?_)
        · skip
          refine z_aload_n (pc := 36) C dX4_readStray_36 1 rfl ?_
          refine z_getf (pc := 37) C dX4_readStray_37 fX4_12 h13 (by first | rfl | assumption) ?_
          refine z_cV0Q (pc := 40) mX7_advance C [] dX4_readStray_40 lX4_93 mtX7_advance (tX7_adv hT3 k3) h23 rfl rfl (by decide) (Nat.le_of_ble_eq_true rfl) (Nat.zero_le _) (Nat.zero_le _) ?_
          rintro h4 ⟨hT4, F4⟩
          have k4 := (sNx_ok k3).1
          have h14 : h4 1001 = _ := (F4 1001 (by decide)).trans h13
          have hNk4 := hN3.on (hh := h4) (fun a q1 q2 => F4 a (by omega))
          have hD4 := hD3.on hK (hh := h4) (fun a q => F4 a (by unfold drA at q; omega))
          have G4 : ∀ a, a < 1001 ∨ 1006 < a → ¬ drA s a → h4 a = h a := fun a q1 q2 => (F4 a (by omega)).trans (G3 a q1 q2)
          have h24 := hT4.2
          obtain ⟨fc, fh, fn, fk, fs, fg, fw, fe, fl, ft, hB⟩ := id hD4
          obtain ⟨⟨c0, c1, c2, c3, c4, c5, c6, c7, c8, c9, c10, c11⟩, r0, r1, r2, r3, r4, r5, r6, r7, r8, r9⟩ := id hB
          refine z_aload_n (pc := 43) C dX4_readStray_43 1 rfl ?_
          refine z_getf (pc := 44) C dX4_readStray_44 fX4_37 h14 (by first | rfl | assumption) ?_
          refine z_getf (pc := 47) C dX4_readStray_47 fX4_49 c9 (by first | rfl | assumption) ?_
          refine z_getf (pc := 50) C dX4_readStray_50 fX4_206 c0 (by first | rfl | assumption) ?_
          refine z_iload_n (pc := 53) C dX4_readStray_53 2 rfl ?_
          refine z_iload_n (pc := 54) C dX4_readStray_54 0 rfl ?_
          first | refine z_iastN (pc := 55) C dX4_readStray_55 c8 (by omega) (by decide) ?_ | refine z_iastI (pc := 55) C dX4_readStray_55 c8 (by omega) (by decide) ?_
          refine z_iconst (pc := 56) C dX4_readStray_56 (zb true) (by decide) ?_
          refine z_zret (pc := 57) C dX4_readStray_57 rfl (by first | exact zb_nar _ | rfl) (Nat.zero_le _) (Nat.zero_le _) ⟨_, rfl, ?_, rfl⟩
          have lo : ∀ j, j < 61 → j ≠ 5 → j ≠ 58 + R 5 → (nup (nup (snm R B t (17 + R 5)) (58 + R 5) (sNv (nup (snm R B t (17 + R 5)) 5 (R 5 + 1)) B 0 6 (.inl (sNx B n0 (sNx B n0 t))))) 5 (R 5 + 1)) j = R j := (fun j q0 q1 q2 => by rw [nup_ne q1, nup_ne q2, snm_ne q0]); exact cL.yes (l := lSt R S B n0 (.inl t)) (hT4.on (fun a q => zup_ne (by omega))) ((zup_ne (by omega)).trans h14) (hNk4.on (fun a q1 q2 => zup_ne (by omega))) (by rw [eR]; show NTp (nup (nup (snm R B t (17 + R 5)) (58 + R 5) (sNv (nup (snm R B t (17 + R 5)) 5 (R 5 + 1)) B 0 6 (.inl (sNx B n0 (sNx B n0 t))))) 5 (R 5 + 1)) _ _ _ _ _; exact hNT2.keep ⟨by rw [lo 1 (by omega) (by omega) (by omega), nup_ne (by omega), snm_ne (by omega)], by rw [lo 3 (by omega) (by omega) (by omega), nup_ne (by omega), snm_ne (by omega)], by rw [lo 4 (by omega) (by omega) (by omega), nup_ne (by omega), snm_ne (by omega)], by rw [nup_same, nup_same]⟩ (fun j hj => by rw [nup_ne (by omega), nup_ne (by omega), nup_ne (by omega)])) (by rw [eR]; show Drf _ s le tr td K (nup (nup (snm R B t (17 + R 5)) (58 + R 5) (sNv (nup (snm R B t (17 + R 5)) 5 (R 5 + 1)) B 0 6 (.inl (sNx B n0 (sNx B n0 t))))) 5 (R 5 + 1)) S; exact DrC.st (v := (sNv (nup (snm R B t (17 + R 5)) 5 (R 5 + 1)) B 0 6 (.inl (sNx B n0 (sNx B n0 t))))) hK hB x3 x4 x5 x2 hc lo (nup_same _ _ _) ((nup_ne (by omega)).trans (nup_same _ _ _))) (fun a q1 q2 => (zup_ne (by unfold drA at q2; omega)).trans (G4 a q1 q2)) e14
        · exact hc31.elim
      · skip
        refine z_top (sFv_r hE1) ?_
        refine z_hp (show _ = zup h3 1001 (zO 2 (rdf (nI e1.1) (nI e1.2) (nc + 1) s)) from rfl) ?_
        have eF : (lSt R S B n0 (.inl t)).1 = .inr e1 := by rw [eL]; show oP B n0 (oB (oM B n0 (.inl (sNx B n0 t)) 16) (sNmd (snm R B t (17 + R 5)) B 0 6)) = _; rw [eM, ← nN, oB_inl, hE1]; rfl
        refine z_goto (pc := 25) C 29 dX4_readStray_25 (by decide) ?_
        refine z_istore_n (pc := 29) (lv' := [(2, _), (0, _), (1, _)]) C dX4_readStray_29 (by decide) rfl ?_
        refine z_iload_n (pc := 30) C dX4_readStray_30 0 rfl ?_
        first | refine z_ifgeN (pc := 31) C 36 dX4_readStray_31 (by decide) (by omega) (fun hc31 => ?_) (fun hc31 => ?_) | refine z_if_ge (pc := 31) C 36 dX4_readStray_31 (by decide) (fun hc31 => ?_) (fun hc31 => ?_)
        · exact absurd hc31 (by decide)
        · skip
          refine z_iconst (pc := 34) C dX4_readStray_34 (zb false) (by decide) ?_
          refine z_zret (pc := 35) C dX4_readStray_35 rfl (by first | exact zb_nar _ | rfl) (Nat.zero_le _) (Nat.zero_le _) ⟨_, rfl, ?_, rfl⟩
          first | exact cL.no (e := e1) hK hT3 hN3 n82 hD3.s G3 eF | exact cL.no (e := (1, (sNx B n0 t).2.1)) hK hT2 hN2 n82 hD2.s G2 eF
  · skip
    have o6 := nt_F hc6
    obtain ⟨e6, he6⟩ := oF_t o6
    unfold cNw at hC2
    rw [he6] at hC2
    obtain rfl : h2 = _ := hC2
    have eF : (lSt R S B n0 (.inl t)).1 = .inr e6 := by show (lStA _ S B n0 _ (sNw R B n0 t)).1 = _; rw [he6]; rfl
    refine z_iconst (pc := 9) C dX4_readStray_9 (zb false) (by decide) ?_
    refine z_zret (pc := 10) C dX4_readStray_10 rfl (by first | exact zb_nar _ | rfl) (Nat.zero_le _) (Nat.zero_le _) ⟨_, rfl, ?_, rfl⟩
    exact cL.no hK hT0 hN0 n8 hD0.s G0 (eF)
