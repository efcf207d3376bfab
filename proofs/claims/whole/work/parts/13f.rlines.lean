theorem cL.nq {h hh : ZH} {s le tr td : Nat} {K : Nat → Nat} {ff fa : Int32} {len n nc : Nat} {B c so nu : Nat → Nat} {t : Nat × Nat × Nat} {l : TO × (Nat → Nat) × (Nat → Nat)} {e : Nat × Nat} (h1 : hh 1001 = some (zO 2 (rdf (nI e.1) (nI e.2) nc s))) (hT : TpA hh len n B t) (hN : NT hh zer c so nu) (h8 : NT8 c so nu) (hD : DrS hh s le tr td) (hF : ∀ a, a < 1001 ∨ 1006 < a → ¬ drA s a → hh a = h a) (hl : l.1 = .inr e) : cL h hh s le tr td K ff fa len n B (.int (zb false)) l := by
  refine ⟨hF, ?_⟩
  rw [hl]
  exact ⟨rfl, ⟨nc, h1⟩, ⟨_, _, _, _, _, _, hT.2⟩, hT.1, ⟨c, so, nu, hN, h8⟩, hD⟩
theorem zmax0 {v : Nat} (hv : v < 2147483648) : (if nI 0 < nI v then nI v else nI 0) = nI v := by
  split
  · rfl
  · rename_i z
    rw [nI_ltI (by decide) hv] at z
    rw [show v = 0 by omega]
theorem NT.on {h hh : ZH} {R c so nu : Nat → Nat} (hN : NT h R c so nu) (e : ∀ a, 1004 ≤ a → a ≤ 1006 → hh a = h a) : NT hh R c so nu := ⟨(e _ (by decide) (by decide)).trans hN.1, (e _ (by decide) (by decide)).trans hN.2.1, (e _ (by decide) (by decide)).trans hN.2.2⟩
theorem DrS.td {h : ZH} {s le tr td : Nat} {x : Int32} (hK : DOK s le tr td) (hD : DrS h s le tr td) : DrS (zup h td (zO 5 [.ref (td + 1), .ref (td + 2), .ref (td + 3), .ref (td + 4), .ref (td + 5), .ref (td + 6), .ref (td + 7), .ref (td + 8), .int x])) s le tr td := by
  obtain ⟨fc, fh, fn, fk, fs, fg, fw, fe, fl, ft, ra, la, sp, ⟨c0, c1, c2, c3, c4, c5, c6, c7, c8, c9, c10, c11⟩⟩ := hD
  unfold DOK at hK
  exact ⟨fc, fh, fn, fk, fs, fg, fw, fe, fl, ft, x, la, sp, ⟨zup_same _ _ _, (zup_ne (by omega)).trans c1, (zup_ne (by omega)).trans c2, (zup_ne (by omega)).trans c3, (zup_ne (by omega)).trans c4, (zup_ne (by omega)).trans c5, (zup_ne (by omega)).trans c6, (zup_ne (by omega)).trans c7, (zup_ne (by omega)).trans c8, (zup_ne (by omega)).trans c9, (zup_ne (by omega)).trans c10, (zup_ne (by omega)).trans c11⟩⟩
theorem nup_self (f : Nat → Nat) (k : Nat) : nup f k (f k) = f := by
  funext j
  unfold nup
  split
  · rename_i e; rw [e]
  · rfl
theorem nt_F {b : Bool} (h : (!b) = false) : b = true := by cases b with | true => rfl | false => cases h
theorem nt_T {b : Bool} (h : (!b) = true) : b = false := by cases b with | false => rfl | true => cases h
def lFoC (R S B : Nat → Nat) (n : Nat) (t : Nat × Nat × Nat) : TO × (Nat → Nat) × (Nat → Nat) := (sAf B n 8 100 (.inl t), nup (nup R 0 (sAv B n 8 100 (.inl t))) 8 1, S)

set_option maxRecDepth 20000 in
set_option maxHeartbeats 1000000 in
theorem tX4_readForest {h : ZH} {ff fa : Int32} {s le tr td nc len n0 : Nat} {K B R S c so nu ix : Nat → Nat} {t : Nat × Nat × Nat} (hK : DOK s le tr td) (h1 : h 1001 = some (zO 2 (rdf ff fa nc s))) (hT : TpA h len n0 B t) (hN4 : NT h zer c so nu) (hNT : NTp R c so nu ix nc) (hX : RX R S) (hk : sTk B n0 t) (hD : Drf h s le tr td K R S) : ZQ1 mX4_readForest 6 [.ref 1001] h (fun w hh => cL h hh s le tr td K ff fa len n0 B w (lFoC R S B n0 t)) := by
  intro n
  have hNm := hX.2.2.2.2.2.1
  have h2 := hT.2
  have n8 : NT8 c so nu := hNT.2.2.1
  have hKo := hK
  unfold DOK at hKo
  obtain ⟨x1, ⟨x2, x3, x4, x5, x6⟩, x7, x8, x9⟩ := id hX.1
  have hn : nc ≤ 28 := by have := hNT.2.1; omega
  have h10 := h1
  have hN0 := hN4
  have hD0 := hD
  have G0 : ∀ a, a < 1001 ∨ 1006 < a → ¬ drA s a → h a = h a := fun _ _ _ => rfl
  have hT0 := hT
  refine z_enter (lv := [(0, _)]) (by decide) (Nat.le_of_ble_eq_true rfl) rfl (fun X C => ?_)
  refine z_aload_n (pc := 0) C dX4_readForest_0 0 rfl ?_
  refine z_ldcS (pc := 1) (ix := 134) (i := 8) (tx := "dies") C dX4_readForest_1 (show (RX4, 134, "dies", 8) ∈ zSR by simp [zSR]) ?_
  refine z_cV1Q (pc := 3) mX4_readWord C [_] dX4_readForest_3 lX4_136 mtX4_readWord (tX4_readWord h1 hT hk (by decide)) h1 rfl rfl (by decide) (Nat.le_of_ble_eq_true rfl) (Nat.zero_le _) (Nat.zero_le _) ?_
  rintro _ h2 ⟨rfl, hC2⟩
  first | refine z_ifneB (pc := 6) C 11 dX4_readForest_6 (by decide) (fun hc6 => ?_) (fun hc6 => ?_) | refine z_ifneN (pc := 6) C 11 dX4_readForest_6 (by decide) (by omega) (fun hc6 => ?_) (fun hc6 => ?_) | refine z_if_ne (pc := 6) C 11 dX4_readForest_6 (by decide) (fun hc6 => ?_) (fun hc6 => ?_)
  · skip
    have e6 : sMu B n0 t 8 = .inl (sNx B n0 t) := by unfold sMu; rw [show sspl B t 8 = true from hc6]; rfl
    rw [e6] at hC2
    obtain ⟨hT2, F2⟩ := hC2
    have k2 := (sNx_ok hk).1
    have h12 : h2 1001 = _ := (F2 1001 (by decide)).trans h10
    have hN2 := hN0.on (hh := h2) (fun a q1 q2 => F2 a (by omega))
    have hD2 := hD0.on hK (hh := h2) (fun a q => F2 a (by unfold drA at q; omega))
    have G2 : ∀ a, a < 1001 ∨ 1006 < a → ¬ drA s a → h2 a = h a := fun a q1 q2 => (F2 a (by omega)).trans (G0 a q1 q2)
    have h22 := hT2.2
    refine z_aload_n (pc := 11) C dX4_readForest_11 0 rfl ?_
    refine z_bipush (pc := 12) C dX4_readForest_12 (nI 100) (by decide) ?_
    refine z_cV1Q (pc := 14) mX4_readWhole C [_] dX4_readForest_14 lX4_140 mtX4_readWhole (tX4_readWhole h12 hT2 k2 (by decide)) h12 rfl rfl (by decide) (Nat.le_of_ble_eq_true rfl) (Nat.zero_le _) (Nat.zero_le _) ?_
    rintro _ h3 ⟨rfl, hC3⟩
    rcases hE : sWh B n0 100 (sNx B n0 t) with t3 | e3
    · skip
      obtain ⟨rfl, v1, v2, v3⟩ := sWh_l hE
      refine z_top v1 ?_
      rw [hE] at hC3
      obtain ⟨hT3, F3⟩ := hC3
      have k3 := (sNx_ok k2).1
      have h13 : h3 1001 = _ := (F3 1001 (by decide)).trans h12
      have hN3 := hN2.on (hh := h3) (fun a q1 q2 => F3 a (by omega))
      have hD3 := hD2.on hK (hh := h3) (fun a q => F3 a (by unfold drA at q; omega))
      have G3 : ∀ a, a < 1001 ∨ 1006 < a → ¬ drA s a → h3 a = h a := fun a q1 q2 => (F3 a (by omega)).trans (G2 a q1 q2)
      have h23 := hT3.2
      obtain ⟨fc, fh, fn, fk, fs, fg, fw, fe, fl, ft, hB⟩ := id hD3
      obtain ⟨⟨c0, c1, c2, c3, c4, c5, c6, c7, c8, c9, c10, c11⟩, -⟩ := id hB
      have e14 : sAf B n0 8 100 (.inl t) = .inl (sNx B n0 (sNx B n0 t)) := by show oB (sMu B n0 t 8) (sWh B n0 100) = _; rw [e6]; exact hE
      have e15 : sAv B n0 8 100 (.inl t) = sVal B (sNx B n0 t) := by unfold sAv; rw [e14]; show (match sMu B n0 t 8 with | .inl t => sVal B t | .inr _ => 0) = _; rw [e6]
      refine z_istore_n (pc := 17) (lv' := [(1, _), (0, _)]) C dX4_readForest_17 (by decide) rfl ?_
      refine z_aload_n (pc := 18) C dX4_readForest_18 1 rfl ?_
      refine z_getf (pc := 19) C dX4_readForest_19 fX4_37 (by first | exact h13 | exact zup_same _ _ _) (by first | rfl | assumption) ?_
      refine z_getf (pc := 22) C dX4_readForest_22 fX4_49 (by first | exact c9 | exact (zup_ne (by omega)).trans c9) (by first | rfl | assumption) ?_
      refine z_iconst (pc := 25) C dX4_readForest_25 (nI 0) (by decide) ?_
      refine z_iload_n (pc := 26) C dX4_readForest_26 0 rfl ?_
      refine z_mmax (pc := 27) C dX4_readForest_27 lX4_143 zw_mx_s zw_mi zw_mx_c (by decide) (Nat.le_of_ble_eq_true rfl) (Nat.zero_le _) (Nat.zero_le _) ?_
      first | refine z_top (zmax0 (v := sVal B (sNx B n0 t)) (by omega)) ?_ | refine z_top (show (if nI 0 < -1 then -1 else nI 0) = nI 0 from by decide) ?_
      refine z_putf (pc := 30) (fs' := [_, _, _, _, _, _, _, _, _]) C dX4_readForest_30 gX4_149 (by first | exact c0 | exact (zup_ne (by omega)).trans c0) (fun _ => ⟨rfl, rfl⟩) (by exact Nat.le_of_ble_eq_true rfl) (by rfl) ?_
      refine z_iload_n (pc := 33) C dX4_readForest_33 0 rfl ?_
      first | refine z_ifltN (pc := 34) C 41 dX4_readForest_34 (by decide) (by omega) (fun hc34 => ?_) (fun hc34 => ?_) | refine z_if_lt (pc := 34) C 41 dX4_readForest_34 (by decide) (fun hc34 => ?_) (fun hc34 => ?_)
      · exact hc34.elim
      · skip
        refine z_iconst (pc := 37) C dX4_readForest_37 (zb true) (by decide) ?_
        refine z_goto (pc := 38) C 42 dX4_readForest_38 (by decide) ?_
        refine z_zret (pc := 42) C dX4_readForest_42 rfl (by first | exact zb_nar _ | rfl) (Nat.zero_le _) (Nat.zero_le _) ⟨_, rfl, ?_, rfl⟩
        first | exact cL.nq (e := e3) ((zup_ne (by omega)).trans (zup_same _ _ _)) (hT2.on (fun a q => (zup_ne (by omega)).trans (zup_ne (by omega)))) (hN2.on (fun a q1 q2 => (zup_ne (by omega)).trans (zup_ne (by omega)))) n8 ((hD2.s.on hK (fun a q => zup_ne (by unfold drA at q; omega))).td hK) (fun a q1 q2 => (zup_ne (by unfold drA at q2; omega)).trans ((zup_ne (by omega)).trans (G2 a q1 q2))) e14 | exact cL.yes (l := lFoC R S B n0 t) (hT3.on (fun a q => zup_ne (by omega))) ((zup_ne (by omega)).trans h13) (hN3.on (fun a q1 q2 => zup_ne (by omega))) (hNT.keep ⟨rfl, rfl, rfl, rfl⟩ (fun j hj => (nup_ne (by omega)).trans (nup_ne (by omega)))) (DrC.fo hK hB x3 x4 x5 x2 (by show nup (nup R 0 (sAv B n0 8 100 (.inl t))) 8 1 0 = _; rw [nup_ne (by decide), nup_same, e15]) (fun j q1 q2 => (nup_ne q2).trans (nup_ne q1))) (fun a q1 q2 => (zup_ne (by unfold drA at q2; omega)).trans (G3 a q1 q2)) e14
    · skip
      refine z_top (sWh_r hE) ?_
      rw [hE] at hC3
      obtain rfl : h3 = _ := hC3
      obtain ⟨fc, fh, fn, fk, fs, fg, fw, fe, fl, ft, hB⟩ := id hD2
      obtain ⟨⟨c0, c1, c2, c3, c4, c5, c6, c7, c8, c9, c10, c11⟩, -⟩ := id hB
      have e14 : sAf B n0 8 100 (.inl t) = .inr e3 := by show oB (sMu B n0 t 8) (sWh B n0 100) = _; rw [e6]; exact hE
      refine z_istore_n (pc := 17) (lv' := [(1, _), (0, _)]) C dX4_readForest_17 (by decide) rfl ?_
      refine z_aload_n (pc := 18) C dX4_readForest_18 1 rfl ?_
      refine z_getf (pc := 19) C dX4_readForest_19 fX4_37 (by first | exact h13 | exact zup_same _ _ _) (by first | rfl | assumption) ?_
      refine z_getf (pc := 22) C dX4_readForest_22 fX4_49 (by first | exact c9 | exact (zup_ne (by omega)).trans c9) (by first | rfl | assumption) ?_
      refine z_iconst (pc := 25) C dX4_readForest_25 (nI 0) (by decide) ?_
      refine z_iload_n (pc := 26) C dX4_readForest_26 0 rfl ?_
      refine z_mmax (pc := 27) C dX4_readForest_27 lX4_143 zw_mx_s zw_mi zw_mx_c (by decide) (Nat.le_of_ble_eq_true rfl) (Nat.zero_le _) (Nat.zero_le _) ?_
      first | refine z_top (zmax0 (v := sVal B (sNx B n0 t)) (by omega)) ?_ | refine z_top (show (if nI 0 < -1 then -1 else nI 0) = nI 0 from by decide) ?_
      refine z_putf (pc := 30) (fs' := [_, _, _, _, _, _, _, _, _]) C dX4_readForest_30 gX4_149 (by first | exact c0 | exact (zup_ne (by omega)).trans c0) (fun _ => ⟨rfl, rfl⟩) (by exact Nat.le_of_ble_eq_true rfl) (by rfl) ?_
      refine z_iload_n (pc := 33) C dX4_readForest_33 0 rfl ?_
      first | refine z_ifltN (pc := 34) C 41 dX4_readForest_34 (by decide) (by omega) (fun hc34 => ?_) (fun hc34 => ?_) | refine z_if_lt (pc := 34) C 41 dX4_readForest_34 (by decide) (fun hc34 => ?_) (fun hc34 => ?_)
      · skip
        refine z_iconst (pc := 41) C dX4_readForest_41 (zb false) (by decide) ?_
        refine z_zret (pc := 42) C dX4_readForest_42 rfl (by first | exact zb_nar _ | rfl) (Nat.zero_le _) (Nat.zero_le _) ⟨_, rfl, ?_, rfl⟩
        first | exact cL.nq (e := e3) ((zup_ne (by omega)).trans (zup_same _ _ _)) (hT2.on (fun a q => (zup_ne (by omega)).trans (zup_ne (by omega)))) (hN2.on (fun a q1 q2 => (zup_ne (by omega)).trans (zup_ne (by omega)))) n8 ((hD2.s.on hK (fun a q => zup_ne (by unfold drA at q; omega))).td hK) (fun a q1 q2 => (zup_ne (by unfold drA at q2; omega)).trans ((zup_ne (by omega)).trans (G2 a q1 q2))) e14 | exact cL.yes (l := lFoC R S B n0 t) (hT3.on (fun a q => zup_ne (by omega))) ((zup_ne (by omega)).trans h13) (hN3.on (fun a q1 q2 => zup_ne (by omega))) (hNT.keep ⟨rfl, rfl, rfl, rfl⟩ (fun j hj => (nup_ne (by omega)).trans (nup_ne (by omega)))) (DrC.fo hK hB x3 x4 x5 x2 (by show nup (nup R 0 (sAv B n0 8 100 (.inl t))) 8 1 0 = _; rw [nup_ne (by decide), nup_same, e15]) (fun j q1 q2 => (nup_ne q2).trans (nup_ne q1))) (fun a q1 q2 => (zup_ne (by unfold drA at q2; omega)).trans (G3 a q1 q2)) e14
      · exact absurd (by decide) hc34
  · skip
    have e6 : sMu B n0 t 8 = .inr (1, t.2.1) := by unfold sMu; rw [show sspl B t 8 = false from hc6]; rfl
    rw [e6] at hC2
    obtain rfl : h2 = _ := hC2
    refine z_iconst (pc := 9) C dX4_readForest_9 (zb false) (by decide) ?_
    refine z_zret (pc := 10) C dX4_readForest_10 rfl (by first | exact zb_nar _ | rfl) (Nat.zero_le _) (Nat.zero_le _) ⟨_, rfl, ?_, rfl⟩
    exact cL.no hK hT0 hN0 n8 hD0.s G0 (show oB (sMu B n0 t 8) (sWh B n0 100) = _ from by rw [e6]; rfl)

set_option maxRecDepth 20000 in
set_option maxHeartbeats 1000000 in
theorem tX4_readPlace {h : ZH} {ff fa : Int32} {s le tr td nc len n0 : Nat} {K B R S c so nu ix : Nat → Nat} {t : Nat × Nat × Nat} (hK : DOK s le tr td) (h1 : h 1001 = some (zO 2 (rdf ff fa nc s))) (hT : TpA h len n0 B t) (hN4 : NT h zer c so nu) (hNT : NTp R c so nu ix nc) (hX : RX R S) (hk : sTk B n0 t) (hD : Drf h s le tr td K R S) (hc : R 1 < 7) : ZQ1 mX4_readPlace 6 [.ref 1001, .int (nI (R 1))] h (fun w hh => cL h hh s le tr td K ff fa len n0 B w (lPl R S B n0 (.inl t))) := by
  intro n
  have hNm := hX.2.2.2.2.2.1
  have h2 := hT.2
  have n8 : NT8 c so nu := hNT.2.2.1
  have hKo := hK
  unfold DOK at hKo
  obtain ⟨x1, ⟨x2, x3, x4, x5, x6⟩, x7, x8, x9⟩ := id hX.1
  have hn : nc ≤ 28 := by have := hNT.2.1; omega
  have h10 := h1
  have hN0 := hN4
  have hD0 := hD
  have G0 : ∀ a, a < 1001 ∨ 1006 < a → ¬ drA s a → h a = h a := fun _ _ _ => rfl
  have hT0 := hT
  have hn2 : nc < 28 := by have := hNT.2.1; omega
  refine z_enter (lv := [(0, _), (1, _)]) (by decide) (Nat.le_of_ble_eq_true rfl) rfl (fun X C => ?_)
  refine z_aload_n (pc := 0) C dX4_readPlace_0 0 rfl ?_
  refine z_iconst (pc := 1) C dX4_readPlace_1 (nI 1) (by decide) ?_
  refine z_iload_n (pc := 2) C dX4_readPlace_2 1 rfl ?_
  refine z_cV1Q (pc := 3) mX4_readNewName C [_, _] dX4_readPlace_3 lX4_151 mtX4_readNewName (tX4_readNewName (R := R) h1 hT hN4 hNT hNm hn hk hn2) h1 rfl rfl (by decide) (Nat.le_of_ble_eq_true rfl) (Nat.zero_le _) (Nat.zero_le _) ?_
  rintro _ h2 ⟨rfl, hC2⟩
  first | refine z_ifneB (pc := 6) C 11 dX4_readPlace_6 (by decide) (fun hc6 => ?_) (fun hc6 => ?_) | refine z_ifneN (pc := 6) C 11 dX4_readPlace_6 (by decide) (by omega) (fun hc6 => ?_) (fun hc6 => ?_) | refine z_if_ne (pc := 6) C 11 dX4_readPlace_6 (by decide) (fun hc6 => ?_) (fun hc6 => ?_)
  · skip
    have o6 := nt_T hc6
    obtain ⟨u1, u2, u3, u4⟩ := sNw_w o6
    unfold cNw at hC2
    rw [u4] at hC2
    obtain ⟨hT2, hN2, h12, Fn2⟩ := hC2
    have k2 := (sNx_ok hk).1
    have hD2 := hD.on hK (hh := h2) (fun a q => Fn2 a (by unfold drA at q; omega))
    have G2 : ∀ a, a < 1001 ∨ 1006 < a → ¬ drA s a → h2 a = h a := fun a q1 q2 => Fn2 a q1
    have h22 := hT2.2
    have n82 : NT8 (nup c nc (wCd B t)) (nup so nc 1) (nup nu nc (R 1)) := fun i hi => by have := hNT.1; rw [nup_ne (by omega), nup_ne (by omega), nup_ne (by omega)]; exact n8 i hi
    have eL : lPl R S B n0 (.inl t) = lPlA (snm R B t (R 1)) S B n0 (R 1) (.inl (sNx B n0 t)) := by show lPlA _ S B n0 (R 1) (sNw R B n0 t) = _; rw [u4]
    refine z_aload_n (pc := 11) C dX4_readPlace_11 0 rfl ?_
    refine z_getf (pc := 12) C dX4_readPlace_12 fX4_12 h12 (by first | rfl | assumption) ?_
    refine z_ldcS (pc := 15) (ix := 155) (i := 9) (tx := "lit") C dX4_readPlace_15 (show (RX4, 155, "lit", 9) ∈ zSR by simp [zSR]) ?_
    refine z_cV1 (pc := 17) mX7_spells C [_] dX4_readPlace_17 lX4_157 mtX7_spells (tX7_spells (by decide) hT2 k2) h22 rfl rfl (by decide) (Nat.le_of_ble_eq_true rfl) (Nat.zero_le _) (Nat.zero_le _) ?_
    refine z_istore_n (pc := 20) (lv' := [(2, _), (0, _), (1, _)]) C dX4_readPlace_20 (by decide) rfl ?_
    refine z_iload_n (pc := 21) C dX4_readPlace_21 0 rfl ?_
    first | refine z_ifneB (pc := 22) C 43 dX4_readPlace_22 (by decide) (fun hc22 => ?_) (fun hc22 => ?_) | refine z_ifneN (pc := 22) C 43 dX4_readPlace_22 (by decide) (by omega) (fun hc22 => ?_) (fun hc22 => ?_) | refine z_if_ne (pc := 22) C 43 dX4_readPlace_22 (by decide) (fun hc22 => ?_) (fun hc22 => ?_)
    · skip
      have e9 : sspl B (sNx B n0 t) 9 = true := hc22
      have eO3 : (if oW B (.inl (sNx B n0 t)) 9 then oT B n0 (.inl (sNx B n0 t)) 9 else oM B n0 (oT B n0 (.inl (sNx B n0 t)) 9) 10) = .inl (sNx B n0 (sNx B n0 t)) := by rw [show oW B (.inl (sNx B n0 t)) 9 = true from e9]; show (.inl (if sspl B (sNx B n0 t) 9 = true then sNx B n0 (sNx B n0 t) else (sNx B n0 t)) : TO) = _; rw [if_pos e9]
      refine z_aload_n (pc := 43) C dX4_readPlace_43 1 rfl ?_
      refine z_getf (pc := 44) C dX4_readPlace_44 fX4_12 h12 (by first | rfl | assumption) ?_
      refine z_cV0Q (pc := 47) mX7_advance C [] dX4_readPlace_47 lX4_93 mtX7_advance (tX7_adv hT2 k2) h22 rfl rfl (by decide) (Nat.le_of_ble_eq_true rfl) (Nat.zero_le _) (Nat.zero_le _) ?_
      rintro h3 ⟨hT3, F3⟩
      have k3 := (sNx_ok k2).1
      have h13 : h3 1001 = _ := (F3 1001 (by decide)).trans h12
      have hN3 := hN2.on (hh := h3) (fun a q1 q2 => F3 a (by omega))
      have hD3 := hD2.on hK (hh := h3) (fun a q => F3 a (by unfold drA at q; omega))
      have G3 : ∀ a, a < 1001 ∨ 1006 < a → ¬ drA s a → h3 a = h a := fun a q1 q2 => (F3 a (by omega)).trans (G2 a q1 q2)
      have h23 := hT3.2
      refine z_aload_n (pc := 50) C dX4_readPlace_50 1 rfl ?_
      refine z_ldcS (pc := 51) (ix := 162) (i := 11) (tx := "holds") C dX4_readPlace_51 (show (RX4, 162, "holds", 11) ∈ zSR by simp [zSR]) ?_
      refine z_cV1Q (pc := 53) mX4_readWord C [_] dX4_readPlace_53 lX4_136 mtX4_readWord (tX4_readWord h13 hT3 k3 (by decide)) h13 rfl rfl (by decide) (Nat.le_of_ble_eq_true rfl) (Nat.zero_le _) (Nat.zero_le _) ?_
      rintro _ h4 ⟨rfl, hC4⟩
      first | refine z_ifneB (pc := 56) C 61 dX4_readPlace_56 (by decide) (fun hc56 => ?_) (fun hc56 => ?_) | refine z_ifneN (pc := 56) C 61 dX4_readPlace_56 (by decide) (by omega) (fun hc56 => ?_) (fun hc56 => ?_) | refine z_if_ne (pc := 56) C 61 dX4_readPlace_56 (by decide) (fun hc56 => ?_) (fun hc56 => ?_)
      · skip
        have e56 : sMu B n0 (sNx B n0 (sNx B n0 t)) 11 = .inl (sNx B n0 (sNx B n0 (sNx B n0 t))) := by unfold sMu; rw [show sspl B (sNx B n0 (sNx B n0 t)) 11 = true from hc56]; rfl
        rw [e56] at hC4
        obtain ⟨hT4, F4⟩ := hC4
        have k4 := (sNx_ok k3).1
        have h14 : h4 1001 = _ := (F4 1001 (by decide)).trans h13
        have hN4 := hN3.on (hh := h4) (fun a q1 q2 => F4 a (by omega))
        have hD4 := hD3.on hK (hh := h4) (fun a q => F4 a (by unfold drA at q; omega))
        have G4 : ∀ a, a < 1001 ∨ 1006 < a → ¬ drA s a → h4 a = h a := fun a q1 q2 => (F4 a (by omega)).trans (G3 a q1 q2)
        have h24 := hT4.2
        refine z_aload_n (pc := 61) C dX4_readPlace_61 1 rfl ?_
        refine z_bipush (pc := 62) C dX4_readPlace_62 (nI 9) (by decide) ?_
        refine z_cV1Q (pc := 64) mX4_readWhole C [_] dX4_readPlace_64 lX4_140 mtX4_readWhole (tX4_readWhole h14 hT4 k4 (by decide)) h14 rfl rfl (by decide) (Nat.le_of_ble_eq_true rfl) (Nat.zero_le _) (Nat.zero_le _) ?_
        rintro _ h5 ⟨rfl, hC5⟩
        rcases hE : sWh B n0 9 (sNx B n0 (sNx B n0 (sNx B n0 t))) with z5 | e5
        · skip
          obtain ⟨rfl, v1, v2, v3⟩ := sWh_l hE
          refine z_top v1 ?_
          rw [hE] at hC5
          obtain ⟨hT5, F5⟩ := hC5
          have k5 := (sNx_ok k4).1
          have h15 : h5 1001 = _ := (F5 1001 (by decide)).trans h14
          have hN5 := hN4.on (hh := h5) (fun a q1 q2 => F5 a (by omega))
          have hD5 := hD4.on hK (hh := h5) (fun a q => F5 a (by unfold drA at q; omega))
          have G5 : ∀ a, a < 1001 ∨ 1006 < a → ¬ drA s a → h5 a = h a := fun a q1 q2 => (F5 a (by omega)).trans (G4 a q1 q2)
          have h25 := hT5.2
          obtain ⟨fc, fh, fn, fk, fs, fg, fw, fe, fl, ft, hB⟩ := id hD5
          obtain ⟨⟨c0, c1, c2, c3, c4, c5, c6, c7, c8, c9, c10, c11⟩, -⟩ := id hB
          have e14 : sAf B n0 11 9 (.inl (sNx B n0 (sNx B n0 t))) = .inl (sNx B n0 (sNx B n0 (sNx B n0 (sNx B n0 t)))) := by show oB (sMu B n0 (sNx B n0 (sNx B n0 t)) 11) (sWh B n0 9) = _; rw [e56]; exact hE
          have e15 : sAv B n0 11 9 (.inl (sNx B n0 (sNx B n0 t))) = sVal B (sNx B n0 (sNx B n0 (sNx B n0 t))) := by unfold sAv; rw [e14]; show (match sMu B n0 (sNx B n0 (sNx B n0 t)) 11 with | .inl t => sVal B t | .inr _ => 0) = _; rw [e56]
          have eR : (lPl R S B n0 (.inl t)).2.1 = nup (nup (snm R B t (R 1)) (9 + R 1) (sVal B (sNx B n0 (sNx B n0 (sNx B n0 t))))) 1 (R 1 + 1) := by rw [eL]; show nup (nup _ _ (sAv B n0 11 9 (if oW B (.inl (sNx B n0 t)) 9 then oT B n0 (.inl (sNx B n0 t)) 9 else oM B n0 (oT B n0 (.inl (sNx B n0 t)) 9) 10))) 1 (R 1 + 1) = _; rw [eO3, e15]
          have eS : (lPl R S B n0 (.inl t)).2.2 = nup S 38 (S 38 ||| if sspl B (sNx B n0 t) 9 = true then 1 <<< R 1 else 0) := by rw [eL]; rfl
          have hP : NTp (nup (nup (snm R B t (R 1)) (9 + R 1) (sVal B (sNx B n0 (sNx B n0 (sNx B n0 t))))) 1 (R 1 + 1)) (nup c nc (wCd B t)) (nup so nc 1) (nup nu nc (R 1)) (nup ix nc (R 1)) (nc + 1) := by
            have z := NTp.new (R' := nup (nup (snm R B t (R 1)) (9 + R 1) (sVal B (sNx B n0 (sNx B n0 (sNx B n0 t))))) 1 (R 1 + 1)) (x := R 1) hNT hNm hk o6 (by omega) (by rw [nup_same, nup_ne (by omega), nup_ne (by omega), nup_ne (by omega), nup_ne (by omega), nup_ne (by omega), nup_ne (by omega), snm_ne (by omega), snm_ne (by omega), snm_ne (by omega)]; omega) (fun y hy => by unfold rTo; rw [nup_same, nup_ne (by omega), nup_ne (by omega), nup_ne (by omega), nup_ne (by omega), nup_ne (by omega), nup_ne (by omega), snm_ne (by omega), snm_ne (by omega), snm_ne (by omega)]; omega) (by unfold rTo; omega) (fun j hj => (nup_ne (by omega)).trans (nup_ne (by omega)))
            rw [show nSo (R 1) = 1 from if_pos (by omega), show nNu (R 1) = R 1 from if_pos (by omega)] at z
            exact z
          have hQ := DrC.pl (R2 := nup (nup (snm R B t (R 1)) (9 + R 1) (sVal B (sNx B n0 (sNx B n0 (sNx B n0 t))))) 1 (R 1 + 1)) (v := sVal B (sNx B n0 (sNx B n0 (sNx B n0 t)))) hK hB x3 x4 x5 x2 hc (fun j q0 q1 q2 => (nup_ne q1).trans ((nup_ne q2).trans (snm_ne q0))) (nup_same _ _ _) ((nup_ne (by omega)).trans (nup_same _ _ _))
          refine z_istore_n (pc := 67) (lv' := [(3, _), (2, _), (0, _), (1, _)]) C dX4_readPlace_67 (by decide) rfl ?_
          refine z_iload_n (pc := 68) C dX4_readPlace_68 0 rfl ?_
          first | refine z_ifgeN (pc := 69) C 74 dX4_readPlace_69 (by decide) (by omega) (fun hc69 => ?_) (fun hc69 => ?_) | refine z_if_ge (pc := 69) C 74 dX4_readPlace_69 (by decide) (fun hc69 => ?_) (fun hc69 => ?_)
          · skip
            refine z_aload_n (pc := 74) C dX4_readPlace_74 2 rfl ?_
            refine z_getf (pc := 75) C dX4_readPlace_75 fX4_37 h15 (by first | rfl | assumption) ?_
            refine z_getf (pc := 78) C dX4_readPlace_78 fX4_49 c9 (by first | rfl | assumption) ?_
            refine z_getf (pc := 81) C dX4_readPlace_81 fX4_164 c0 (by first | rfl | assumption) ?_
            refine z_iload_n (pc := 84) C dX4_readPlace_84 3 rfl ?_
            refine z_iload_n (pc := 85) C dX4_readPlace_85 0 rfl ?_
            first | refine z_iastN (pc := 86) C dX4_readPlace_86 c2 (by omega) (by decide) ?_ | refine z_iastI (pc := 86) C dX4_readPlace_86 c2 (by omega) (by decide) ?_
            refine z_iload_n (pc := 87) C dX4_readPlace_87 1 rfl ?_
            first | refine z_ifeqB (pc := 88) C 99 dX4_readPlace_88 (by decide) (fun hc88 => ?_) (fun hc88 => ?_) | refine z_ifeqN (pc := 88) C 99 dX4_readPlace_88 (by decide) (by omega) (fun hc88 => ?_) (fun hc88 => ?_) | refine z_if_eq (pc := 88) C 99 dX4_readPlace_88 (by decide) (fun hc88 => ?_) (fun hc88 => ?_)
            · rw [e9] at hc88; cases hc88
            · skip
              refine z_aload_n (pc := 91) C dX4_readPlace_91 2 rfl ?_
              refine z_getf (pc := 92) C dX4_readPlace_92 fX4_37 ((zup_ne (by omega)).trans h15) (by first | rfl | assumption) ?_
              refine z_iload_n (pc := 95) C dX4_readPlace_95 3 rfl ?_
              refine z_cV0 (pc := 96) mX5_turnLamp C [_] dX4_readPlace_96 lX4_166 mtX5_turnLamp (tX5_turnLamp ((zup_ne (by omega)).trans c9) (by omega)) ((zup_ne (by omega)).trans c9) rfl rfl (by decide) (Nat.le_of_ble_eq_true rfl) (Nat.zero_le _) (Nat.zero_le _) ?_
              refine z_iconst (pc := 99) C dX4_readPlace_99 (zb true) (by decide) ?_
              refine z_zret (pc := 100) C dX4_readPlace_100 rfl (by first | exact zb_nar _ | rfl) (Nat.zero_le _) (Nat.zero_le _) ⟨_, rfl, ?_, rfl⟩
              first | exact cL.yes (l := lPl R S B n0 (.inl t)) (hT5.on (fun a q => (zup_ne (by omega)).trans (zup_ne (by omega)))) ((zup_ne (by omega)).trans ((zup_ne (by omega)).trans h15)) (hN5.on (fun a q1 q2 => (zup_ne (by omega)).trans (zup_ne (by omega)))) (by rw [eR]; exact hP) (by rw [eR, eS, if_pos e9, ← xor_or hX.2.2.2.2.2.2.1]; exact Drf.la hK (by rw [nup_ne (by omega), nup_ne (by omega), snm_ne (by omega)]; exact x3) (by rw [nup_ne (by omega), nup_ne (by omega), snm_ne (by omega)]; exact x4) hQ) (fun a q1 q2 => (zup_ne (by unfold drA at q2; omega)).trans ((zup_ne (by unfold drA at q2; omega)).trans (G5 a q1 q2))) (by rw [eL]; show sAf B n0 11 9 (if oW B (.inl (sNx B n0 t)) 9 then oT B n0 (.inl (sNx B n0 t)) 9 else oM B n0 (oT B n0 (.inl (sNx B n0 t)) 9) 10) = _; rw [eO3]; exact e14) | exact cL.yes (l := lPl R S B n0 (.inl t)) (hT5.on (fun a q => zup_ne (by omega))) ((zup_ne (by omega)).trans h15) (hN5.on (fun a q1 q2 => zup_ne (by omega))) (by rw [eR]; exact hP) (by rw [eR, eS, e9, show (if false = true then 1 <<< R 1 else 0) = 0 from rfl, Nat.or_zero, nup_self]; exact hQ) (fun a q1 q2 => (zup_ne (by unfold drA at q2; omega)).trans (G5 a q1 q2)) (by rw [eL]; show sAf B n0 11 9 (if oW B (.inl (sNx B n0 t)) 9 then oT B n0 (.inl (sNx B n0 t)) 9 else oM B n0 (oT B n0 (.inl (sNx B n0 t)) 9) 10) = _; rw [eO3]; exact e14)
          · exact hc69.elim
        · skip
          refine z_top (sWh_r hE) ?_
          rw [hE] at hC5
          obtain rfl : h5 = _ := hC5
          have e14 : sAf B n0 11 9 (.inl (sNx B n0 (sNx B n0 t))) = .inr e5 := by show oB (sMu B n0 (sNx B n0 (sNx B n0 t)) 11) (sWh B n0 9) = _; rw [e56]; exact hE
          refine z_istore_n (pc := 67) (lv' := [(3, _), (2, _), (0, _), (1, _)]) C dX4_readPlace_67 (by decide) rfl ?_
          refine z_iload_n (pc := 68) C dX4_readPlace_68 0 rfl ?_
          first | refine z_ifgeN (pc := 69) C 74 dX4_readPlace_69 (by decide) (by omega) (fun hc69 => ?_) (fun hc69 => ?_) | refine z_if_ge (pc := 69) C 74 dX4_readPlace_69 (by decide) (fun hc69 => ?_) (fun hc69 => ?_)
          · exact absurd hc69 (by decide)
          · skip
            refine z_iconst (pc := 72) C dX4_readPlace_72 (zb false) (by decide) ?_
            refine z_zret (pc := 73) C dX4_readPlace_73 rfl (by first | exact zb_nar _ | rfl) (Nat.zero_le _) (Nat.zero_le _) ⟨_, rfl, ?_, rfl⟩
            exact cL.no   hK hT4 hN4 n82 hD4.s G4 (by rw [eL]; show sAf B n0 11 9 (if oW B (.inl (sNx B n0 t)) 9 then oT B n0 (.inl (sNx B n0 t)) 9 else oM B n0 (oT B n0 (.inl (sNx B n0 t)) 9) 10) = _; rw [eO3]; exact e14)
      · skip
        have e56 : sMu B n0 (sNx B n0 (sNx B n0 t)) 11 = .inr (1, (sNx B n0 (sNx B n0 t)).2.1) := by unfold sMu; rw [show sspl B (sNx B n0 (sNx B n0 t)) 11 = false from hc56]; rfl
        rw [e56] at hC4
        obtain rfl : h4 = _ := hC4
        refine z_iconst (pc := 59) C dX4_readPlace_59 (zb false) (by decide) ?_
        refine z_zret (pc := 60) C dX4_readPlace_60 rfl (by first | exact zb_nar _ | rfl) (Nat.zero_le _) (Nat.zero_le _) ⟨_, rfl, ?_, rfl⟩
        exact cL.no   hK hT3 hN3 n82 hD3.s G3 (by rw [eL]; show sAf B n0 11 9 (if oW B (.inl (sNx B n0 t)) 9 then oT B n0 (.inl (sNx B n0 t)) 9 else oM B n0 (oT B n0 (.inl (sNx B n0 t)) 9) 10) = _; rw [eO3]; show oB (sMu B n0 (sNx B n0 (sNx B n0 t)) 11) (sWh B n0 9) = _; rw [e56]; rfl)
    · skip
      have e9 : sspl B (sNx B n0 t) 9 = false := hc22
      have eO2 : (if oW B (.inl (sNx B n0 t)) 9 then oT B n0 (.inl (sNx B n0 t)) 9 else oM B n0 (oT B n0 (.inl (sNx B n0 t)) 9) 10) = sMu B n0 (sNx B n0 t) 10 := by rw [show oW B (.inl (sNx B n0 t)) 9 = false from e9]; show sMu B n0 (if sspl B (sNx B n0 t) 9 = true then sNx B n0 (sNx B n0 t) else (sNx B n0 t)) 10 = _; rw [e9]; rfl
      refine z_aload_n (pc := 25) C dX4_readPlace_25 1 rfl ?_
      refine z_getf (pc := 26) C dX4_readPlace_26 fX4_12 h12 (by first | rfl | assumption) ?_
      refine z_ldcS (pc := 29) (ix := 160) (i := 10) (tx := "dark") C dX4_readPlace_29 (show (RX4, 160, "dark", 10) ∈ zSR by simp [zSR]) ?_
      refine z_cV1 (pc := 31) mX7_spells C [_] dX4_readPlace_31 lX4_157 mtX7_spells (tX7_spells (by decide) hT2 k2) h22 rfl rfl (by decide) (Nat.le_of_ble_eq_true rfl) (Nat.zero_le _) (Nat.zero_le _) ?_
      first | refine z_ifneB (pc := 34) C 43 dX4_readPlace_34 (by decide) (fun hc34 => ?_) (fun hc34 => ?_) | refine z_ifneN (pc := 34) C 43 dX4_readPlace_34 (by decide) (by omega) (fun hc34 => ?_) (fun hc34 => ?_) | refine z_if_ne (pc := 34) C 43 dX4_readPlace_34 (by decide) (fun hc34 => ?_) (fun hc34 => ?_)
      · skip
        have eO3 : (if oW B (.inl (sNx B n0 t)) 9 then oT B n0 (.inl (sNx B n0 t)) 9 else oM B n0 (oT B n0 (.inl (sNx B n0 t)) 9) 10) = .inl (sNx B n0 (sNx B n0 t)) := by rw [eO2]; unfold sMu; rw [show sspl B (sNx B n0 t) 10 = true from hc34]; rfl
        refine z_aload_n (pc := 43) C dX4_readPlace_43 1 rfl ?_
        refine z_getf (pc := 44) C dX4_readPlace_44 fX4_12 h12 (by first | rfl | assumption) ?_
        refine z_cV0Q (pc := 47) mX7_advance C [] dX4_readPlace_47 lX4_93 mtX7_advance (tX7_adv hT2 k2) h22 rfl rfl (by decide) (Nat.le_of_ble_eq_true rfl) (Nat.zero_le _) (Nat.zero_le _) ?_
        rintro h3 ⟨hT3, F3⟩
        have k3 := (sNx_ok k2).1
        have h13 : h3 1001 = _ := (F3 1001 (by decide)).trans h12
        have hN3 := hN2.on (hh := h3) (fun a q1 q2 => F3 a (by omega))
        have hD3 := hD2.on hK (hh := h3) (fun a q => F3 a (by unfold drA at q; omega))
        have G3 : ∀ a, a < 1001 ∨ 1006 < a → ¬ drA s a → h3 a = h a := fun a q1 q2 => (F3 a (by omega)).trans (G2 a q1 q2)
        have h23 := hT3.2
        refine z_aload_n (pc := 50) C dX4_readPlace_50 1 rfl ?_
        refine z_ldcS (pc := 51) (ix := 162) (i := 11) (tx := "holds") C dX4_readPlace_51 (show (RX4, 162, "holds", 11) ∈ zSR by simp [zSR]) ?_
        refine z_cV1Q (pc := 53) mX4_readWord C [_] dX4_readPlace_53 lX4_136 mtX4_readWord (tX4_readWord h13 hT3 k3 (by decide)) h13 rfl rfl (by decide) (Nat.le_of_ble_eq_true rfl) (Nat.zero_le _) (Nat.zero_le _) ?_
        rintro _ h4 ⟨rfl, hC4⟩
        first | refine z_ifneB (pc := 56) C 61 dX4_readPlace_56 (by decide) (fun hc56 => ?_) (fun hc56 => ?_) | refine z_ifneN (pc := 56) C 61 dX4_readPlace_56 (by decide) (by omega) (fun hc56 => ?_) (fun hc56 => ?_) | refine z_if_ne (pc := 56) C 61 dX4_readPlace_56 (by decide) (fun hc56 => ?_) (fun hc56 => ?_)
        · skip
          have e56 : sMu B n0 (sNx B n0 (sNx B n0 t)) 11 = .inl (sNx B n0 (sNx B n0 (sNx B n0 t))) := by unfold sMu; rw [show sspl B (sNx B n0 (sNx B n0 t)) 11 = true from hc56]; rfl
          rw [e56] at hC4
          obtain ⟨hT4, F4⟩ := hC4
          have k4 := (sNx_ok k3).1
          have h14 : h4 1001 = _ := (F4 1001 (by decide)).trans h13
          have hN4 := hN3.on (hh := h4) (fun a q1 q2 => F4 a (by omega))
          have hD4 := hD3.on hK (hh := h4) (fun a q => F4 a (by unfold drA at q; omega))
          have G4 : ∀ a, a < 1001 ∨ 1006 < a → ¬ drA s a → h4 a = h a := fun a q1 q2 => (F4 a (by omega)).trans (G3 a q1 q2)
          have h24 := hT4.2
          refine z_aload_n (pc := 61) C dX4_readPlace_61 1 rfl ?_
          refine z_bipush (pc := 62) C dX4_readPlace_62 (nI 9) (by decide) ?_
          refine z_cV1Q (pc := 64) mX4_readWhole C [_] dX4_readPlace_64 lX4_140 mtX4_readWhole (tX4_readWhole h14 hT4 k4 (by decide)) h14 rfl rfl (by decide) (Nat.le_of_ble_eq_true rfl) (Nat.zero_le _) (Nat.zero_le _) ?_
          rintro _ h5 ⟨rfl, hC5⟩
          rcases hE : sWh B n0 9 (sNx B n0 (sNx B n0 (sNx B n0 t))) with z5 | e5
          · skip
            obtain ⟨rfl, v1, v2, v3⟩ := sWh_l hE
            refine z_top v1 ?_
            rw [hE] at hC5
            obtain ⟨hT5, F5⟩ := hC5
            have k5 := (sNx_ok k4).1
            have h15 : h5 1001 = _ := (F5 1001 (by decide)).trans h14
            have hN5 := hN4.on (hh := h5) (fun a q1 q2 => F5 a (by omega))
            have hD5 := hD4.on hK (hh := h5) (fun a q => F5 a (by unfold drA at q; omega))
            have G5 : ∀ a, a < 1001 ∨ 1006 < a → ¬ drA s a → h5 a = h a := fun a q1 q2 => (F5 a (by omega)).trans (G4 a q1 q2)
            have h25 := hT5.2
            obtain ⟨fc, fh, fn, fk, fs, fg, fw, fe, fl, ft, hB⟩ := id hD5
            obtain ⟨⟨c0, c1, c2, c3, c4, c5, c6, c7, c8, c9, c10, c11⟩, -⟩ := id hB
            have e14 : sAf B n0 11 9 (.inl (sNx B n0 (sNx B n0 t))) = .inl (sNx B n0 (sNx B n0 (sNx B n0 (sNx B n0 t)))) := by show oB (sMu B n0 (sNx B n0 (sNx B n0 t)) 11) (sWh B n0 9) = _; rw [e56]; exact hE
            have e15 : sAv B n0 11 9 (.inl (sNx B n0 (sNx B n0 t))) = sVal B (sNx B n0 (sNx B n0 (sNx B n0 t))) := by unfold sAv; rw [e14]; show (match sMu B n0 (sNx B n0 (sNx B n0 t)) 11 with | .inl t => sVal B t | .inr _ => 0) = _; rw [e56]
            have eR : (lPl R S B n0 (.inl t)).2.1 = nup (nup (snm R B t (R 1)) (9 + R 1) (sVal B (sNx B n0 (sNx B n0 (sNx B n0 t))))) 1 (R 1 + 1) := by rw [eL]; show nup (nup _ _ (sAv B n0 11 9 (if oW B (.inl (sNx B n0 t)) 9 then oT B n0 (.inl (sNx B n0 t)) 9 else oM B n0 (oT B n0 (.inl (sNx B n0 t)) 9) 10))) 1 (R 1 + 1) = _; rw [eO3, e15]
            have eS : (lPl R S B n0 (.inl t)).2.2 = nup S 38 (S 38 ||| if sspl B (sNx B n0 t) 9 = true then 1 <<< R 1 else 0) := by rw [eL]; rfl
            have hP : NTp (nup (nup (snm R B t (R 1)) (9 + R 1) (sVal B (sNx B n0 (sNx B n0 (sNx B n0 t))))) 1 (R 1 + 1)) (nup c nc (wCd B t)) (nup so nc 1) (nup nu nc (R 1)) (nup ix nc (R 1)) (nc + 1) := by
              have z := NTp.new (R' := nup (nup (snm R B t (R 1)) (9 + R 1) (sVal B (sNx B n0 (sNx B n0 (sNx B n0 t))))) 1 (R 1 + 1)) (x := R 1) hNT hNm hk o6 (by omega) (by rw [nup_same, nup_ne (by omega), nup_ne (by omega), nup_ne (by omega), nup_ne (by omega), nup_ne (by omega), nup_ne (by omega), snm_ne (by omega), snm_ne (by omega), snm_ne (by omega)]; omega) (fun y hy => by unfold rTo; rw [nup_same, nup_ne (by omega), nup_ne (by omega), nup_ne (by omega), nup_ne (by omega), nup_ne (by omega), nup_ne (by omega), snm_ne (by omega), snm_ne (by omega), snm_ne (by omega)]; omega) (by unfold rTo; omega) (fun j hj => (nup_ne (by omega)).trans (nup_ne (by omega)))
              rw [show nSo (R 1) = 1 from if_pos (by omega), show nNu (R 1) = R 1 from if_pos (by omega)] at z
              exact z
            have hQ := DrC.pl (R2 := nup (nup (snm R B t (R 1)) (9 + R 1) (sVal B (sNx B n0 (sNx B n0 (sNx B n0 t))))) 1 (R 1 + 1)) (v := sVal B (sNx B n0 (sNx B n0 (sNx B n0 t)))) hK hB x3 x4 x5 x2 hc (fun j q0 q1 q2 => (nup_ne q1).trans ((nup_ne q2).trans (snm_ne q0))) (nup_same _ _ _) ((nup_ne (by omega)).trans (nup_same _ _ _))
            refine z_istore_n (pc := 67) (lv' := [(3, _), (2, _), (0, _), (1, _)]) C dX4_readPlace_67 (by decide) rfl ?_
            refine z_iload_n (pc := 68) C dX4_readPlace_68 0 rfl ?_
            first | refine z_ifgeN (pc := 69) C 74 dX4_readPlace_69 (by decide) (by omega) (fun hc69 => ?_) (fun hc69 => ?_) | refine z_if_ge (pc := 69) C 74 dX4_readPlace_69 (by decide) (fun hc69 => ?_) (fun hc69 => ?_)
            · skip
              refine z_aload_n (pc := 74) C dX4_readPlace_74 2 rfl ?_
              refine z_getf (pc := 75) C dX4_readPlace_75 fX4_37 h15 (by first | rfl | assumption) ?_
              refine z_getf (pc := 78) C dX4_readPlace_78 fX4_49 c9 (by first | rfl | assumption) ?_
              refine z_getf (pc := 81) C dX4_readPlace_81 fX4_164 c0 (by first | rfl | assumption) ?_
              refine z_iload_n (pc := 84) C dX4_readPlace_84 3 rfl ?_
              refine z_iload_n (pc := 85) C dX4_readPlace_85 0 rfl ?_
              first | refine z_iastN (pc := 86) C dX4_readPlace_86 c2 (by omega) (by decide) ?_ | refine z_iastI (pc := 86) C dX4_readPlace_86 c2 (by omega) (by decide) ?_
              refine z_iload_n (pc := 87) C dX4_readPlace_87 1 rfl ?_
              first | refine z_ifeqB (pc := 88) C 99 dX4_readPlace_88 (by decide) (fun hc88 => ?_) (fun hc88 => ?_) | refine z_ifeqN (pc := 88) C 99 dX4_readPlace_88 (by decide) (by omega) (fun hc88 => ?_) (fun hc88 => ?_) | refine z_if_eq (pc := 88) C 99 dX4_readPlace_88 (by decide) (fun hc88 => ?_) (fun hc88 => ?_)
              · skip
                refine z_iconst (pc := 99) C dX4_readPlace_99 (zb true) (by decide) ?_
                refine z_zret (pc := 100) C dX4_readPlace_100 rfl (by first | exact zb_nar _ | rfl) (Nat.zero_le _) (Nat.zero_le _) ⟨_, rfl, ?_, rfl⟩
                first | exact cL.yes (l := lPl R S B n0 (.inl t)) (hT5.on (fun a q => (zup_ne (by omega)).trans (zup_ne (by omega)))) ((zup_ne (by omega)).trans ((zup_ne (by omega)).trans h15)) (hN5.on (fun a q1 q2 => (zup_ne (by omega)).trans (zup_ne (by omega)))) (by rw [eR]; exact hP) (by rw [eR, eS, if_pos e9, ← xor_or hX.2.2.2.2.2.2.1]; exact Drf.la hK (by rw [nup_ne (by omega), nup_ne (by omega), snm_ne (by omega)]; exact x3) (by rw [nup_ne (by omega), nup_ne (by omega), snm_ne (by omega)]; exact x4) hQ) (fun a q1 q2 => (zup_ne (by unfold drA at q2; omega)).trans ((zup_ne (by unfold drA at q2; omega)).trans (G5 a q1 q2))) (by rw [eL]; show sAf B n0 11 9 (if oW B (.inl (sNx B n0 t)) 9 then oT B n0 (.inl (sNx B n0 t)) 9 else oM B n0 (oT B n0 (.inl (sNx B n0 t)) 9) 10) = _; rw [eO3]; exact e14) | exact cL.yes (l := lPl R S B n0 (.inl t)) (hT5.on (fun a q => zup_ne (by omega))) ((zup_ne (by omega)).trans h15) (hN5.on (fun a q1 q2 => zup_ne (by omega))) (by rw [eR]; exact hP) (by rw [eR, eS, e9, show (if false = true then 1 <<< R 1 else 0) = 0 from rfl, Nat.or_zero, nup_self]; exact hQ) (fun a q1 q2 => (zup_ne (by unfold drA at q2; omega)).trans (G5 a q1 q2)) (by rw [eL]; show sAf B n0 11 9 (if oW B (.inl (sNx B n0 t)) 9 then oT B n0 (.inl (sNx B n0 t)) 9 else oM B n0 (oT B n0 (.inl (sNx B n0 t)) 9) 10) = _; rw [eO3]; exact e14)
              · rw [e9] at hc88; cases hc88
            · exact hc69.elim
          · skip
            refine z_top (sWh_r hE) ?_
            rw [hE] at hC5
            obtain rfl : h5 = _ := hC5
            have e14 : sAf B n0 11 9 (.inl (sNx B n0 (sNx B n0 t))) = .inr e5 := by show oB (sMu B n0 (sNx B n0 (sNx B n0 t)) 11) (sWh B n0 9) = _; rw [e56]; exact hE
            refine z_istore_n (pc := 67) (lv' := [(3, _), (2, _), (0, _), (1, _)]) C dX4_readPlace_67 (by decide) rfl ?_
            refine z_iload_n (pc := 68) C dX4_readPlace_68 0 rfl ?_
            first | refine z_ifgeN (pc := 69) C 74 dX4_readPlace_69 (by decide) (by omega) (fun hc69 => ?_) (fun hc69 => ?_) | refine z_if_ge (pc := 69) C 74 dX4_readPlace_69 (by decide) (fun hc69 => ?_) (fun hc69 => ?_)
            · exact absurd hc69 (by decide)
            · skip
              refine z_iconst (pc := 72) C dX4_readPlace_72 (zb false) (by decide) ?_
              refine z_zret (pc := 73) C dX4_readPlace_73 rfl (by first | exact zb_nar _ | rfl) (Nat.zero_le _) (Nat.zero_le _) ⟨_, rfl, ?_, rfl⟩
              exact cL.no   hK hT4 hN4 n82 hD4.s G4 (by rw [eL]; show sAf B n0 11 9 (if oW B (.inl (sNx B n0 t)) 9 then oT B n0 (.inl (sNx B n0 t)) 9 else oM B n0 (oT B n0 (.inl (sNx B n0 t)) 9) 10) = _; rw [eO3]; exact e14)
        · skip
          have e56 : sMu B n0 (sNx B n0 (sNx B n0 t)) 11 = .inr (1, (sNx B n0 (sNx B n0 t)).2.1) := by unfold sMu; rw [show sspl B (sNx B n0 (sNx B n0 t)) 11 = false from hc56]; rfl
          rw [e56] at hC4
          obtain rfl : h4 = _ := hC4
          refine z_iconst (pc := 59) C dX4_readPlace_59 (zb false) (by decide) ?_
          refine z_zret (pc := 60) C dX4_readPlace_60 rfl (by first | exact zb_nar _ | rfl) (Nat.zero_le _) (Nat.zero_le _) ⟨_, rfl, ?_, rfl⟩
          exact cL.no   hK hT3 hN3 n82 hD3.s G3 (by rw [eL]; show sAf B n0 11 9 (if oW B (.inl (sNx B n0 t)) 9 then oT B n0 (.inl (sNx B n0 t)) 9 else oM B n0 (oT B n0 (.inl (sNx B n0 t)) 9) 10) = _; rw [eO3]; show oB (sMu B n0 (sNx B n0 (sNx B n0 t)) 11) (sWh B n0 9) = _; rw [e56]; rfl)
      · skip
        have eO3 : (if oW B (.inl (sNx B n0 t)) 9 then oT B n0 (.inl (sNx B n0 t)) 9 else oM B n0 (oT B n0 (.inl (sNx B n0 t)) 9) 10) = .inr (1, (sNx B n0 t).2.1) := by rw [eO2]; unfold sMu; rw [show sspl B (sNx B n0 t) 10 = false from hc34]; rfl
        refine z_aload_n (pc := 37) C dX4_readPlace_37 1 rfl ?_
        refine z_iconst (pc := 38) C dX4_readPlace_38 (nI 1) (by decide) ?_
        refine z_cV1 (pc := 39) mX4_fail C [_] dX4_readPlace_39 lX4_90 mtX4_fail (tX4_fail h12 hT2) h12 rfl rfl (by decide) (Nat.le_of_ble_eq_true rfl) (Nat.zero_le _) (Nat.zero_le _) ?_
        refine z_zret (pc := 42) C dX4_readPlace_42 rfl (by first | exact zb_nar _ | rfl) (Nat.zero_le _) (Nat.zero_le _) ⟨_, rfl, ?_, rfl⟩
        exact cL.no (l := lPl R S B n0 (.inl t)) (e := (1, (sNx B n0 t).2.1)) hK hT2 hN2 n82 hD2.s G2 (by rw [eL]; show sAf B n0 11 9 (if oW B (.inl (sNx B n0 t)) 9 then oT B n0 (.inl (sNx B n0 t)) 9 else oM B n0 (oT B n0 (.inl (sNx B n0 t)) 9) 10) = _; rw [eO3]; rfl)
  · skip
    have o6 := nt_F hc6
    obtain ⟨e6, he6⟩ := oF_t o6
    unfold cNw at hC2
    rw [he6] at hC2
    obtain rfl : h2 = _ := hC2
    have eF : (lPl R S B n0 (.inl t)).1 = .inr e6 := by show (lPlA _ S B n0 _ (sNw R B n0 t)).1 = _; rw [he6]; rfl
    refine z_iconst (pc := 9) C dX4_readPlace_9 (zb false) (by decide) ?_
    refine z_zret (pc := 10) C dX4_readPlace_10 rfl (by first | exact zb_nar _ | rfl) (Nat.zero_le _) (Nat.zero_le _) ⟨_, rfl, ?_, rfl⟩
    exact cL.no hK hT0 hN0 n8 hD0.s G0 (eF)
