theorem oBn {o : TO} {f : Nat × Nat × Nat → TO} (h : oF o = true) : oB o f = o := by
  cases o with
  | inl t => cases h
  | inr e => rfl

set_option maxRecDepth 20000 in
set_option maxHeartbeats 1000000 in
theorem tX12_pathLine {h : ZH} {v : Nat → Int32} {B R S : Nat → Nat} {n0 : Nat} {o : TO} (hO0 : MO h v B n0 o) (hR0 : h 1067 = some (zI 241 R)) (hS0 : h 1069 = some (zI 40 S)) (hI : oF o = false → RI R S) : ZQ0 mX12_pathLine 9 [.ref 1063] h (fun hh => LQ h hh v B n0 (lPa R S B n0 o)) := by
  intro n
  have hM0 := hO0.m
  have f0 := hO0.f
  have ha : sNv R B 0 6 o ≤ 6 := sNv_le o
  have hb : sNv R B 0 6 (oP B n0 (oB o (sNmd R B 0 6))) ≤ 6 := sNv_le _
  refine z_enter (lv := [(0, _)]) (by decide) (Nat.le_of_ble_eq_true rfl) rfl (fun X C => ?_)
  refine z_aload_n (pc := 0) C dX12_pathLine_0 0 rfl ?_
  refine z_cV1Q (pc := 1) mX12_placePassed C [] dX12_pathLine_1 lX12_233 mtX12_placePassed (tX12_placePassed hO0 hR0 (fun z => (hI z).1)) hM0 rfl rfl (by decide) (Nat.le_of_ble_eq_true rfl) (Nat.zero_le _) (Nat.zero_le _) ?_
  rintro _ h1 ⟨rfl, ⟨v1, hO1, hV1⟩, F1⟩
  have hM1 := hO1.m
  have f1 := hO1.f
  have hR1 : h1 1067 = _ := (F1 1067 (by decide) (by decide)).trans hR0
  have hS1 : h1 1069 = _ := (F1 1069 (by decide) (by decide)).trans hS0
  refine z_istore_n (pc := 4) (lv' := [(1, _), (0, _)]) C dX12_pathLine_4 (by decide) rfl ?_
  refine z_aload_n (pc := 5) C dX12_pathLine_5 1 rfl ?_
  refine z_cV1Q (pc := 6) mX12_placeHere C [] dX12_pathLine_6 lX12_154 mtX12_placeHere (tX12_placeHere hO1 hR1 (fun z => (hI (oB_f (oP_f z))).1)) hM1 rfl rfl (by decide) (Nat.le_of_ble_eq_true rfl) (Nat.zero_le _) (Nat.zero_le _) ?_
  rintro _ h2 ⟨rfl, ⟨v2, hO2, hV2⟩, F2⟩
  have hM2 := hO2.m
  have f2 := hO2.f
  have hR2 : h2 1067 = _ := (F2 1067 (by decide) (by decide)).trans hR1
  have hS2 : h2 1069 = _ := (F2 1069 (by decide) (by decide)).trans hS1
  refine z_istore_n (pc := 9) (lv' := [(2, _), (1, _), (0, _)]) C dX12_pathLine_9 (by decide) rfl ?_
  refine z_aload_n (pc := 10) C dX12_pathLine_10 2 rfl ?_
  refine z_getf (pc := 11) C dX12_pathLine_11 fX12_94 hM2 (by first | rfl | assumption) ?_
  rw [f2]
  first | refine z_ifneB (pc := 14) C 47 dX12_pathLine_14 (by decide) (fun hc14 => ?_) (fun hc14 => ?_) | refine z_ifneN (pc := 14) C 47 dX12_pathLine_14 (by decide) (by omega) (fun hc14 => ?_) (fun hc14 => ?_) | refine z_if_ne (pc := 14) C 47 dX12_pathLine_14 (by decide) (fun hc14 => ?_) (fun hc14 => ?_)
  · skip
    obtain ⟨e, he⟩ := oF_t hc14
    have eO : lPaO R B n0 o = .inr e := by unfold lPaO; rw [oBn hc14, he]
    have hO3 := hO2
    rw [he, ← eO] at hO3
    have f3 := hO3.f
    have hM3 := hM2
    have hR3 := hR2
    have hS3 := hS2
    have hV3 : rW v2 v2 := rW.rf _
    have F3 : rF h2 h2 := rF.rf _
    refine z_aload_n (pc := 47) C dX12_pathLine_47 2 rfl ?_
    refine z_cV0Q (pc := 48) mX12_pass C [] dX12_pathLine_48 lX12_157 mtX12_pass (tX12_passO hO3 (fun t9 ht9 => by first | (rw [eO] at ht9; cases ht9; done) | (rw [eO] at ht9; cases ht9; rw [oB_nt _ ht2]; decide))) hM3 rfl rfl (by decide) (Nat.le_of_ble_eq_true rfl) (Nat.zero_le _) (Nat.zero_le _) ?_
    rintro h4 ⟨⟨v4, hO4, hV4⟩, F4⟩
    have hM4 := hO4.m
    have f4 := hO4.f
    have hR4 : h4 1067 = _ := (F4 1067 (by decide) (by decide)).trans hR3
    have hS4 : h4 1069 = _ := (F4 1069 (by decide) (by decide)).trans hS3
    refine z_aload_n (pc := 51) C dX12_pathLine_51 2 rfl ?_
    refine z_getf (pc := 52) C dX12_pathLine_52 fX12_94 hM4 (by first | rfl | assumption) ?_
    rw [f4]
    first | refine z_ifeqB (pc := 55) C 59 dX12_pathLine_55 (by decide) (fun hc55 => ?_) (fun hc55 => ?_) | refine z_ifeqN (pc := 55) C 59 dX12_pathLine_55 (by decide) (by omega) (fun hc55 => ?_) (fun hc55 => ?_) | refine z_if_eq (pc := 55) C 59 dX12_pathLine_55 (by decide) (fun hc55 => ?_) (fun hc55 => ?_)
    · rw [eO] at hc55; cases hc55
    · skip
      refine z_vret (pc := 58) C dX12_pathLine_58 rfl (Nat.zero_le _) (Nat.zero_le _) ⟨rfl, ?_, rfl⟩
      exact LQ.of hO4 (((hV1.tr hV2).tr hV3).tr hV4) hR4 hS4 (fun z => by cases hc55.symm.trans z) (fun a q1 q2 q3 q4 => ((F4 a q1 q2).trans ((F3 a q1 q2).trans ((F2 a q1 q2).trans (F1 a q1 q2)))))
  · skip
    obtain ⟨i1, ⟨i2, i3, i4, i5, i6⟩, i7, i8, i9⟩ := hI (oB_f (oP_f (oB_f hc14)))
    have i10 := i7 (sNv R B 0 6 o) (by omega)
    obtain ⟨t2, ht2⟩ := oF_f hc14
    refine z_iload_n (pc := 17) C dX12_pathLine_17 1 rfl ?_
    refine z_iload_n (pc := 18) C dX12_pathLine_18 0 rfl ?_
    first | refine z_icmpeqN (pc := 19) C 38 dX12_pathLine_19 (by decide) (by omega) (by omega) (fun hc19 => ?_) (fun hc19 => ?_) | refine z_icmp_eq (pc := 19) C 38 dX12_pathLine_19 (by decide) (fun hc19 => ?_) (fun hc19 => ?_)
    · skip
      refine z_aload_n (pc := 38) C dX12_pathLine_38 2 rfl ?_
      refine z_iconst (pc := 39) C dX12_pathLine_39 (nI 3) (by decide) ?_
      refine z_aload_n (pc := 40) C dX12_pathLine_40 2 rfl ?_
      refine z_getf (pc := 41) C dX12_pathLine_41 fX12_75 hM2 (by first | rfl | assumption) ?_
      refine z_cV0Q (pc := 44) mX12_wrong C [_, _] dX12_pathLine_44 lX12_121 mtX12_wrong (tX12_wrongO (f := 3) hO2 (hO2.at (t := (0, 0, 0)))) hM2 rfl rfl (by decide) (Nat.le_of_ble_eq_true rfl) (Nat.zero_le _) (Nat.zero_le _) ?_
      rintro h3 ⟨⟨v3, hO3, hV3⟩, F3⟩
      have hM3 := hO3.m
      have f3 := hO3.f
      have hR3 : h3 1067 = _ := (F3 1067 (by decide) (by decide)).trans hR2
      have hS3 : h3 1069 = _ := (F3 1069 (by decide) (by decide)).trans hS2
      have eO : lPaO R B n0 o = .inr (3, t2.2.1) := by unfold lPaO; rw [ht2, oB_inl, if_pos (by first | exact Or.inl hc19 | exact Or.inr hc35)]
      rw [ht2] at hO3 f3
      rw [show oX (.inl t2) 3 = lPaO R B n0 o from eO.symm] at hO3 f3
      refine z_aload_n (pc := 47) C dX12_pathLine_47 2 rfl ?_
      refine z_cV0Q (pc := 48) mX12_pass C [] dX12_pathLine_48 lX12_157 mtX12_pass (tX12_passO hO3 (fun t9 ht9 => by first | (rw [eO] at ht9; cases ht9; done) | (rw [eO] at ht9; cases ht9; rw [oB_nt _ ht2]; decide))) hM3 rfl rfl (by decide) (Nat.le_of_ble_eq_true rfl) (Nat.zero_le _) (Nat.zero_le _) ?_
      rintro h4 ⟨⟨v4, hO4, hV4⟩, F4⟩
      have hM4 := hO4.m
      have f4 := hO4.f
      have hR4 : h4 1067 = _ := (F4 1067 (by decide) (by decide)).trans hR3
      have hS4 : h4 1069 = _ := (F4 1069 (by decide) (by decide)).trans hS3
      refine z_aload_n (pc := 51) C dX12_pathLine_51 2 rfl ?_
      refine z_getf (pc := 52) C dX12_pathLine_52 fX12_94 hM4 (by first | rfl | assumption) ?_
      rw [f4]
      first | refine z_ifeqB (pc := 55) C 59 dX12_pathLine_55 (by decide) (fun hc55 => ?_) (fun hc55 => ?_) | refine z_ifeqN (pc := 55) C 59 dX12_pathLine_55 (by decide) (by omega) (fun hc55 => ?_) (fun hc55 => ?_) | refine z_if_eq (pc := 55) C 59 dX12_pathLine_55 (by decide) (fun hc55 => ?_) (fun hc55 => ?_)
      · rw [eO] at hc55; cases hc55
      · skip
        refine z_vret (pc := 58) C dX12_pathLine_58 rfl (Nat.zero_le _) (Nat.zero_le _) ⟨rfl, ?_, rfl⟩
        exact LQ.of hO4 (((hV1.tr hV2).tr hV3).tr hV4) hR4 hS4 (fun z => by cases hc55.symm.trans z) (fun a q1 q2 q3 q4 => ((F4 a q1 q2).trans ((F3 a q1 q2).trans ((F2 a q1 q2).trans (F1 a q1 q2)))))
    · skip
      refine z_aload_n (pc := 22) C dX12_pathLine_22 2 rfl ?_
      refine z_getf (pc := 23) C dX12_pathLine_23 fX12_23 hM2 (by first | rfl | assumption) ?_
      refine z_bipush (pc := 26) C dX12_pathLine_26 (nI 23) (by decide) ?_
      refine z_iload_n (pc := 28) C dX12_pathLine_28 1 rfl ?_
      first | refine z_iaddN (pc := 29) C dX12_pathLine_29 ?_ | refine z_iadd (pc := 29) C dX12_pathLine_29 ?_
      first | refine z_ialdN (pc := 30) C dX12_pathLine_30 hR2 (by omega) (by decide) ?_ | refine z_ialdI (pc := 30) C dX12_pathLine_30 hR2 (by omega) (by decide) ?_
      refine z_iload_n (pc := 31) C dX12_pathLine_31 0 rfl ?_
      refine z_cS1 (pc := 32) mX12_hasBit C [_, _] dX12_pathLine_32 lX12_236 mtX12_hasBit (tX12_hasBit (a := R (23 + sNv R B 0 6 o)) (k := sNv R B 0 6 (oP B n0 (oB o (sNmd R B 0 6)))) (by omega) (by omega)) rfl rfl (by decide) (Nat.le_of_ble_eq_true rfl) (Nat.zero_le _) (Nat.zero_le _) ?_
      first | refine z_ifeqB (pc := 35) C 47 dX12_pathLine_35 (by decide) (fun hc35 => ?_) (fun hc35 => ?_) | refine z_ifeqN (pc := 35) C 47 dX12_pathLine_35 (by decide) (by omega) (fun hc35 => ?_) (fun hc35 => ?_) | refine z_if_eq (pc := 35) C 47 dX12_pathLine_35 (by decide) (fun hc35 => ?_) (fun hc35 => ?_)
      · skip
        have eO : lPaO R B n0 o = .inl t2 := by unfold lPaO; rw [ht2, oB_inl, if_neg (by rintro (z | z); (exact hc19 z); cases hc35.symm.trans z)]
        have hO3 := hO2
        rw [ht2, ← eO] at hO3
        have f3 := hO3.f
        have hM3 := hM2
        have hR3 := hR2
        have hS3 := hS2
        have hV3 : rW v2 v2 := rW.rf _
        have F3 : rF h2 h2 := rF.rf _
        refine z_aload_n (pc := 47) C dX12_pathLine_47 2 rfl ?_
        refine z_cV0Q (pc := 48) mX12_pass C [] dX12_pathLine_48 lX12_157 mtX12_pass (tX12_passO hO3 (fun t9 ht9 => by first | (rw [eO] at ht9; cases ht9; done) | (rw [eO] at ht9; cases ht9; rw [oB_nt _ ht2]; decide))) hM3 rfl rfl (by decide) (Nat.le_of_ble_eq_true rfl) (Nat.zero_le _) (Nat.zero_le _) ?_
        rintro h4 ⟨⟨v4, hO4, hV4⟩, F4⟩
        have hM4 := hO4.m
        have f4 := hO4.f
        have hR4 : h4 1067 = _ := (F4 1067 (by decide) (by decide)).trans hR3
        have hS4 : h4 1069 = _ := (F4 1069 (by decide) (by decide)).trans hS3
        refine z_aload_n (pc := 51) C dX12_pathLine_51 2 rfl ?_
        refine z_getf (pc := 52) C dX12_pathLine_52 fX12_94 hM4 (by first | rfl | assumption) ?_
        rw [f4]
        first | refine z_ifeqB (pc := 55) C 59 dX12_pathLine_55 (by decide) (fun hc55 => ?_) (fun hc55 => ?_) | refine z_ifeqN (pc := 55) C 59 dX12_pathLine_55 (by decide) (by omega) (fun hc55 => ?_) (fun hc55 => ?_) | refine z_if_eq (pc := 55) C 59 dX12_pathLine_55 (by decide) (fun hc55 => ?_) (fun hc55 => ?_)
        · skip
          refine z_aload_n (pc := 59) C dX12_pathLine_59 2 rfl ?_
          refine z_getf (pc := 60) C dX12_pathLine_60 fX12_23 hM4 (by first | rfl | assumption) ?_
          refine z_bipush (pc := 63) C dX12_pathLine_63 (nI 23) (by decide) ?_
          refine z_iload_n (pc := 65) C dX12_pathLine_65 1 rfl ?_
          first | refine z_iaddN (pc := 66) C dX12_pathLine_66 ?_ | refine z_iadd (pc := 66) C dX12_pathLine_66 ?_
          refine z_dup2 (pc := 67) C dX12_pathLine_67 rfl rfl ?_
          first | refine z_ialdN (pc := 68) C dX12_pathLine_68 hR4 (by omega) (by decide) ?_ | refine z_ialdI (pc := 68) C dX12_pathLine_68 hR4 (by omega) (by decide) ?_
          refine z_iconst (pc := 69) C dX12_pathLine_69 (nI 1) (by decide) ?_
          refine z_iload_n (pc := 70) C dX12_pathLine_70 0 rfl ?_
          first | refine z_ishlN (pc := 71) C dX12_pathLine_71 (by omega) ?_ | refine z_ishl (pc := 71) C dX12_pathLine_71 ?_
          first | refine z_iorN (pc := 72) C dX12_pathLine_72 ?_ | refine z_ior (pc := 72) C dX12_pathLine_72 ?_
          first | refine z_iastN (pc := 73) C dX12_pathLine_73 hR4 (by omega) (by decide) ?_ | refine z_iastI (pc := 73) C dX12_pathLine_73 hR4 (by omega) (by decide) ?_
          generalize eh5 : zup h4 1067 (zI 241 (nup R (23 + sNv R B 0 6 o) (R (23 + sNv R B 0 6 o) ||| 1 <<< sNv R B 0 6 (oP B n0 (oB o (sNmd R B 0 6)))))) = h5
          have G5 : ∀ a, a ≠ 1067 → h5 a = h4 a := fun a q => by rw [← eh5]; exact zup_ne q
          have hO5 := hO4.on (hh := h5) (fun a q => G5 a (by omega))
          have hM5 := hO5.m
          have f5 := f4
          have hR5 : h5 1067 = some (zI 241 (nup R (23 + sNv R B 0 6 o) (R (23 + sNv R B 0 6 o) ||| 1 <<< sNv R B 0 6 (oP B n0 (oB o (sNmd R B 0 6)))))) := by rw [← eh5]; exact zup_same _ _ _
          have hS5 := (G5 1069 (by decide)).trans hS4
          refine z_aload_n (pc := 74) C dX12_pathLine_74 2 rfl ?_
          refine z_getf (pc := 75) C dX12_pathLine_75 fX12_23 hM5 (by first | rfl | assumption) ?_
          refine z_bipush (pc := 78) C dX12_pathLine_78 (nI 23) (by decide) ?_
          refine z_iload_n (pc := 80) C dX12_pathLine_80 0 rfl ?_
          first | refine z_iaddN (pc := 81) C dX12_pathLine_81 ?_ | refine z_iadd (pc := 81) C dX12_pathLine_81 ?_
          refine z_dup2 (pc := 82) C dX12_pathLine_82 rfl rfl ?_
          refine z_ialdE (pc := 83) C dX12_pathLine_83 hR5 (by omega) (by decide) (show (nup R (23 + sNv R B 0 6 o) (R (23 + sNv R B 0 6 o) ||| 1 <<< sNv R B 0 6 (oP B n0 (oB o (sNmd R B 0 6))))) (23 + sNv R B 0 6 (oP B n0 (oB o (sNmd R B 0 6)))) = R (23 + sNv R B 0 6 (oP B n0 (oB o (sNmd R B 0 6)))) from nup_ne (by omega)) ?_
          refine z_iconst (pc := 84) C dX12_pathLine_84 (nI 1) (by decide) ?_
          refine z_iload_n (pc := 85) C dX12_pathLine_85 1 rfl ?_
          first | refine z_ishlN (pc := 86) C dX12_pathLine_86 (by omega) ?_ | refine z_ishl (pc := 86) C dX12_pathLine_86 ?_
          first | refine z_iorN (pc := 87) C dX12_pathLine_87 ?_ | refine z_ior (pc := 87) C dX12_pathLine_87 ?_
          first | refine z_iastN (pc := 88) C dX12_pathLine_88 hR5 (by omega) (by decide) ?_ | refine z_iastI (pc := 88) C dX12_pathLine_88 hR5 (by omega) (by decide) ?_
          generalize eh6 : zup h5 1067 (zI 241 (nup (nup R (23 + sNv R B 0 6 o) (R (23 + sNv R B 0 6 o) ||| 1 <<< sNv R B 0 6 (oP B n0 (oB o (sNmd R B 0 6))))) (23 + sNv R B 0 6 (oP B n0 (oB o (sNmd R B 0 6)))) (R (23 + sNv R B 0 6 (oP B n0 (oB o (sNmd R B 0 6)))) ||| 1 <<< sNv R B 0 6 o))) = h6
          have G6 : ∀ a, a ≠ 1067 → h6 a = h5 a := fun a q => by rw [← eh6]; exact zup_ne q
          have hO6 := hO5.on (hh := h6) (fun a q => G6 a (by omega))
          have hM6 := hO6.m
          have f6 := f5
          have hR6 : h6 1067 = some (zI 241 (nup (nup R (23 + sNv R B 0 6 o) (R (23 + sNv R B 0 6 o) ||| 1 <<< sNv R B 0 6 (oP B n0 (oB o (sNmd R B 0 6))))) (23 + sNv R B 0 6 (oP B n0 (oB o (sNmd R B 0 6)))) (R (23 + sNv R B 0 6 (oP B n0 (oB o (sNmd R B 0 6)))) ||| 1 <<< sNv R B 0 6 o))) := by rw [← eh6]; exact zup_same _ _ _
          have hS6 := (G6 1069 (by decide)).trans hS5
          refine z_aload_n (pc := 89) C dX12_pathLine_89 2 rfl ?_
          refine z_getf (pc := 90) C dX12_pathLine_90 fX12_23 hM6 (by first | rfl | assumption) ?_
          refine z_iconst (pc := 93) C dX12_pathLine_93 (nI 2) (by decide) ?_
          refine z_dup2 (pc := 94) C dX12_pathLine_94 rfl rfl ?_
          refine z_ialdE (pc := 95) C dX12_pathLine_95 hR6 (by omega) (by decide) (show (nup (nup R (23 + sNv R B 0 6 o) (R (23 + sNv R B 0 6 o) ||| 1 <<< sNv R B 0 6 (oP B n0 (oB o (sNmd R B 0 6))))) (23 + sNv R B 0 6 (oP B n0 (oB o (sNmd R B 0 6)))) (R (23 + sNv R B 0 6 (oP B n0 (oB o (sNmd R B 0 6)))) ||| 1 <<< sNv R B 0 6 o)) 2 = R 2 from (nup_ne (by omega)).trans (nup_ne (by omega))) ?_
          refine z_iconst (pc := 96) C dX12_pathLine_96 (nI 1) (by decide) ?_
          first | refine z_iaddN (pc := 97) C dX12_pathLine_97 ?_ | refine z_iadd (pc := 97) C dX12_pathLine_97 ?_
          first | refine z_iastN (pc := 98) C dX12_pathLine_98 hR6 (by omega) (by decide) ?_ | refine z_iastI (pc := 98) C dX12_pathLine_98 hR6 (by omega) (by decide) ?_
          generalize eh7 : zup h6 1067 (zI 241 (nup (nup (nup R (23 + sNv R B 0 6 o) (R (23 + sNv R B 0 6 o) ||| 1 <<< sNv R B 0 6 (oP B n0 (oB o (sNmd R B 0 6))))) (23 + sNv R B 0 6 (oP B n0 (oB o (sNmd R B 0 6)))) (R (23 + sNv R B 0 6 (oP B n0 (oB o (sNmd R B 0 6)))) ||| 1 <<< sNv R B 0 6 o)) 2 (R 2 + 1))) = h7
          have G7 : ∀ a, a ≠ 1067 → h7 a = h6 a := fun a q => by rw [← eh7]; exact zup_ne q
          have hO7 := hO6.on (hh := h7) (fun a q => G7 a (by omega))
          have hM7 := hO7.m
          have f7 := f6
          have hR7 : h7 1067 = some (zI 241 (nup (nup (nup R (23 + sNv R B 0 6 o) (R (23 + sNv R B 0 6 o) ||| 1 <<< sNv R B 0 6 (oP B n0 (oB o (sNmd R B 0 6))))) (23 + sNv R B 0 6 (oP B n0 (oB o (sNmd R B 0 6)))) (R (23 + sNv R B 0 6 (oP B n0 (oB o (sNmd R B 0 6)))) ||| 1 <<< sNv R B 0 6 o)) 2 (R 2 + 1))) := by rw [← eh7]; exact zup_same _ _ _
          have hS7 := (G7 1069 (by decide)).trans hS6
          refine z_vret (pc := 99) C dX12_pathLine_99 rfl (Nat.zero_le _) (Nat.zero_le _) ⟨rfl, ?_, rfl⟩
          exact LQ.of hO7 (((hV1.tr hV2).tr hV3).tr hV4) hR7 hS7 (fun _ => ⟨rfl, rfl⟩) (fun a q1 q2 q3 q4 => ((G7 a q3).trans ((G6 a q3).trans ((G5 a q3).trans ((F4 a q1 q2).trans ((F3 a q1 q2).trans ((F2 a q1 q2).trans (F1 a q1 q2))))))))
        · rw [eO] at hc55; cases hc55
      · skip
        refine z_aload_n (pc := 38) C dX12_pathLine_38 2 rfl ?_
        refine z_iconst (pc := 39) C dX12_pathLine_39 (nI 3) (by decide) ?_
        refine z_aload_n (pc := 40) C dX12_pathLine_40 2 rfl ?_
        refine z_getf (pc := 41) C dX12_pathLine_41 fX12_75 hM2 (by first | rfl | assumption) ?_
        refine z_cV0Q (pc := 44) mX12_wrong C [_, _] dX12_pathLine_44 lX12_121 mtX12_wrong (tX12_wrongO (f := 3) hO2 (hO2.at (t := (0, 0, 0)))) hM2 rfl rfl (by decide) (Nat.le_of_ble_eq_true rfl) (Nat.zero_le _) (Nat.zero_le _) ?_
        rintro h3 ⟨⟨v3, hO3, hV3⟩, F3⟩
        have hM3 := hO3.m
        have f3 := hO3.f
        have hR3 : h3 1067 = _ := (F3 1067 (by decide) (by decide)).trans hR2
        have hS3 : h3 1069 = _ := (F3 1069 (by decide) (by decide)).trans hS2
        have eO : lPaO R B n0 o = .inr (3, t2.2.1) := by unfold lPaO; rw [ht2, oB_inl, if_pos (by first | exact Or.inl hc19 | exact Or.inr hc35)]
        rw [ht2] at hO3 f3
        rw [show oX (.inl t2) 3 = lPaO R B n0 o from eO.symm] at hO3 f3
        refine z_aload_n (pc := 47) C dX12_pathLine_47 2 rfl ?_
        refine z_cV0Q (pc := 48) mX12_pass C [] dX12_pathLine_48 lX12_157 mtX12_pass (tX12_passO hO3 (fun t9 ht9 => by first | (rw [eO] at ht9; cases ht9; done) | (rw [eO] at ht9; cases ht9; rw [oB_nt _ ht2]; decide))) hM3 rfl rfl (by decide) (Nat.le_of_ble_eq_true rfl) (Nat.zero_le _) (Nat.zero_le _) ?_
        rintro h4 ⟨⟨v4, hO4, hV4⟩, F4⟩
        have hM4 := hO4.m
        have f4 := hO4.f
        have hR4 : h4 1067 = _ := (F4 1067 (by decide) (by decide)).trans hR3
        have hS4 : h4 1069 = _ := (F4 1069 (by decide) (by decide)).trans hS3
        refine z_aload_n (pc := 51) C dX12_pathLine_51 2 rfl ?_
        refine z_getf (pc := 52) C dX12_pathLine_52 fX12_94 hM4 (by first | rfl | assumption) ?_
        rw [f4]
        first | refine z_ifeqB (pc := 55) C 59 dX12_pathLine_55 (by decide) (fun hc55 => ?_) (fun hc55 => ?_) | refine z_ifeqN (pc := 55) C 59 dX12_pathLine_55 (by decide) (by omega) (fun hc55 => ?_) (fun hc55 => ?_) | refine z_if_eq (pc := 55) C 59 dX12_pathLine_55 (by decide) (fun hc55 => ?_) (fun hc55 => ?_)
        · rw [eO] at hc55; cases hc55
        · skip
          refine z_vret (pc := 58) C dX12_pathLine_58 rfl (Nat.zero_le _) (Nat.zero_le _) ⟨rfl, ?_, rfl⟩
          exact LQ.of hO4 (((hV1.tr hV2).tr hV3).tr hV4) hR4 hS4 (fun z => by cases hc55.symm.trans z) (fun a q1 q2 q3 q4 => ((F4 a q1 q2).trans ((F3 a q1 q2).trans ((F2 a q1 q2).trans (F1 a q1 q2)))))

set_option maxRecDepth 20000 in
set_option maxHeartbeats 1000000 in
theorem tX12_walkLine {h : ZH} {v : Nat → Int32} {B R S : Nat → Nat} {n0 : Nat} {o : TO} (hO0 : MO h v B n0 o) (hR0 : h 1067 = some (zI 241 R)) (hS0 : h 1069 = some (zI 40 S)) (hI : oF o = false → RI R S) : ZQ0 mX12_walkLine 9 [.ref 1063] h (fun hh => LQ h hh v B n0 (lWa R S B n0 o)) := by
  intro n
  have hM0 := hO0.m
  have f0 := hO0.f
  have ha : sNv R B 7 10 o ≤ 3 := sNv_le o
  have hb : sNv R B 0 6 (oP B n0 (oB o (sNmd R B 7 10))) ≤ 6 := sNv_le _
  refine z_enter (lv := [(0, _)]) (by decide) (Nat.le_of_ble_eq_true rfl) rfl (fun X C => ?_)
  refine z_aload_n (pc := 0) C dX12_walkLine_0 0 rfl ?_
  refine z_cV1Q (pc := 1) mX12_manPassed C [] dX12_walkLine_1 lX12_249 mtX12_manPassed (tX12_manPassed hO0 hR0 (fun z => (hI z).1)) hM0 rfl rfl (by decide) (Nat.le_of_ble_eq_true rfl) (Nat.zero_le _) (Nat.zero_le _) ?_
  rintro _ h1 ⟨rfl, ⟨v1, hO1, hV1⟩, F1⟩
  have hM1 := hO1.m
  have f1 := hO1.f
  have hR1 : h1 1067 = _ := (F1 1067 (by decide) (by decide)).trans hR0
  have hS1 : h1 1069 = _ := (F1 1069 (by decide) (by decide)).trans hS0
  refine z_istore_n (pc := 4) (lv' := [(1, _), (0, _)]) C dX12_walkLine_4 (by decide) rfl ?_
  refine z_aload_n (pc := 5) C dX12_walkLine_5 1 rfl ?_
  refine z_cV1Q (pc := 6) mX12_placeHere C [] dX12_walkLine_6 lX12_154 mtX12_placeHere (tX12_placeHere hO1 hR1 (fun z => (hI (oB_f (oP_f z))).1)) hM1 rfl rfl (by decide) (Nat.le_of_ble_eq_true rfl) (Nat.zero_le _) (Nat.zero_le _) ?_
  rintro _ h2 ⟨rfl, ⟨v2, hO2, hV2⟩, F2⟩
  have hM2 := hO2.m
  have f2 := hO2.f
  have hR2 : h2 1067 = _ := (F2 1067 (by decide) (by decide)).trans hR1
  have hS2 : h2 1069 = _ := (F2 1069 (by decide) (by decide)).trans hS1
  refine z_istore_n (pc := 9) (lv' := [(2, _), (1, _), (0, _)]) C dX12_walkLine_9 (by decide) rfl ?_
  refine z_aload_n (pc := 10) C dX12_walkLine_10 2 rfl ?_
  refine z_getf (pc := 11) C dX12_walkLine_11 fX12_94 hM2 (by first | rfl | assumption) ?_
  rw [f2]
  first | refine z_ifneB (pc := 14) C 51 dX12_walkLine_14 (by decide) (fun hc14 => ?_) (fun hc14 => ?_) | refine z_ifneN (pc := 14) C 51 dX12_walkLine_14 (by decide) (by omega) (fun hc14 => ?_) (fun hc14 => ?_) | refine z_if_ne (pc := 14) C 51 dX12_walkLine_14 (by decide) (fun hc14 => ?_) (fun hc14 => ?_)
  · skip
    obtain ⟨e, he⟩ := oF_t hc14
    have eO : lWaO R S B n0 o = .inr e := by unfold lWaO; rw [oBn hc14, he]
    have hO3 := hO2
    rw [he, ← eO] at hO3
    have f3 := hO3.f
    have hM3 := hM2
    have hR3 := hR2
    have hS3 := hS2
    have hV3 : rW v2 v2 := rW.rf _
    have F3 : rF h2 h2 := rF.rf _
    refine z_aload_n (pc := 51) C dX12_walkLine_51 2 rfl ?_
    refine z_cV0Q (pc := 52) mX12_pass C [] dX12_walkLine_52 lX12_157 mtX12_pass (tX12_passO hO3 (fun t9 ht9 => by first | (rw [eO] at ht9; cases ht9; done) | (rw [eO] at ht9; cases ht9; rw [oB_nt _ ht2]; decide))) hM3 rfl rfl (by decide) (Nat.le_of_ble_eq_true rfl) (Nat.zero_le _) (Nat.zero_le _) ?_
    rintro h4 ⟨⟨v4, hO4, hV4⟩, F4⟩
    have hM4 := hO4.m
    have f4 := hO4.f
    have hR4 : h4 1067 = _ := (F4 1067 (by decide) (by decide)).trans hR3
    have hS4 : h4 1069 = _ := (F4 1069 (by decide) (by decide)).trans hS3
    refine z_aload_n (pc := 55) C dX12_walkLine_55 2 rfl ?_
    refine z_getf (pc := 56) C dX12_walkLine_56 fX12_94 hM4 (by first | rfl | assumption) ?_
    rw [f4]
    first | refine z_ifeqB (pc := 59) C 63 dX12_walkLine_59 (by decide) (fun hc59 => ?_) (fun hc59 => ?_) | refine z_ifeqN (pc := 59) C 63 dX12_walkLine_59 (by decide) (by omega) (fun hc59 => ?_) (fun hc59 => ?_) | refine z_if_eq (pc := 59) C 63 dX12_walkLine_59 (by decide) (fun hc59 => ?_) (fun hc59 => ?_)
    · rw [eO] at hc59; cases hc59
    · skip
      refine z_vret (pc := 62) C dX12_walkLine_62 rfl (Nat.zero_le _) (Nat.zero_le _) ⟨rfl, ?_, rfl⟩
      exact LQ.of hO4 (((hV1.tr hV2).tr hV3).tr hV4) hR4 hS4 (fun z => by cases hc59.symm.trans z) (fun a q1 q2 q3 q4 => ((F4 a q1 q2).trans ((F3 a q1 q2).trans ((F2 a q1 q2).trans (F1 a q1 q2)))))
  · skip
    obtain ⟨i1, ⟨i2, i3, i4, i5, i6⟩, i7, i8, i9⟩ := hI (oB_f (oP_f (oB_f hc14)))
    have i11 := i8 (sNv R B 7 10 o) (by omega)
    have i10 := i7 (S (8 * sNv R B 7 10 o)) (by omega)
    obtain ⟨t2, ht2⟩ := oF_f hc14
    refine z_aload_n (pc := 17) C dX12_walkLine_17 2 rfl ?_
    refine z_getf (pc := 18) C dX12_walkLine_18 fX12_23 hM2 (by first | rfl | assumption) ?_
    refine z_bipush (pc := 21) C dX12_walkLine_21 (nI 23) (by decide) ?_
    refine z_aload_n (pc := 23) C dX12_walkLine_23 2 rfl ?_
    refine z_getf (pc := 24) C dX12_walkLine_24 fX12_29 hM2 (by first | rfl | assumption) ?_
    refine z_bipush (pc := 27) C dX12_walkLine_27 (nI 8) (by decide) ?_
    refine z_iload_n (pc := 29) C dX12_walkLine_29 1 rfl ?_
    first | refine z_imulN (pc := 30) C dX12_walkLine_30 ?_ | refine z_imul (pc := 30) C dX12_walkLine_30 ?_
    first | refine z_ialdN (pc := 31) C dX12_walkLine_31 hS2 (by omega) (by decide) ?_ | refine z_ialdI (pc := 31) C dX12_walkLine_31 hS2 (by omega) (by decide) ?_
    first | refine z_iaddN (pc := 32) C dX12_walkLine_32 ?_ | refine z_iadd (pc := 32) C dX12_walkLine_32 ?_
    first | refine z_ialdN (pc := 33) C dX12_walkLine_33 hR2 (by omega) (by decide) ?_ | refine z_ialdI (pc := 33) C dX12_walkLine_33 hR2 (by omega) (by decide) ?_
    refine z_iload_n (pc := 34) C dX12_walkLine_34 0 rfl ?_
    refine z_cS1 (pc := 35) mX12_hasBit C [_, _] dX12_walkLine_35 lX12_236 mtX12_hasBit (tX12_hasBit (a := R (23 + S (8 * sNv R B 7 10 o))) (k := sNv R B 0 6 (oP B n0 (oB o (sNmd R B 7 10)))) (by omega) (by omega)) rfl rfl (by decide) (Nat.le_of_ble_eq_true rfl) (Nat.zero_le _) (Nat.zero_le _) ?_
    first | refine z_ifneB (pc := 38) C 51 dX12_walkLine_38 (by decide) (fun hc38 => ?_) (fun hc38 => ?_) | refine z_ifneN (pc := 38) C 51 dX12_walkLine_38 (by decide) (by omega) (fun hc38 => ?_) (fun hc38 => ?_) | refine z_if_ne (pc := 38) C 51 dX12_walkLine_38 (by decide) (fun hc38 => ?_) (fun hc38 => ?_)
    · skip
      have eO : lWaO R S B n0 o = .inl t2 := by unfold lWaO; rw [ht2, oB_inl, if_pos hc38]
      have hO3 := hO2
      rw [ht2, ← eO] at hO3
      have f3 := hO3.f
      have hM3 := hM2
      have hR3 := hR2
      have hS3 := hS2
      have hV3 : rW v2 v2 := rW.rf _
      have F3 : rF h2 h2 := rF.rf _
      refine z_aload_n (pc := 51) C dX12_walkLine_51 2 rfl ?_
      refine z_cV0Q (pc := 52) mX12_pass C [] dX12_walkLine_52 lX12_157 mtX12_pass (tX12_passO hO3 (fun t9 ht9 => by first | (rw [eO] at ht9; cases ht9; done) | (rw [eO] at ht9; cases ht9; rw [oB_nt _ ht2]; decide))) hM3 rfl rfl (by decide) (Nat.le_of_ble_eq_true rfl) (Nat.zero_le _) (Nat.zero_le _) ?_
      rintro h4 ⟨⟨v4, hO4, hV4⟩, F4⟩
      have hM4 := hO4.m
      have f4 := hO4.f
      have hR4 : h4 1067 = _ := (F4 1067 (by decide) (by decide)).trans hR3
      have hS4 : h4 1069 = _ := (F4 1069 (by decide) (by decide)).trans hS3
      refine z_aload_n (pc := 55) C dX12_walkLine_55 2 rfl ?_
      refine z_getf (pc := 56) C dX12_walkLine_56 fX12_94 hM4 (by first | rfl | assumption) ?_
      rw [f4]
      first | refine z_ifeqB (pc := 59) C 63 dX12_walkLine_59 (by decide) (fun hc59 => ?_) (fun hc59 => ?_) | refine z_ifeqN (pc := 59) C 63 dX12_walkLine_59 (by decide) (by omega) (fun hc59 => ?_) (fun hc59 => ?_) | refine z_if_eq (pc := 59) C 63 dX12_walkLine_59 (by decide) (fun hc59 => ?_) (fun hc59 => ?_)
      · skip
        refine z_aload_n (pc := 63) C dX12_walkLine_63 2 rfl ?_
        refine z_getf (pc := 64) C dX12_walkLine_64 fX12_29 hM4 (by first | rfl | assumption) ?_
        refine z_iload_n (pc := 67) C dX12_walkLine_67 1 rfl ?_
        refine z_iload_n (pc := 68) C dX12_walkLine_68 0 rfl ?_
        refine z_cS0 (pc := 69) mX12_stepOf C [_, _, _] dX12_walkLine_69 lX12_252 mtX12_stepOf (tX12_stepOf hS4 (by omega)) rfl rfl (by decide) (Nat.le_of_ble_eq_true rfl) (Nat.zero_le _) (Nat.zero_le _) ?_
        generalize eh5 : zup h4 1069 (zI 40 (sgo S (sNv R B 7 10 o) (sNv R B 0 6 (oP B n0 (oB o (sNmd R B 7 10)))))) = h5
        have G5 : ∀ a, a ≠ 1069 → h5 a = h4 a := fun a q => by rw [← eh5]; exact zup_ne q
        have hO5 := hO4.on (hh := h5) (fun a q => G5 a (by omega))
        have hM5 := hO5.m
        have f5 := f4
        have hS5 : h5 1069 = some (zI 40 (sgo S (sNv R B 7 10 o) (sNv R B 0 6 (oP B n0 (oB o (sNmd R B 7 10)))))) := by rw [← eh5]; exact zup_same _ _ _
        have hR5 := (G5 1067 (by decide)).trans hR4
        refine z_aload_n (pc := 72) C dX12_walkLine_72 2 rfl ?_
        refine z_getf (pc := 73) C dX12_walkLine_73 fX12_23 hM5 (by first | rfl | assumption) ?_
        refine z_bipush (pc := 76) C dX12_walkLine_76 (nI 6) (by decide) ?_
        refine z_dup2 (pc := 78) C dX12_walkLine_78 rfl rfl ?_
        first | refine z_ialdN (pc := 79) C dX12_walkLine_79 hR5 (by omega) (by decide) ?_ | refine z_ialdI (pc := 79) C dX12_walkLine_79 hR5 (by omega) (by decide) ?_
        refine z_iconst (pc := 80) C dX12_walkLine_80 (nI 1) (by decide) ?_
        first | refine z_iaddN (pc := 81) C dX12_walkLine_81 ?_ | refine z_iadd (pc := 81) C dX12_walkLine_81 ?_
        first | refine z_iastN (pc := 82) C dX12_walkLine_82 hR5 (by omega) (by decide) ?_ | refine z_iastI (pc := 82) C dX12_walkLine_82 hR5 (by omega) (by decide) ?_
        generalize eh6 : zup h5 1067 (zI 241 (nup R 6 (R 6 + 1))) = h6
        have G6 : ∀ a, a ≠ 1067 → h6 a = h5 a := fun a q => by rw [← eh6]; exact zup_ne q
        have hO6 := hO5.on (hh := h6) (fun a q => G6 a (by omega))
        have hM6 := hO6.m
        have f6 := f5
        have hR6 : h6 1067 = some (zI 241 (nup R 6 (R 6 + 1))) := by rw [← eh6]; exact zup_same _ _ _
        have hS6 := (G6 1069 (by decide)).trans hS5
        refine z_vret (pc := 83) C dX12_walkLine_83 rfl (Nat.zero_le _) (Nat.zero_le _) ⟨rfl, ?_, rfl⟩
        exact LQ.of hO6 (((hV1.tr hV2).tr hV3).tr hV4) hR6 hS6 (fun _ => ⟨rfl, rfl⟩) (fun a q1 q2 q3 q4 => ((G6 a q3).trans ((G5 a q4).trans ((F4 a q1 q2).trans ((F3 a q1 q2).trans ((F2 a q1 q2).trans (F1 a q1 q2)))))))
      · rw [eO] at hc59; cases hc59
    · skip
      refine z_aload_n (pc := 41) C dX12_walkLine_41 2 rfl ?_
      refine z_bipush (pc := 42) C dX12_walkLine_42 (nI 7) (by decide) ?_
      refine z_aload_n (pc := 44) C dX12_walkLine_44 2 rfl ?_
      refine z_getf (pc := 45) C dX12_walkLine_45 fX12_75 hM2 (by first | rfl | assumption) ?_
      refine z_cV0Q (pc := 48) mX12_wrong C [_, _] dX12_walkLine_48 lX12_121 mtX12_wrong (tX12_wrongO (f := 7) hO2 (hO2.at (t := (0, 0, 0)))) hM2 rfl rfl (by decide) (Nat.le_of_ble_eq_true rfl) (Nat.zero_le _) (Nat.zero_le _) ?_
      rintro h3 ⟨⟨v3, hO3, hV3⟩, F3⟩
      have hM3 := hO3.m
      have f3 := hO3.f
      have hR3 : h3 1067 = _ := (F3 1067 (by decide) (by decide)).trans hR2
      have hS3 : h3 1069 = _ := (F3 1069 (by decide) (by decide)).trans hS2
      have eO : lWaO R S B n0 o = .inr (7, t2.2.1) := by unfold lWaO; rw [ht2, oB_inl, if_neg (by rw [show _ = false from hc38]; decide)]
      rw [ht2] at hO3 f3
      rw [show oX (.inl t2) 7 = lWaO R S B n0 o from eO.symm] at hO3 f3
      refine z_aload_n (pc := 51) C dX12_walkLine_51 2 rfl ?_
      refine z_cV0Q (pc := 52) mX12_pass C [] dX12_walkLine_52 lX12_157 mtX12_pass (tX12_passO hO3 (fun t9 ht9 => by first | (rw [eO] at ht9; cases ht9; done) | (rw [eO] at ht9; cases ht9; rw [oB_nt _ ht2]; decide))) hM3 rfl rfl (by decide) (Nat.le_of_ble_eq_true rfl) (Nat.zero_le _) (Nat.zero_le _) ?_
      rintro h4 ⟨⟨v4, hO4, hV4⟩, F4⟩
      have hM4 := hO4.m
      have f4 := hO4.f
      have hR4 : h4 1067 = _ := (F4 1067 (by decide) (by decide)).trans hR3
      have hS4 : h4 1069 = _ := (F4 1069 (by decide) (by decide)).trans hS3
      refine z_aload_n (pc := 55) C dX12_walkLine_55 2 rfl ?_
      refine z_getf (pc := 56) C dX12_walkLine_56 fX12_94 hM4 (by first | rfl | assumption) ?_
      rw [f4]
      first | refine z_ifeqB (pc := 59) C 63 dX12_walkLine_59 (by decide) (fun hc59 => ?_) (fun hc59 => ?_) | refine z_ifeqN (pc := 59) C 63 dX12_walkLine_59 (by decide) (by omega) (fun hc59 => ?_) (fun hc59 => ?_) | refine z_if_eq (pc := 59) C 63 dX12_walkLine_59 (by decide) (fun hc59 => ?_) (fun hc59 => ?_)
      · rw [eO] at hc59; cases hc59
      · skip
        refine z_vret (pc := 62) C dX12_walkLine_62 rfl (Nat.zero_le _) (Nat.zero_le _) ⟨rfl, ?_, rfl⟩
        exact LQ.of hO4 (((hV1.tr hV2).tr hV3).tr hV4) hR4 hS4 (fun z => by cases hc59.symm.trans z) (fun a q1 q2 q3 q4 => ((F4 a q1 q2).trans ((F3 a q1 q2).trans ((F2 a q1 q2).trans (F1 a q1 q2)))))

set_option maxRecDepth 20000 in
set_option maxHeartbeats 1000000 in
theorem tX12_takenLine {h : ZH} {v : Nat → Int32} {B R S : Nat → Nat} {n0 : Nat} {o : TO} (hO0 : MO h v B n0 o) (hR0 : h 1067 = some (zI 241 R)) (hS0 : h 1069 = some (zI 40 S)) (hI : oF o = false → RI R S) : ZQ0 mX12_takenLine 9 [.ref 1063] h (fun hh => LQ h hh v B n0 (lTa R S B n0 o)) := by
  intro n
  have hM0 := hO0.m
  have f0 := hO0.f
  have ha : sNv R B 11 16 o ≤ 5 := sNv_le o
  have hb : sNv R B 7 10 (oP B n0 (oB o (sNmd R B 11 16))) ≤ 3 := sNv_le _
  refine z_enter (lv := [(0, _)]) (by decide) (Nat.le_of_ble_eq_true rfl) rfl (fun X C => ?_)
  refine z_aload_n (pc := 0) C dX12_takenLine_0 0 rfl ?_
  refine z_bipush (pc := 1) C dX12_takenLine_1 (nI 11) (by decide) ?_
  refine z_bipush (pc := 3) C dX12_takenLine_3 (nI 16) (by decide) ?_
  refine z_cV1Q (pc := 5) mX12_named C [_, _] dX12_takenLine_5 lX12_150 mtX12_named (tX12_namedO hO0 hR0 (fun z => (hI z).1) (by decide)) hM0 rfl rfl (by decide) (Nat.le_of_ble_eq_true rfl) (Nat.zero_le _) (Nat.zero_le _) ?_
  rintro _ h1 ⟨rfl, ⟨v1, hO1, hV1⟩, F1⟩
  have hM1 := hO1.m
  have f1 := hO1.f
  have hR1 : h1 1067 = _ := (F1 1067 (by decide) (by decide)).trans hR0
  have hS1 : h1 1069 = _ := (F1 1069 (by decide) (by decide)).trans hS0
  refine z_istore_n (pc := 8) (lv' := [(1, _), (0, _)]) C dX12_takenLine_8 (by decide) rfl ?_
  refine z_aload_n (pc := 9) C dX12_takenLine_9 1 rfl ?_
  refine z_cV0Q (pc := 10) mX12_pass C [] dX12_takenLine_10 lX12_157 mtX12_pass (tX12_passO hO1 (fun t9 ht9 => by rw [oB_nt _ ht9]; decide)) hM1 rfl rfl (by decide) (Nat.le_of_ble_eq_true rfl) (Nat.zero_le _) (Nat.zero_le _) ?_
  rintro h2 ⟨⟨v2, hO2, hV2⟩, F2⟩
  have hM2 := hO2.m
  have f2 := hO2.f
  have hR2 : h2 1067 = _ := (F2 1067 (by decide) (by decide)).trans hR1
  have hS2 : h2 1069 = _ := (F2 1069 (by decide) (by decide)).trans hS1
  refine z_aload_n (pc := 13) C dX12_takenLine_13 1 rfl ?_
  refine z_cV1Q (pc := 14) mX12_manHere C [] dX12_takenLine_14 lX12_160 mtX12_manHere (tX12_manHere hO2 hR2 (fun z => (hI (oB_f (oP_f z))).1)) hM2 rfl rfl (by decide) (Nat.le_of_ble_eq_true rfl) (Nat.zero_le _) (Nat.zero_le _) ?_
  rintro _ h3 ⟨rfl, ⟨v3, hO3, hV3⟩, F3⟩
  have hM3 := hO3.m
  have f3 := hO3.f
  have hR3 : h3 1067 = _ := (F3 1067 (by decide) (by decide)).trans hR2
  have hS3 : h3 1069 = _ := (F3 1069 (by decide) (by decide)).trans hS2
  refine z_istore_n (pc := 17) (lv' := [(2, _), (1, _), (0, _)]) C dX12_takenLine_17 (by decide) rfl ?_
  refine z_aload_n (pc := 18) C dX12_takenLine_18 2 rfl ?_
  refine z_getf (pc := 19) C dX12_takenLine_19 fX12_94 hM3 (by first | rfl | assumption) ?_
  rw [f3]
  first | refine z_ifneB (pc := 22) C 47 dX12_takenLine_22 (by decide) (fun hc22 => ?_) (fun hc22 => ?_) | refine z_ifneN (pc := 22) C 47 dX12_takenLine_22 (by decide) (by omega) (fun hc22 => ?_) (fun hc22 => ?_) | refine z_if_ne (pc := 22) C 47 dX12_takenLine_22 (by decide) (fun hc22 => ?_) (fun hc22 => ?_)
  · skip
    obtain ⟨e, he⟩ := oF_t hc22
    have eO : lTaO R S B n0 o = .inr e := by unfold lTaO; rw [oBn hc22, he]
    have hO4 := hO3
    rw [he, ← eO] at hO4
    have f4 := hO4.f
    have hM4 := hM3
    have hR4 := hR3
    have hS4 := hS3
    have hV4 : rW v3 v3 := rW.rf _
    have F4 : rF h3 h3 := rF.rf _
    refine z_aload_n (pc := 47) C dX12_takenLine_47 2 rfl ?_
    refine z_cV0Q (pc := 48) mX12_pass C [] dX12_takenLine_48 lX12_157 mtX12_pass (tX12_passO hO4 (fun t9 ht9 => by first | (rw [eO] at ht9; cases ht9; done) | (rw [eO] at ht9; cases ht9; rw [oB_nt _ ht2]; decide))) hM4 rfl rfl (by decide) (Nat.le_of_ble_eq_true rfl) (Nat.zero_le _) (Nat.zero_le _) ?_
    rintro h5 ⟨⟨v5, hO5, hV5⟩, F5⟩
    have hM5 := hO5.m
    have f5 := hO5.f
    have hR5 : h5 1067 = _ := (F5 1067 (by decide) (by decide)).trans hR4
    have hS5 : h5 1069 = _ := (F5 1069 (by decide) (by decide)).trans hS4
    refine z_aload_n (pc := 51) C dX12_takenLine_51 2 rfl ?_
    refine z_getf (pc := 52) C dX12_takenLine_52 fX12_94 hM5 (by first | rfl | assumption) ?_
    rw [f5]
    first | refine z_ifeqB (pc := 55) C 59 dX12_takenLine_55 (by decide) (fun hc55 => ?_) (fun hc55 => ?_) | refine z_ifeqN (pc := 55) C 59 dX12_takenLine_55 (by decide) (by omega) (fun hc55 => ?_) (fun hc55 => ?_) | refine z_if_eq (pc := 55) C 59 dX12_takenLine_55 (by decide) (fun hc55 => ?_) (fun hc55 => ?_)
    · rw [eO] at hc55; cases hc55
    · skip
      refine z_vret (pc := 58) C dX12_takenLine_58 rfl (Nat.zero_le _) (Nat.zero_le _) ⟨rfl, ?_, rfl⟩
      exact LQ.of hO5 ((((hV1.tr hV2).tr hV3).tr hV4).tr hV5) hR5 hS5 (fun z => by cases hc55.symm.trans z) (fun a q1 q2 q3 q4 => ((F5 a q1 q2).trans ((F4 a q1 q2).trans ((F3 a q1 q2).trans ((F2 a q1 q2).trans (F1 a q1 q2))))))
  · skip
    obtain ⟨i1, ⟨i2, i3, i4, i5, i6⟩, i7, i8, i9⟩ := hI (oB_f (oP_f (oB_f hc22)))
    have i10 := i9 (sNv R B 11 16 o) (by omega)
    obtain ⟨t2, ht2⟩ := oF_f hc22
    refine z_aload_n (pc := 25) C dX12_takenLine_25 2 rfl ?_
    refine z_getf (pc := 26) C dX12_takenLine_26 fX12_29 hM3 (by first | rfl | assumption) ?_
    refine z_bipush (pc := 29) C dX12_takenLine_29 (nI 32) (by decide) ?_
    refine z_iload_n (pc := 31) C dX12_takenLine_31 1 rfl ?_
    first | refine z_iaddN (pc := 32) C dX12_takenLine_32 ?_ | refine z_iadd (pc := 32) C dX12_takenLine_32 ?_
    first | refine z_ialdN (pc := 33) C dX12_takenLine_33 hS3 (by omega) (by decide) ?_ | refine z_ialdI (pc := 33) C dX12_takenLine_33 hS3 (by omega) (by decide) ?_
    refine z_iload_n (pc := 34) C dX12_takenLine_34 0 rfl ?_
    first | refine z_icmpneN (pc := 35) C 47 dX12_takenLine_35 (by decide) (by omega) (by omega) (fun hc35 => ?_) (fun hc35 => ?_) | refine z_icmp_ne (pc := 35) C 47 dX12_takenLine_35 (by decide) (fun hc35 => ?_) (fun hc35 => ?_)
    · skip
      have eO : lTaO R S B n0 o = .inl t2 := by unfold lTaO; rw [ht2, oB_inl, if_neg hc35]
      have hO4 := hO3
      rw [ht2, ← eO] at hO4
      have f4 := hO4.f
      have hM4 := hM3
      have hR4 := hR3
      have hS4 := hS3
      have hV4 : rW v3 v3 := rW.rf _
      have F4 : rF h3 h3 := rF.rf _
      refine z_aload_n (pc := 47) C dX12_takenLine_47 2 rfl ?_
      refine z_cV0Q (pc := 48) mX12_pass C [] dX12_takenLine_48 lX12_157 mtX12_pass (tX12_passO hO4 (fun t9 ht9 => by first | (rw [eO] at ht9; cases ht9; done) | (rw [eO] at ht9; cases ht9; rw [oB_nt _ ht2]; decide))) hM4 rfl rfl (by decide) (Nat.le_of_ble_eq_true rfl) (Nat.zero_le _) (Nat.zero_le _) ?_
      rintro h5 ⟨⟨v5, hO5, hV5⟩, F5⟩
      have hM5 := hO5.m
      have f5 := hO5.f
      have hR5 : h5 1067 = _ := (F5 1067 (by decide) (by decide)).trans hR4
      have hS5 : h5 1069 = _ := (F5 1069 (by decide) (by decide)).trans hS4
      refine z_aload_n (pc := 51) C dX12_takenLine_51 2 rfl ?_
      refine z_getf (pc := 52) C dX12_takenLine_52 fX12_94 hM5 (by first | rfl | assumption) ?_
      rw [f5]
      first | refine z_ifeqB (pc := 55) C 59 dX12_takenLine_55 (by decide) (fun hc55 => ?_) (fun hc55 => ?_) | refine z_ifeqN (pc := 55) C 59 dX12_takenLine_55 (by decide) (by omega) (fun hc55 => ?_) (fun hc55 => ?_) | refine z_if_eq (pc := 55) C 59 dX12_takenLine_55 (by decide) (fun hc55 => ?_) (fun hc55 => ?_)
      · skip
        refine z_aload_n (pc := 59) C dX12_takenLine_59 2 rfl ?_
        refine z_getf (pc := 60) C dX12_takenLine_60 fX12_29 hM5 (by first | rfl | assumption) ?_
        refine z_bipush (pc := 63) C dX12_takenLine_63 (nI 32) (by decide) ?_
        refine z_iload_n (pc := 65) C dX12_takenLine_65 1 rfl ?_
        first | refine z_iaddN (pc := 66) C dX12_takenLine_66 ?_ | refine z_iadd (pc := 66) C dX12_takenLine_66 ?_
        refine z_iload_n (pc := 67) C dX12_takenLine_67 0 rfl ?_
        first | refine z_iastN (pc := 68) C dX12_takenLine_68 hS5 (by omega) (by decide) ?_ | refine z_iastI (pc := 68) C dX12_takenLine_68 hS5 (by omega) (by decide) ?_
        generalize eh6 : zup h5 1069 (zI 40 (nup S (32 + sNv R B 11 16 o) (sNv R B 7 10 (oP B n0 (oB o (sNmd R B 11 16)))))) = h6
        have G6 : ∀ a, a ≠ 1069 → h6 a = h5 a := fun a q => by rw [← eh6]; exact zup_ne q
        have hO6 := hO5.on (hh := h6) (fun a q => G6 a (by omega))
        have hM6 := hO6.m
        have f6 := f5
        have hS6 : h6 1069 = some (zI 40 (nup S (32 + sNv R B 11 16 o) (sNv R B 7 10 (oP B n0 (oB o (sNmd R B 11 16)))))) := by rw [← eh6]; exact zup_same _ _ _
        have hR6 := (G6 1067 (by decide)).trans hR5
        refine z_aload_n (pc := 69) C dX12_takenLine_69 2 rfl ?_
        refine z_getf (pc := 70) C dX12_takenLine_70 fX12_23 hM6 (by first | rfl | assumption) ?_
        refine z_bipush (pc := 73) C dX12_takenLine_73 (nI 7) (by decide) ?_
        refine z_dup2 (pc := 75) C dX12_takenLine_75 rfl rfl ?_
        first | refine z_ialdN (pc := 76) C dX12_takenLine_76 hR6 (by omega) (by decide) ?_ | refine z_ialdI (pc := 76) C dX12_takenLine_76 hR6 (by omega) (by decide) ?_
        refine z_iconst (pc := 77) C dX12_takenLine_77 (nI 1) (by decide) ?_
        first | refine z_iaddN (pc := 78) C dX12_takenLine_78 ?_ | refine z_iadd (pc := 78) C dX12_takenLine_78 ?_
        first | refine z_iastN (pc := 79) C dX12_takenLine_79 hR6 (by omega) (by decide) ?_ | refine z_iastI (pc := 79) C dX12_takenLine_79 hR6 (by omega) (by decide) ?_
        generalize eh7 : zup h6 1067 (zI 241 (nup R 7 (R 7 + 1))) = h7
        have G7 : ∀ a, a ≠ 1067 → h7 a = h6 a := fun a q => by rw [← eh7]; exact zup_ne q
        have hO7 := hO6.on (hh := h7) (fun a q => G7 a (by omega))
        have hM7 := hO7.m
        have f7 := f6
        have hR7 : h7 1067 = some (zI 241 (nup R 7 (R 7 + 1))) := by rw [← eh7]; exact zup_same _ _ _
        have hS7 := (G7 1069 (by decide)).trans hS6
        refine z_vret (pc := 80) C dX12_takenLine_80 rfl (Nat.zero_le _) (Nat.zero_le _) ⟨rfl, ?_, rfl⟩
        exact LQ.of hO7 ((((hV1.tr hV2).tr hV3).tr hV4).tr hV5) hR7 hS7 (fun _ => ⟨rfl, rfl⟩) (fun a q1 q2 q3 q4 => ((G7 a q3).trans ((G6 a q4).trans ((F5 a q1 q2).trans ((F4 a q1 q2).trans ((F3 a q1 q2).trans ((F2 a q1 q2).trans (F1 a q1 q2))))))))
      · rw [eO] at hc55; cases hc55
    · skip
      refine z_aload_n (pc := 38) C dX12_takenLine_38 2 rfl ?_
      refine z_iconst (pc := 39) C dX12_takenLine_39 (nI 3) (by decide) ?_
      refine z_aload_n (pc := 40) C dX12_takenLine_40 2 rfl ?_
      refine z_getf (pc := 41) C dX12_takenLine_41 fX12_75 hM3 (by first | rfl | assumption) ?_
      refine z_cV0Q (pc := 44) mX12_wrong C [_, _] dX12_takenLine_44 lX12_121 mtX12_wrong (tX12_wrongO (f := 3) hO3 (hO3.at (t := (0, 0, 0)))) hM3 rfl rfl (by decide) (Nat.le_of_ble_eq_true rfl) (Nat.zero_le _) (Nat.zero_le _) ?_
      rintro h4 ⟨⟨v4, hO4, hV4⟩, F4⟩
      have hM4 := hO4.m
      have f4 := hO4.f
      have hR4 : h4 1067 = _ := (F4 1067 (by decide) (by decide)).trans hR3
      have hS4 : h4 1069 = _ := (F4 1069 (by decide) (by decide)).trans hS3
      have eO : lTaO R S B n0 o = .inr (3, t2.2.1) := by unfold lTaO; rw [ht2, oB_inl, if_pos hc35]
      rw [ht2] at hO4 f4
      rw [show oX (.inl t2) 3 = lTaO R S B n0 o from eO.symm] at hO4 f4
      refine z_aload_n (pc := 47) C dX12_takenLine_47 2 rfl ?_
      refine z_cV0Q (pc := 48) mX12_pass C [] dX12_takenLine_48 lX12_157 mtX12_pass (tX12_passO hO4 (fun t9 ht9 => by first | (rw [eO] at ht9; cases ht9; done) | (rw [eO] at ht9; cases ht9; rw [oB_nt _ ht2]; decide))) hM4 rfl rfl (by decide) (Nat.le_of_ble_eq_true rfl) (Nat.zero_le _) (Nat.zero_le _) ?_
      rintro h5 ⟨⟨v5, hO5, hV5⟩, F5⟩
      have hM5 := hO5.m
      have f5 := hO5.f
      have hR5 : h5 1067 = _ := (F5 1067 (by decide) (by decide)).trans hR4
      have hS5 : h5 1069 = _ := (F5 1069 (by decide) (by decide)).trans hS4
      refine z_aload_n (pc := 51) C dX12_takenLine_51 2 rfl ?_
      refine z_getf (pc := 52) C dX12_takenLine_52 fX12_94 hM5 (by first | rfl | assumption) ?_
      rw [f5]
      first | refine z_ifeqB (pc := 55) C 59 dX12_takenLine_55 (by decide) (fun hc55 => ?_) (fun hc55 => ?_) | refine z_ifeqN (pc := 55) C 59 dX12_takenLine_55 (by decide) (by omega) (fun hc55 => ?_) (fun hc55 => ?_) | refine z_if_eq (pc := 55) C 59 dX12_takenLine_55 (by decide) (fun hc55 => ?_) (fun hc55 => ?_)
      · rw [eO] at hc55; cases hc55
      · skip
        refine z_vret (pc := 58) C dX12_takenLine_58 rfl (Nat.zero_le _) (Nat.zero_le _) ⟨rfl, ?_, rfl⟩
        exact LQ.of hO5 ((((hV1.tr hV2).tr hV3).tr hV4).tr hV5) hR5 hS5 (fun z => by cases hc55.symm.trans z) (fun a q1 q2 q3 q4 => ((F5 a q1 q2).trans ((F4 a q1 q2).trans ((F3 a q1 q2).trans ((F2 a q1 q2).trans (F1 a q1 q2))))))

set_option maxRecDepth 20000 in
set_option maxHeartbeats 1000000 in
theorem tX12_strayLine {h : ZH} {v : Nat → Int32} {B R S : Nat → Nat} {n0 : Nat} {o : TO} (hO0 : MO h v B n0 o) (hR0 : h 1067 = some (zI 241 R)) (hS0 : h 1069 = some (zI 40 S)) (hI : oF o = false → RI R S) (hc : oF o = false → R 5 < 3) : ZQ0 mX12_strayLine 9 [.ref 1063] h (fun hh => LQ h hh v B n0 (lSt R S B n0 o)) := by
  intro n
  have hM0 := hO0.m
  have f0 := hO0.f
  refine z_enter (lv := [(0, _)]) (by decide) (Nat.le_of_ble_eq_true rfl) rfl (fun X C => ?_)
  refine z_aload_n (pc := 0) C dX12_strayLine_0 0 rfl ?_
  refine z_getf (pc := 1) C dX12_strayLine_1 fX12_94 hM0 (by first | rfl | assumption) ?_
  rw [f0]
  first | refine z_ifeqB (pc := 4) C 8 dX12_strayLine_4 (by decide) (fun hc4 => ?_) (fun hc4 => ?_) | refine z_ifeqN (pc := 4) C 8 dX12_strayLine_4 (by decide) (by omega) (fun hc4 => ?_) (fun hc4 => ?_) | refine z_if_eq (pc := 4) C 8 dX12_strayLine_4 (by decide) (fun hc4 => ?_) (fun hc4 => ?_)
  · skip
    obtain ⟨t, rfl⟩ := oF_f hc4
    obtain ⟨i1, ⟨i2, i3, i4, i5, i6⟩, i7, i8, i9⟩ := hI rfl
    have hk := hO0.1.2.2.2.1
    have i0 := hc rfl
    refine z_aload_n (pc := 8) C dX12_strayLine_8 0 rfl ?_
    refine z_bipush (pc := 9) C dX12_strayLine_9 (nI 17) (by decide) ?_
    refine z_aload_n (pc := 11) C dX12_strayLine_11 0 rfl ?_
    refine z_getf (pc := 12) C dX12_strayLine_12 fX12_23 hM0 (by first | rfl | assumption) ?_
    refine z_iconst (pc := 15) C dX12_strayLine_15 (nI 5) (by decide) ?_
    first | refine z_ialdN (pc := 16) C dX12_strayLine_16 hR0 (by omega) (by decide) ?_ | refine z_ialdI (pc := 16) C dX12_strayLine_16 hR0 (by omega) (by decide) ?_
    first | refine z_iaddN (pc := 17) C dX12_strayLine_17 ?_ | refine z_iadd (pc := 17) C dX12_strayLine_17 ?_
    refine z_cV0Q (pc := 18) mX12_newName C [_] dX12_strayLine_18 lX12_223 mtX12_newName (tX12_newNameY (x := 17 + R 5) hO0.1 hO0.2 hR0 i1 (by omega)) hM0 rfl rfl (by decide) (Nat.le_of_ble_eq_true rfl) (Nat.zero_le _) (Nat.zero_le _) ?_
    rintro h1 ⟨⟨v1, hO1, hV1⟩, ⟨R1, hR1, eR1⟩, F1⟩
    generalize eo1 : sNw R B n0 t = o1 at hO1 eR1
    have hM1 := hO1.m
    have f1 := hO1.f
    have hS1 : h1 1069 = _ := (F1 1069 (by decide) (by decide) (by decide)).trans hS0
    have bR1 : oF o1 = false → ∀ j, j < 241 → R1 j < 2147483648 := fun z => by rw [eR1 z]; exact snm_lt hk i1
    refine z_aload_n (pc := 21) C dX12_strayLine_21 0 rfl ?_
    refine z_ldcS (pc := 22) (ix := 248) (i := 16) (tx := "at") C dX12_strayLine_22 (show (RX12, 248, "at", 16) ∈ zSR by simp [zSR]) ?_
    refine z_cV0Q (pc := 24) mX12_must C [_] dX12_strayLine_24 lX12_163 mtX12_must (tX12_mustO hO1 (by decide)) hM1 rfl rfl (by decide) (Nat.le_of_ble_eq_true rfl) (Nat.zero_le _) (Nat.zero_le _) ?_
    rintro h2 ⟨⟨v2, hO2, hV2⟩, F2⟩
    have hM2 := hO2.m
    have f2 := hO2.f
    have hR2 : h2 1067 = _ := (F2 1067 (by decide) (by decide)).trans hR1
    have hS2 : h2 1069 = _ := (F2 1069 (by decide) (by decide)).trans hS1
    refine z_aload_n (pc := 27) C dX12_strayLine_27 0 rfl ?_
    refine z_cV1Q (pc := 28) mX12_placePassed C [] dX12_strayLine_28 lX12_233 mtX12_placePassed (tX12_placePassed hO2 hR2 (fun z => bR1 (oM_f z))) hM2 rfl rfl (by decide) (Nat.le_of_ble_eq_true rfl) (Nat.zero_le _) (Nat.zero_le _) ?_
    rintro _ h3 ⟨rfl, ⟨v3, hO3, hV3⟩, F3⟩
    have hM3 := hO3.m
    have f3 := hO3.f
    have hR3 : h3 1067 = _ := (F3 1067 (by decide) (by decide)).trans hR2
    have hS3 : h3 1069 = _ := (F3 1069 (by decide) (by decide)).trans hS2
    refine z_istore_n (pc := 31) (lv' := [(1, _), (0, _)]) C dX12_strayLine_31 (by decide) rfl ?_
    refine z_aload_n (pc := 32) C dX12_strayLine_32 1 rfl ?_
    refine z_getf (pc := 33) C dX12_strayLine_33 fX12_94 hM3 (by first | rfl | assumption) ?_
    rw [f3]
    first | refine z_ifeqB (pc := 36) C 40 dX12_strayLine_36 (by decide) (fun hc36 => ?_) (fun hc36 => ?_) | refine z_ifeqN (pc := 36) C 40 dX12_strayLine_36 (by decide) (by omega) (fun hc36 => ?_) (fun hc36 => ?_) | refine z_if_eq (pc := 36) C 40 dX12_strayLine_36 (by decide) (fun hc36 => ?_) (fun hc36 => ?_)
    · skip
      obtain rfl := eR1 (oM_f (oB_f (oP_f hc36)))
      refine z_aload_n (pc := 40) C dX12_strayLine_40 1 rfl ?_
      refine z_getf (pc := 41) C dX12_strayLine_41 fX12_23 hM3 (by first | rfl | assumption) ?_
      refine z_bipush (pc := 44) C dX12_strayLine_44 (nI 58) (by decide) ?_
      refine z_aload_n (pc := 46) C dX12_strayLine_46 1 rfl ?_
      refine z_getf (pc := 47) C dX12_strayLine_47 fX12_23 hM3 (by first | rfl | assumption) ?_
      refine z_iconst (pc := 50) C dX12_strayLine_50 (nI 5) (by decide) ?_
      refine z_ialdE (pc := 51) C dX12_strayLine_51 hR3 (by omega) (by decide) (show (snm R B t (17 + R 5)) 5 = R 5 from snm_ne (by decide)) ?_
      first | refine z_iaddN (pc := 52) C dX12_strayLine_52 ?_ | refine z_iadd (pc := 52) C dX12_strayLine_52 ?_
      refine z_iload_n (pc := 53) C dX12_strayLine_53 0 rfl ?_
      first | refine z_iastN (pc := 54) C dX12_strayLine_54 hR3 (by omega) (by decide) ?_ | refine z_iastI (pc := 54) C dX12_strayLine_54 hR3 (by omega) (by decide) ?_
      generalize eh4 : zup h3 1067 (zI 241 (nup (snm R B t (17 + R 5)) (58 + R 5) (sNv (snm R B t (17 + R 5)) B 0 6 (oM B n0 o1 16)))) = h4
      have G4 : ∀ a, a ≠ 1067 → h4 a = h3 a := fun a q => by rw [← eh4]; exact zup_ne q
      have hO4 := hO3.on (hh := h4) (fun a q => G4 a (by omega))
      have hM4 := hO4.m
      have f4 := f3
      have hR4 : h4 1067 = some (zI 241 (nup (snm R B t (17 + R 5)) (58 + R 5) (sNv (snm R B t (17 + R 5)) B 0 6 (oM B n0 o1 16)))) := by rw [← eh4]; exact zup_same _ _ _
      have hS4 := (G4 1069 (by decide)).trans hS3
      refine z_aload_n (pc := 55) C dX12_strayLine_55 1 rfl ?_
      refine z_getf (pc := 56) C dX12_strayLine_56 fX12_23 hM4 (by first | rfl | assumption) ?_
      refine z_iconst (pc := 59) C dX12_strayLine_59 (nI 5) (by decide) ?_
      refine z_dup2 (pc := 60) C dX12_strayLine_60 rfl rfl ?_
      refine z_ialdE (pc := 61) C dX12_strayLine_61 hR4 (by omega) (by decide) (show nup (snm R B t (17 + R 5)) (58 + R 5) (sNv (snm R B t (17 + R 5)) B 0 6 (oM B n0 o1 16)) 5 = R 5 from (nup_ne (by omega)).trans (snm_ne (by decide))) ?_
      refine z_iconst (pc := 62) C dX12_strayLine_62 (nI 1) (by decide) ?_
      first | refine z_iaddN (pc := 63) C dX12_strayLine_63 ?_ | refine z_iadd (pc := 63) C dX12_strayLine_63 ?_
      first | refine z_iastN (pc := 64) C dX12_strayLine_64 hR4 (by omega) (by decide) ?_ | refine z_iastI (pc := 64) C dX12_strayLine_64 hR4 (by omega) (by decide) ?_
      generalize eh5 : zup h4 1067 (zI 241 (nup (nup (snm R B t (17 + R 5)) (58 + R 5) (sNv (snm R B t (17 + R 5)) B 0 6 (oM B n0 o1 16))) 5 (R 5 + 1))) = h5
      have G5 : ∀ a, a ≠ 1067 → h5 a = h4 a := fun a q => by rw [← eh5]; exact zup_ne q
      have hO5 := hO4.on (hh := h5) (fun a q => G5 a (by omega))
      have hM5 := hO5.m
      have f5 := f4
      have hR5 : h5 1067 = some (zI 241 (nup (nup (snm R B t (17 + R 5)) (58 + R 5) (sNv (snm R B t (17 + R 5)) B 0 6 (oM B n0 o1 16))) 5 (R 5 + 1))) := by rw [← eh5]; exact zup_same _ _ _
      have hS5 := (G5 1069 (by decide)).trans hS4
      refine z_vret (pc := 65) C dX12_strayLine_65 rfl (Nat.zero_le _) (Nat.zero_le _) ⟨rfl, ?_, rfl⟩
      show LQ h _ v B n0 (lStA (snm R B t (17 + R 5)) S B n0 (R 5) (sNw R B n0 t)); rw [eo1]; exact LQ.of hO5 ((hV1.tr hV2).tr hV3) hR5 hS5 (fun _ => ⟨rfl, rfl⟩) (fun a q1 q2 q3 q4 => ((G5 a q3).trans ((G4 a q3).trans ((F3 a q1 q2).trans ((F2 a q1 q2).trans (F1 a q1 q2 q3))))))
    · skip
      refine z_vret (pc := 39) C dX12_strayLine_39 rfl (Nat.zero_le _) (Nat.zero_le _) ⟨rfl, ?_, rfl⟩
      show LQ h _ v B n0 (lStA (snm R B t (17 + R 5)) S B n0 (R 5) (sNw R B n0 t)); rw [eo1]; have eK : (lStA R1 S B n0 (R 5) o1).1 = (lStA (snm R B t (17 + R 5)) S B n0 (R 5) o1).1 := (by cases o1 with | inl t1 => rw [eR1 rfl] | inr e => rfl); exact LQ.of (by rw [← eK]; exact hO3) ((hV1.tr hV2).tr hV3) hR3 hS3 (fun z => by rw [← eK] at z; cases hc36.symm.trans z) (fun a q1 q2 q3 q4 => ((F3 a q1 q2).trans ((F2 a q1 q2).trans (F1 a q1 q2 q3))))
  · skip
    refine z_vret (pc := 7) C dX12_strayLine_7 rfl (Nat.zero_le _) (Nat.zero_le _) ⟨rfl, ?_, rfl⟩
    obtain ⟨e, rfl⟩ := oF_t hc4; exact LQ.of hO0 (rW.rf v) hR0 hS0 (fun z => by cases z) (fun _ _ _ _ _ => rfl)
