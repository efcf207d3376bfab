theorem oF_fe {o : TO} {t : Nat × Nat × Nat} (h : o = .inl t) : oF o = false := by rw [h]; rfl
theorem sKd_w {B : Nat → Nat} {o : TO} {t : Nat × Nat × Nat} {k : Nat} (h : sKd B o = some k) (e : o = .inl t) : t.1 = 1 := by
  subst e
  unfold sKd at h
  repeat' split at h
  all_goals first | exact (of_decide_eq_true (show sspl B t _ = true from by assumption)).1 | cases h

set_option maxRecDepth 20000 in
set_option maxHeartbeats 1000000 in
theorem tX12_killLine {h : ZH} {v : Nat → Int32} {B R S : Nat → Nat} {n0 : Nat} {o : TO} (hO0 : MO h v B n0 o) (hR0 : h 1067 = some (zI 241 R)) (hS0 : h 1069 = some (zI 40 S)) (hI : oF o = false → RI R S) (hc : oF o = false → R 4 < 6) : ZQ0 mX12_killLine 9 [.ref 1063] h (fun hh => LQ h hh v B n0 (lKi R S B n0 o)) := by
  intro n
  have hM0 := hO0.m
  have f0 := hO0.f
  refine z_enter (lv := [(0, _)]) (by decide) (Nat.le_of_ble_eq_true rfl) rfl (fun X C => ?_)
  refine z_aload_n (pc := 0) C dX12_killLine_0 0 rfl ?_
  refine z_getf (pc := 1) C dX12_killLine_1 fX12_94 hM0 (by first | rfl | assumption) ?_
  rw [f0]
  first | refine z_ifeqB (pc := 4) C 8 dX12_killLine_4 (by decide) (fun hc4 => ?_) (fun hc4 => ?_) | refine z_ifeqN (pc := 4) C 8 dX12_killLine_4 (by decide) (by omega) (fun hc4 => ?_) (fun hc4 => ?_) | refine z_if_eq (pc := 4) C 8 dX12_killLine_4 (by decide) (fun hc4 => ?_) (fun hc4 => ?_)
  · skip
    obtain ⟨t, rfl⟩ := oF_f hc4
    obtain ⟨i1, ⟨i2, i3, i4, i5, i6⟩, i7, i8, i9⟩ := hI rfl
    have hk := hO0.1.2.2.2.1
    have i0 := hc rfl
    refine z_aload_n (pc := 8) C dX12_killLine_8 0 rfl ?_
    refine z_getf (pc := 9) C dX12_killLine_9 fX12_23 hM0 (by first | rfl | assumption) ?_
    refine z_iconst (pc := 12) C dX12_killLine_12 (nI 4) (by decide) ?_
    first | refine z_ialdN (pc := 13) C dX12_killLine_13 hR0 (by omega) (by decide) ?_ | refine z_ialdI (pc := 13) C dX12_killLine_13 hR0 (by omega) (by decide) ?_
    refine z_istore_n (pc := 14) (lv' := [(1, _), (0, _)]) C dX12_killLine_14 (by decide) rfl ?_
    refine z_aload_n (pc := 15) C dX12_killLine_15 1 rfl ?_
    refine z_bipush (pc := 16) C dX12_killLine_16 (nI 11) (by decide) ?_
    refine z_iload_n (pc := 18) C dX12_killLine_18 0 rfl ?_
    first | refine z_iaddN (pc := 19) C dX12_killLine_19 ?_ | refine z_iadd (pc := 19) C dX12_killLine_19 ?_
    refine z_cV0Q (pc := 20) mX12_newName C [_] dX12_killLine_20 lX12_223 mtX12_newName (tX12_newNameY (x := 11 + R 4) hO0.1 hO0.2 hR0 i1 (by omega)) hM0 rfl rfl (by decide) (Nat.le_of_ble_eq_true rfl) (Nat.zero_le _) (Nat.zero_le _) ?_
    rintro h1 ⟨⟨v1, hO1, hV1⟩, ⟨R1, hR1, eR1⟩, F1⟩
    generalize eo1 : sNw R B n0 t = o1 at hO1 eR1
    have hM1 := hO1.m
    have f1 := hO1.f
    have hS1 : h1 1069 = _ := (F1 1069 (by decide) (by decide) (by decide)).trans hS0
    have bR1 : oF o1 = false → ∀ j, j < 241 → R1 j < 2147483648 := fun z => by rw [eR1 z]; exact snm_lt hk i1
    refine z_aload_n (pc := 23) C dX12_killLine_23 1 rfl ?_
    refine z_ldcSw (pc := 24) (ix := 256) (i := 17) (tx := "by") C dX12_killLine_24 (show (RX12, 256, "by", 17) ∈ zSR by simp [zSR]) ?_
    refine z_cV0Q (pc := 27) mX12_must C [_] dX12_killLine_27 lX12_163 mtX12_must (tX12_mustO hO1 (by decide)) hM1 rfl rfl (by decide) (Nat.le_of_ble_eq_true rfl) (Nat.zero_le _) (Nat.zero_le _) ?_
    rintro h2 ⟨⟨v2, hO2, hV2⟩, F2⟩
    have hM2 := hO2.m
    have f2 := hO2.f
    have hR2 : h2 1067 = _ := (F2 1067 (by decide) (by decide)).trans hR1
    have hS2 : h2 1069 = _ := (F2 1069 (by decide) (by decide)).trans hS1
    refine z_aload_n (pc := 30) C dX12_killLine_30 1 rfl ?_
    refine z_cV1Q (pc := 31) mX12_manPassed C [] dX12_killLine_31 lX12_249 mtX12_manPassed (tX12_manPassed hO2 hR2 (fun z => bR1 (oM_f z))) hM2 rfl rfl (by decide) (Nat.le_of_ble_eq_true rfl) (Nat.zero_le _) (Nat.zero_le _) ?_
    rintro _ h3 ⟨rfl, ⟨v3, hO3, hV3⟩, F3⟩
    have hM3 := hO3.m
    have f3 := hO3.f
    have hR3 : h3 1067 = _ := (F3 1067 (by decide) (by decide)).trans hR2
    have hS3 : h3 1069 = _ := (F3 1069 (by decide) (by decide)).trans hS2
    refine z_istore_n (pc := 34) (lv' := [(2, _), (1, _), (0, _)]) C dX12_killLine_34 (by decide) rfl ?_
    refine z_aload_n (pc := 35) C dX12_killLine_35 2 rfl ?_
    refine z_getf (pc := 36) C dX12_killLine_36 fX12_23 hM3 (by first | rfl | assumption) ?_
    refine z_bipush (pc := 39) C dX12_killLine_39 (nI 34) (by decide) ?_
    refine z_iconst (pc := 41) C dX12_killLine_41 (nI 4) (by decide) ?_
    refine z_iload_n (pc := 42) C dX12_killLine_42 1 rfl ?_
    first | refine z_imulN (pc := 43) C dX12_killLine_43 ?_ | refine z_imul (pc := 43) C dX12_killLine_43 ?_
    first | refine z_iaddN (pc := 44) C dX12_killLine_44 ?_ | refine z_iadd (pc := 44) C dX12_killLine_44 ?_
    refine z_iload_n (pc := 45) C dX12_killLine_45 0 rfl ?_
    first | refine z_iastN (pc := 46) C dX12_killLine_46 hR3 (by omega) (by decide) ?_ | refine z_iastI (pc := 46) C dX12_killLine_46 hR3 (by omega) (by decide) ?_
    generalize eh4 : zup h3 1067 (zI 241 (nup R1 (34 + 4 * R 4) (sNv R1 B 7 10 (oM B n0 o1 17)))) = h4
    have G4 : ∀ a, a ≠ 1067 → h4 a = h3 a := fun a q => by rw [← eh4]; exact zup_ne q
    have hO4 := hO3.on (hh := h4) (fun a q => G4 a (by omega))
    have hM4 := hO4.m
    have f4 := f3
    have hR4 : h4 1067 = some (zI 241 (nup R1 (34 + 4 * R 4) (sNv R1 B 7 10 (oM B n0 o1 17)))) := by rw [← eh4]; exact zup_same _ _ _
    have hS4 := (G4 1069 (by decide)).trans hS3
    refine z_aload_n (pc := 47) C dX12_killLine_47 2 rfl ?_
    refine z_getf (pc := 48) C dX12_killLine_48 fX12_23 hM4 (by first | rfl | assumption) ?_
    refine z_bipush (pc := 51) C dX12_killLine_51 (nI 34) (by decide) ?_
    refine z_iconst (pc := 53) C dX12_killLine_53 (nI 4) (by decide) ?_
    refine z_iload_n (pc := 54) C dX12_killLine_54 1 rfl ?_
    first | refine z_imulN (pc := 55) C dX12_killLine_55 ?_ | refine z_imul (pc := 55) C dX12_killLine_55 ?_
    first | refine z_iaddN (pc := 56) C dX12_killLine_56 ?_ | refine z_iadd (pc := 56) C dX12_killLine_56 ?_
    refine z_iconst (pc := 57) C dX12_killLine_57 (nI 1) (by decide) ?_
    first | refine z_iaddN (pc := 58) C dX12_killLine_58 ?_ | refine z_iadd (pc := 58) C dX12_killLine_58 ?_
    refine z_aload_n (pc := 59) C dX12_killLine_59 2 rfl ?_
    refine z_ldcSw (pc := 60) (ix := 258) (i := 18) (tx := "far") C dX12_killLine_60 (show (RX12, 258, "far", 18) ∈ zSR by simp [zSR]) ?_
    refine z_iconst (pc := 63) C dX12_killLine_63 (nI 0) (by decide) ?_
    refine z_iconst (pc := 64) C dX12_killLine_64 (nI 3) (by decide) ?_
    refine z_cV1Q (pc := 65) mX12_after C [_, _, _] dX12_killLine_65 lX12_219 mtX12_after (tX12_after hO4 (by decide) (by decide)) hM4 rfl rfl (by decide) (Nat.le_of_ble_eq_true rfl) (Nat.zero_le _) (Nat.zero_le _) ?_
    rintro _ h5 ⟨rfl, ⟨v5, hO5, hV5⟩, F5⟩
    have hM5 := hO5.m
    have f5 := hO5.f
    have hR5 : h5 1067 = _ := (F5 1067 (by decide) (by decide)).trans hR4
    have hS5 : h5 1069 = _ := (F5 1069 (by decide) (by decide)).trans hS4
    first | refine z_iastN (pc := 68) C dX12_killLine_68 hR5 (by omega) (by decide) ?_ | refine z_iastI (pc := 68) C dX12_killLine_68 hR5 (by omega) (by decide) ?_
    generalize eh6 : zup h5 1067 (zI 241 (nup (nup R1 (34 + 4 * R 4) (sNv R1 B 7 10 (oM B n0 o1 17))) (34 + 4 * R 4 + 1) (sAv B n0 18 3 (oP B n0 (oB (oM B n0 o1 17) (sNmd R1 B 7 10)))))) = h6
    have G6 : ∀ a, a ≠ 1067 → h6 a = h5 a := fun a q => by rw [← eh6]; exact zup_ne q
    have hO6 := hO5.on (hh := h6) (fun a q => G6 a (by omega))
    have hM6 := hO6.m
    have f6 := f5
    have hR6 : h6 1067 = some (zI 241 (nup (nup R1 (34 + 4 * R 4) (sNv R1 B 7 10 (oM B n0 o1 17))) (34 + 4 * R 4 + 1) (sAv B n0 18 3 (oP B n0 (oB (oM B n0 o1 17) (sNmd R1 B 7 10)))))) := by rw [← eh6]; exact zup_same _ _ _
    have hS6 := (G6 1069 (by decide)).trans hS5
    refine z_aload_n (pc := 69) C dX12_killLine_69 2 rfl ?_
    refine z_getf (pc := 70) C dX12_killLine_70 fX12_23 hM6 (by first | rfl | assumption) ?_
    refine z_bipush (pc := 73) C dX12_killLine_73 (nI 34) (by decide) ?_
    refine z_iconst (pc := 75) C dX12_killLine_75 (nI 4) (by decide) ?_
    refine z_iload_n (pc := 76) C dX12_killLine_76 1 rfl ?_
    first | refine z_imulN (pc := 77) C dX12_killLine_77 ?_ | refine z_imul (pc := 77) C dX12_killLine_77 ?_
    first | refine z_iaddN (pc := 78) C dX12_killLine_78 ?_ | refine z_iadd (pc := 78) C dX12_killLine_78 ?_
    refine z_iconst (pc := 79) C dX12_killLine_79 (nI 2) (by decide) ?_
    first | refine z_iaddN (pc := 80) C dX12_killLine_80 ?_ | refine z_iadd (pc := 80) C dX12_killLine_80 ?_
    refine z_aload_n (pc := 81) C dX12_killLine_81 2 rfl ?_
    refine z_ldcSw (pc := 82) (ix := 260) (i := 19) (tx := "worth") C dX12_killLine_82 (show (RX12, 260, "worth", 19) ∈ zSR by simp [zSR]) ?_
    refine z_iconst (pc := 85) C dX12_killLine_85 (nI 0) (by decide) ?_
    refine z_bipush (pc := 86) C dX12_killLine_86 (nI 20) (by decide) ?_
    refine z_cV1Q (pc := 88) mX12_after C [_, _, _] dX12_killLine_88 lX12_219 mtX12_after (tX12_after hO6 (by decide) (by decide)) hM6 rfl rfl (by decide) (Nat.le_of_ble_eq_true rfl) (Nat.zero_le _) (Nat.zero_le _) ?_
    rintro _ h7 ⟨rfl, ⟨v7, hO7, hV7⟩, F7⟩
    have hM7 := hO7.m
    have f7 := hO7.f
    have hR7 : h7 1067 = _ := (F7 1067 (by decide) (by decide)).trans hR6
    have hS7 : h7 1069 = _ := (F7 1069 (by decide) (by decide)).trans hS6
    first | refine z_iastN (pc := 91) C dX12_killLine_91 hR7 (by omega) (by decide) ?_ | refine z_iastI (pc := 91) C dX12_killLine_91 hR7 (by omega) (by decide) ?_
    generalize eh8 : zup h7 1067 (zI 241 (nup (nup (nup R1 (34 + 4 * R 4) (sNv R1 B 7 10 (oM B n0 o1 17))) (34 + 4 * R 4 + 1) (sAv B n0 18 3 (oP B n0 (oB (oM B n0 o1 17) (sNmd R1 B 7 10))))) (34 + 4 * R 4 + 2) (sAv B n0 19 20 (sAf B n0 18 3 (oP B n0 (oB (oM B n0 o1 17) (sNmd R1 B 7 10))))))) = h8
    have G8 : ∀ a, a ≠ 1067 → h8 a = h7 a := fun a q => by rw [← eh8]; exact zup_ne q
    have hO8 := hO7.on (hh := h8) (fun a q => G8 a (by omega))
    have hM8 := hO8.m
    have f8 := f7
    have hR8 : h8 1067 = some (zI 241 (nup (nup (nup R1 (34 + 4 * R 4) (sNv R1 B 7 10 (oM B n0 o1 17))) (34 + 4 * R 4 + 1) (sAv B n0 18 3 (oP B n0 (oB (oM B n0 o1 17) (sNmd R1 B 7 10))))) (34 + 4 * R 4 + 2) (sAv B n0 19 20 (sAf B n0 18 3 (oP B n0 (oB (oM B n0 o1 17) (sNmd R1 B 7 10))))))) := by rw [← eh8]; exact zup_same _ _ _
    have hS8 := (G8 1069 (by decide)).trans hS7
    refine z_aload_n (pc := 92) C dX12_killLine_92 2 rfl ?_
    refine z_getf (pc := 93) C dX12_killLine_93 fX12_94 hM8 (by first | rfl | assumption) ?_
    rw [f8]
    first | refine z_ifeqB (pc := 96) C 100 dX12_killLine_96 (by decide) (fun hc96 => ?_) (fun hc96 => ?_) | refine z_ifeqN (pc := 96) C 100 dX12_killLine_96 (by decide) (by omega) (fun hc96 => ?_) (fun hc96 => ?_) | refine z_if_eq (pc := 96) C 100 dX12_killLine_96 (by decide) (fun hc96 => ?_) (fun hc96 => ?_)
    · skip
      obtain rfl := eR1 (oM_f (oB_f (oP_f (sAf_f (sAf_f hc96)))))
      refine z_aload_n (pc := 100) C dX12_killLine_100 2 rfl ?_
      refine z_getf (pc := 101) C dX12_killLine_101 fX12_29 hM8 (by first | rfl | assumption) ?_
      refine z_bipush (pc := 104) C dX12_killLine_104 (nI 32) (by decide) ?_
      refine z_iload_n (pc := 106) C dX12_killLine_106 1 rfl ?_
      first | refine z_iaddN (pc := 107) C dX12_killLine_107 ?_ | refine z_iadd (pc := 107) C dX12_killLine_107 ?_
      refine z_iload_n (pc := 108) C dX12_killLine_108 0 rfl ?_
      first | refine z_iastN (pc := 109) C dX12_killLine_109 hS8 (by omega) (by decide) ?_ | refine z_iastI (pc := 109) C dX12_killLine_109 hS8 (by omega) (by decide) ?_
      generalize eh9 : zup h8 1069 (zI 40 (nup S (32 + R 4) (sNv (snm R B t (11 + R 4)) B 7 10 (oM B n0 o1 17)))) = h9
      have G9 : ∀ a, a ≠ 1069 → h9 a = h8 a := fun a q => by rw [← eh9]; exact zup_ne q
      have hO9 := hO8.on (hh := h9) (fun a q => G9 a (by omega))
      have hM9 := hO9.m
      have f9 := f8
      have hS9 : h9 1069 = some (zI 40 (nup S (32 + R 4) (sNv (snm R B t (11 + R 4)) B 7 10 (oM B n0 o1 17)))) := by rw [← eh9]; exact zup_same _ _ _
      have hR9 := (G9 1067 (by decide)).trans hR8
      refine z_aload_n (pc := 110) C dX12_killLine_110 2 rfl ?_
      refine z_getf (pc := 111) C dX12_killLine_111 fX12_23 hM9 (by first | rfl | assumption) ?_
      refine z_iconst (pc := 114) C dX12_killLine_114 (nI 4) (by decide) ?_
      refine z_dup2 (pc := 115) C dX12_killLine_115 rfl rfl ?_
      refine z_ialdE (pc := 116) C dX12_killLine_116 hR9 (by omega) (by decide) (show (nup (nup (nup (snm R B t (11 + R 4)) (34 + 4 * R 4) (sNv (snm R B t (11 + R 4)) B 7 10 (oM B n0 o1 17))) (34 + 4 * R 4 + 1) (sAv B n0 18 3 (oP B n0 (oB (oM B n0 o1 17) (sNmd (snm R B t (11 + R 4)) B 7 10))))) (34 + 4 * R 4 + 2) (sAv B n0 19 20 (sAf B n0 18 3 (oP B n0 (oB (oM B n0 o1 17) (sNmd (snm R B t (11 + R 4)) B 7 10)))))) 4 = R 4 from (nup_ne (by omega)).trans ((nup_ne (by omega)).trans ((nup_ne (by omega)).trans (snm_ne (by decide))))) ?_
      refine z_iconst (pc := 117) C dX12_killLine_117 (nI 1) (by decide) ?_
      first | refine z_iaddN (pc := 118) C dX12_killLine_118 ?_ | refine z_iadd (pc := 118) C dX12_killLine_118 ?_
      first | refine z_iastN (pc := 119) C dX12_killLine_119 hR9 (by omega) (by decide) ?_ | refine z_iastI (pc := 119) C dX12_killLine_119 hR9 (by omega) (by decide) ?_
      generalize eh10 : zup h9 1067 (zI 241 (nup (nup (nup (nup (snm R B t (11 + R 4)) (34 + 4 * R 4) (sNv (snm R B t (11 + R 4)) B 7 10 (oM B n0 o1 17))) (34 + 4 * R 4 + 1) (sAv B n0 18 3 (oP B n0 (oB (oM B n0 o1 17) (sNmd (snm R B t (11 + R 4)) B 7 10))))) (34 + 4 * R 4 + 2) (sAv B n0 19 20 (sAf B n0 18 3 (oP B n0 (oB (oM B n0 o1 17) (sNmd (snm R B t (11 + R 4)) B 7 10)))))) 4 (R 4 + 1))) = h10
      have G10 : ∀ a, a ≠ 1067 → h10 a = h9 a := fun a q => by rw [← eh10]; exact zup_ne q
      have hO10 := hO9.on (hh := h10) (fun a q => G10 a (by omega))
      have hM10 := hO10.m
      have f10 := f9
      have hR10 : h10 1067 = some (zI 241 (nup (nup (nup (nup (snm R B t (11 + R 4)) (34 + 4 * R 4) (sNv (snm R B t (11 + R 4)) B 7 10 (oM B n0 o1 17))) (34 + 4 * R 4 + 1) (sAv B n0 18 3 (oP B n0 (oB (oM B n0 o1 17) (sNmd (snm R B t (11 + R 4)) B 7 10))))) (34 + 4 * R 4 + 2) (sAv B n0 19 20 (sAf B n0 18 3 (oP B n0 (oB (oM B n0 o1 17) (sNmd (snm R B t (11 + R 4)) B 7 10)))))) 4 (R 4 + 1))) := by rw [← eh10]; exact zup_same _ _ _
      have hS10 := (G10 1069 (by decide)).trans hS9
      refine z_vret (pc := 120) C dX12_killLine_120 rfl (Nat.zero_le _) (Nat.zero_le _) ⟨rfl, ?_, rfl⟩
      show LQ h _ v B n0 (lKiA (snm R B t (11 + R 4)) S B n0 (R 4) (sNw R B n0 t)); rw [eo1]; exact LQ.of hO10 ((((hV1.tr hV2).tr hV3).tr hV5).tr hV7) hR10 hS10 (fun _ => ⟨rfl, rfl⟩) (fun a q1 q2 q3 q4 => ((G10 a q3).trans ((G9 a q4).trans ((G8 a q3).trans ((F7 a q1 q2).trans ((G6 a q3).trans ((F5 a q1 q2).trans ((G4 a q3).trans ((F3 a q1 q2).trans ((F2 a q1 q2).trans (F1 a q1 q2 q3)))))))))))
    · skip
      refine z_vret (pc := 99) C dX12_killLine_99 rfl (Nat.zero_le _) (Nat.zero_le _) ⟨rfl, ?_, rfl⟩
      show LQ h _ v B n0 (lKiA (snm R B t (11 + R 4)) S B n0 (R 4) (sNw R B n0 t)); rw [eo1]; have eK : (lKiA R1 S B n0 (R 4) o1).1 = (lKiA (snm R B t (11 + R 4)) S B n0 (R 4) o1).1 := (by cases o1 with | inl t1 => rw [eR1 rfl] | inr e => rfl); exact LQ.of (by rw [← eK]; exact hO8) ((((hV1.tr hV2).tr hV3).tr hV5).tr hV7) hR8 hS8 (fun z => by rw [← eK] at z; cases hc96.symm.trans z) (fun a q1 q2 q3 q4 => ((G8 a q3).trans ((F7 a q1 q2).trans ((G6 a q3).trans ((F5 a q1 q2).trans ((G4 a q3).trans ((F3 a q1 q2).trans ((F2 a q1 q2).trans (F1 a q1 q2 q3)))))))))
  · skip
    refine z_vret (pc := 7) C dX12_killLine_7 rfl (Nat.zero_le _) (Nat.zero_le _) ⟨rfl, ?_, rfl⟩
    obtain ⟨e, rfl⟩ := oF_t hc4; exact LQ.of hO0 (rW.rf v) hR0 hS0 (fun z => by cases z) (fun _ _ _ _ _ => rfl)

set_option maxRecDepth 20000 in
set_option maxHeartbeats 1000000 in
theorem tX12_manLine {h : ZH} {v : Nat → Int32} {B R S : Nat → Nat} {n0 : Nat} {o : TO} (hO0 : MO h v B n0 o) (hR0 : h 1067 = some (zI 241 R)) (hS0 : h 1069 = some (zI 40 S)) (hI : oF o = false → RI R S) (hc : oF o = false → R 3 < 4) : ZQ0 mX12_manLine 9 [.ref 1063] h (fun hh => LQ h hh v B n0 (lMa R S B n0 o)) := by
  intro n
  have hM0 := hO0.m
  have f0 := hO0.f
  refine z_enter (lv := [(0, _)]) (by decide) (Nat.le_of_ble_eq_true rfl) rfl (fun X C => ?_)
  refine z_aload_n (pc := 0) C dX12_manLine_0 0 rfl ?_
  refine z_getf (pc := 1) C dX12_manLine_1 fX12_94 hM0 (by first | rfl | assumption) ?_
  rw [f0]
  first | refine z_ifeqB (pc := 4) C 8 dX12_manLine_4 (by decide) (fun hc4 => ?_) (fun hc4 => ?_) | refine z_ifeqN (pc := 4) C 8 dX12_manLine_4 (by decide) (by omega) (fun hc4 => ?_) (fun hc4 => ?_) | refine z_if_eq (pc := 4) C 8 dX12_manLine_4 (by decide) (fun hc4 => ?_) (fun hc4 => ?_)
  · skip
    obtain ⟨t, rfl⟩ := oF_f hc4
    obtain ⟨i1, ⟨i2, i3, i4, i5, i6⟩, i7, i8, i9⟩ := hI rfl
    have hk := hO0.1.2.2.2.1
    have i0 := hc rfl
    refine z_aload_n (pc := 8) C dX12_manLine_8 0 rfl ?_
    refine z_getf (pc := 9) C dX12_manLine_9 fX12_23 hM0 (by first | rfl | assumption) ?_
    refine z_iconst (pc := 12) C dX12_manLine_12 (nI 3) (by decide) ?_
    first | refine z_ialdN (pc := 13) C dX12_manLine_13 hR0 (by omega) (by decide) ?_ | refine z_ialdI (pc := 13) C dX12_manLine_13 hR0 (by omega) (by decide) ?_
    refine z_istore_n (pc := 14) (lv' := [(1, _), (0, _)]) C dX12_manLine_14 (by decide) rfl ?_
    refine z_aload_n (pc := 15) C dX12_manLine_15 1 rfl ?_
    refine z_bipush (pc := 16) C dX12_manLine_16 (nI 7) (by decide) ?_
    refine z_iload_n (pc := 18) C dX12_manLine_18 0 rfl ?_
    first | refine z_iaddN (pc := 19) C dX12_manLine_19 ?_ | refine z_iadd (pc := 19) C dX12_manLine_19 ?_
    refine z_cV0Q (pc := 20) mX12_newName C [_] dX12_manLine_20 lX12_223 mtX12_newName (tX12_newNameY (x := 7 + R 3) hO0.1 hO0.2 hR0 i1 (by omega)) hM0 rfl rfl (by decide) (Nat.le_of_ble_eq_true rfl) (Nat.zero_le _) (Nat.zero_le _) ?_
    rintro h1 ⟨⟨v1, hO1, hV1⟩, ⟨R1, hR1, eR1⟩, F1⟩
    generalize eo1 : sNw R B n0 t = o1 at hO1 eR1
    have hM1 := hO1.m
    have f1 := hO1.f
    have hS1 : h1 1069 = _ := (F1 1069 (by decide) (by decide) (by decide)).trans hS0
    have bR1 : oF o1 = false → ∀ j, j < 241 → R1 j < 2147483648 := fun z => by rw [eR1 z]; exact snm_lt hk i1
    refine z_aload_n (pc := 23) C dX12_manLine_23 1 rfl ?_
    refine z_ldcS (pc := 24) (ix := 240) (i := 12) (tx := "sport") C dX12_manLine_24 (show (RX12, 240, "sport", 12) ∈ zSR by simp [zSR]) ?_
    refine z_cV1 (pc := 26) mX12_isWord C [_] dX12_manLine_26 lX12_111 mtX12_isWord (tX12_isWordO hO1 (by decide)) hM1 rfl rfl (by decide) (Nat.le_of_ble_eq_true rfl) (Nat.zero_le _) (Nat.zero_le _) ?_
    first | refine z_ifeqB (pc := 29) C 36 dX12_manLine_29 (by decide) (fun hc29 => ?_) (fun hc29 => ?_) | refine z_ifeqN (pc := 29) C 36 dX12_manLine_29 (by decide) (by omega) (fun hc29 => ?_) (fun hc29 => ?_) | refine z_if_eq (pc := 29) C 36 dX12_manLine_29 (by decide) (fun hc29 => ?_) (fun hc29 => ?_)
    · skip
      refine z_aload_n (pc := 36) C dX12_manLine_36 1 rfl ?_
      refine z_ldcS (pc := 37) (ix := 242) (i := 13) (tx := "keeper") C dX12_manLine_37 (show (RX12, 242, "keeper", 13) ∈ zSR by simp [zSR]) ?_
      refine z_cV1 (pc := 39) mX12_isWord C [_] dX12_manLine_39 lX12_111 mtX12_isWord (tX12_isWordO hO1 (by decide)) hM1 rfl rfl (by decide) (Nat.le_of_ble_eq_true rfl) (Nat.zero_le _) (Nat.zero_le _) ?_
      first | refine z_ifeqB (pc := 42) C 49 dX12_manLine_42 (by decide) (fun hc42 => ?_) (fun hc42 => ?_) | refine z_ifeqN (pc := 42) C 49 dX12_manLine_42 (by decide) (by omega) (fun hc42 => ?_) (fun hc42 => ?_) | refine z_if_eq (pc := 42) C 49 dX12_manLine_42 (by decide) (fun hc42 => ?_) (fun hc42 => ?_)
      · skip
        refine z_aload_n (pc := 49) C dX12_manLine_49 1 rfl ?_
        refine z_ldcS (pc := 50) (ix := 244) (i := 14) (tx := "poacher") C dX12_manLine_50 (show (RX12, 244, "poacher", 14) ∈ zSR by simp [zSR]) ?_
        refine z_cV1 (pc := 52) mX12_isWord C [_] dX12_manLine_52 lX12_111 mtX12_isWord (tX12_isWordO hO1 (by decide)) hM1 rfl rfl (by decide) (Nat.le_of_ble_eq_true rfl) (Nat.zero_le _) (Nat.zero_le _) ?_
        first | refine z_ifeqB (pc := 55) C 62 dX12_manLine_55 (by decide) (fun hc55 => ?_) (fun hc55 => ?_) | refine z_ifeqN (pc := 55) C 62 dX12_manLine_55 (by decide) (by omega) (fun hc55 => ?_) (fun hc55 => ?_) | refine z_if_eq (pc := 55) C 62 dX12_manLine_55 (by decide) (fun hc55 => ?_) (fun hc55 => ?_)
        · skip
          refine z_aload_n (pc := 62) C dX12_manLine_62 1 rfl ?_
          refine z_ldcS (pc := 63) (ix := 246) (i := 15) (tx := "prince") C dX12_manLine_63 (show (RX12, 246, "prince", 15) ∈ zSR by simp [zSR]) ?_
          refine z_cV1 (pc := 65) mX12_isWord C [_] dX12_manLine_65 lX12_111 mtX12_isWord (tX12_isWordO hO1 (by decide)) hM1 rfl rfl (by decide) (Nat.le_of_ble_eq_true rfl) (Nat.zero_le _) (Nat.zero_le _) ?_
          first | refine z_ifeqB (pc := 68) C 75 dX12_manLine_68 (by decide) (fun hc68 => ?_) (fun hc68 => ?_) | refine z_ifeqN (pc := 68) C 75 dX12_manLine_68 (by decide) (by omega) (fun hc68 => ?_) (fun hc68 => ?_) | refine z_if_eq (pc := 68) C 75 dX12_manLine_68 (by decide) (fun hc68 => ?_) (fun hc68 => ?_)
          · skip
            have ek : sKd B o1 = none := by unfold sKd; simp only [show oW B o1 12 = false from hc29, show oW B o1 13 = false from hc42, show oW B o1 14 = false from hc55, show oW B o1 15 = false from hc68]; rfl
            refine z_iconst (pc := 75) C dX12_manLine_75 (-1) (by decide) ?_
            refine z_istore_n (pc := 76) (lv' := [(2, _), (1, _), (0, _)]) C dX12_manLine_76 (by decide) rfl ?_
            refine z_iload_n (pc := 77) C dX12_manLine_77 0 rfl ?_
            first | refine z_ifgeO (pc := 78) C 90 dX12_manLine_78 (by decide) (by assumption) (fun hc78 => ?_) (fun hc78 => ?_) | refine z_ifgeN (pc := 78) C 90 dX12_manLine_78 (by decide) (by omega) (fun hc78 => ?_) (fun hc78 => ?_) | refine z_if_ge (pc := 78) C 90 dX12_manLine_78 (by decide) (fun hc78 => ?_) (fun hc78 => ?_)
            · exact absurd hc78 (by decide)
            · skip
              refine z_aload_n (pc := 81) C dX12_manLine_81 2 rfl ?_
              refine z_iconst (pc := 82) C dX12_manLine_82 (nI 1) (by decide) ?_
              refine z_aload_n (pc := 83) C dX12_manLine_83 2 rfl ?_
              refine z_getf (pc := 84) C dX12_manLine_84 fX12_75 hM1 (by first | rfl | assumption) ?_
              refine z_cV0Q (pc := 87) mX12_wrong C [_, _] dX12_manLine_87 lX12_121 mtX12_wrong (tX12_wrongO (f := 1) hO1 (hO1.at (t := (0, 0, 0)))) hM1 rfl rfl (by decide) (Nat.le_of_ble_eq_true rfl) (Nat.zero_le _) (Nat.zero_le _) ?_
              rintro h2 ⟨⟨v2, hO2, hV2⟩, F2⟩
              have hM2 := hO2.m
              have f2 := hO2.f
              have hR2 : h2 1067 = _ := (F2 1067 (by decide) (by decide)).trans hR1
              have hS2 : h2 1069 = _ := (F2 1069 (by decide) (by decide)).trans hS1
              rw [show oX o1 1 = (if sKd B o1 = none then oX o1 1 else o1) from by rw [ek]; rfl] at hO2
              refine z_aload_n (pc := 90) C dX12_manLine_90 2 rfl ?_
              refine z_cV0Q (pc := 91) mX12_pass C [] dX12_manLine_91 lX12_157 mtX12_pass (tX12_passO hO2 (fun t9 ht9 => by first | (rw [if_pos ek] at ht9; exact (oX_f (oF_fe ht9)).elim) | (rw [ek] at ht9; rw [sKd_w ek ht9]; decide))) hM2 rfl rfl (by decide) (Nat.le_of_ble_eq_true rfl) (Nat.zero_le _) (Nat.zero_le _) ?_
              rintro h3 ⟨⟨v3, hO3, hV3⟩, F3⟩
              have hM3 := hO3.m
              have f3 := hO3.f
              have hR3 : h3 1067 = _ := (F3 1067 (by decide) (by decide)).trans hR2
              have hS3 : h3 1069 = _ := (F3 1069 (by decide) (by decide)).trans hS2
              refine z_aload_n (pc := 94) C dX12_manLine_94 2 rfl ?_
              refine z_ldcS (pc := 95) (ix := 248) (i := 16) (tx := "at") C dX12_manLine_95 (show (RX12, 248, "at", 16) ∈ zSR by simp [zSR]) ?_
              refine z_cV0Q (pc := 97) mX12_must C [_] dX12_manLine_97 lX12_163 mtX12_must (tX12_mustO hO3 (by decide)) hM3 rfl rfl (by decide) (Nat.le_of_ble_eq_true rfl) (Nat.zero_le _) (Nat.zero_le _) ?_
              rintro h4 ⟨⟨v4, hO4, hV4⟩, F4⟩
              have hM4 := hO4.m
              have f4 := hO4.f
              have hR4 : h4 1067 = _ := (F4 1067 (by decide) (by decide)).trans hR3
              have hS4 : h4 1069 = _ := (F4 1069 (by decide) (by decide)).trans hS3
              refine z_aload_n (pc := 100) C dX12_manLine_100 2 rfl ?_
              refine z_cV1Q (pc := 101) mX12_placePassed C [] dX12_manLine_101 lX12_233 mtX12_placePassed (tX12_placePassed hO4 hR4 (fun z => by have z2 := oP_f (oM_f z); first | (rw [if_pos ek] at z2; exact (oX_f z2).elim) | (rw [ek] at z2; exact bR1 z2))) hM4 rfl rfl (by decide) (Nat.le_of_ble_eq_true rfl) (Nat.zero_le _) (Nat.zero_le _) ?_
              rintro _ h5 ⟨rfl, ⟨v5, hO5, hV5⟩, F5⟩
              have hM5 := hO5.m
              have f5 := hO5.f
              have hR5 : h5 1067 = _ := (F5 1067 (by decide) (by decide)).trans hR4
              have hS5 : h5 1069 = _ := (F5 1069 (by decide) (by decide)).trans hS4
              refine z_istore_n (pc := 104) (lv' := [(3, _), (2, _), (1, _), (0, _)]) C dX12_manLine_104 (by decide) rfl ?_
              refine z_aload_n (pc := 105) C dX12_manLine_105 3 rfl ?_
              refine z_getf (pc := 106) C dX12_manLine_106 fX12_94 hM5 (by first | rfl | assumption) ?_
              rw [f5]
              first | refine z_ifeqB (pc := 109) C 113 dX12_manLine_109 (by decide) (fun hc109 => ?_) (fun hc109 => ?_) | refine z_ifeqN (pc := 109) C 113 dX12_manLine_109 (by decide) (by omega) (fun hc109 => ?_) (fun hc109 => ?_) | refine z_if_eq (pc := 109) C 113 dX12_manLine_109 (by decide) (fun hc109 => ?_) (fun hc109 => ?_)
              · have z := oP_f (oM_f (oB_f (oP_f hc109))); rw [if_pos ek] at z; exact (oX_f z).elim
              · skip
                refine z_vret (pc := 112) C dX12_manLine_112 rfl (Nat.zero_le _) (Nat.zero_le _) ⟨rfl, ?_, rfl⟩
                show LQ h _ v B n0 (lMaA (snm R B t (7 + R 3)) S B n0 (R 3) (sNw R B n0 t)); rw [eo1]; have eK : (lMaA R1 S B n0 (R 3) o1).1 = (lMaA (snm R B t (7 + R 3)) S B n0 (R 3) o1).1 := (by cases o1 with | inl t1 => rw [eR1 rfl] | inr e => rfl); exact LQ.of (by rw [← eK]; exact hO5) ((((hV1.tr hV2).tr hV3).tr hV4).tr hV5) hR5 hS5 (fun z => by rw [← eK] at z; cases hc109.symm.trans z) (fun a q1 q2 q3 q4 => ((F5 a q1 q2).trans ((F4 a q1 q2).trans ((F3 a q1 q2).trans ((F2 a q1 q2).trans (F1 a q1 q2 q3))))))
          · skip
            have ek : sKd B o1 = some 3 := by unfold sKd; simp only [show oW B o1 12 = false from hc29, show oW B o1 13 = false from hc42, show oW B o1 14 = false from hc55, show oW B o1 15 = true from hc68]; rfl
            have bk : ((sKd B o1).getD 0) ≤ 3 := by rw [ek]; decide
            have hO2 := hO1
            have f2 := f1
            have hM2 := hM1
            have hR2 := hR1
            have hS2 := hS1
            have hV2 : rW v1 v1 := rW.rf _
            have F2 : rF h1 h1 := rF.rf _
            rw [show o1 = (if sKd B o1 = none then oX o1 1 else o1) from by rw [ek]; rfl] at hO2
            refine z_iconst (pc := 71) C dX12_manLine_71 (nI 3) (by decide) ?_
            refine z_top (show nI 3 = nI ((sKd B o1).getD 0) from by rw [ek]; rfl) ?_
            refine z_goto (pc := 72) C 76 dX12_manLine_72 (by decide) ?_
            refine z_istore_n (pc := 76) (lv' := [(2, _), (1, _), (0, _)]) C dX12_manLine_76 (by decide) rfl ?_
            refine z_iload_n (pc := 77) C dX12_manLine_77 0 rfl ?_
            first | refine z_ifgeO (pc := 78) C 90 dX12_manLine_78 (by decide) (by assumption) (fun hc78 => ?_) (fun hc78 => ?_) | refine z_ifgeN (pc := 78) C 90 dX12_manLine_78 (by decide) (by omega) (fun hc78 => ?_) (fun hc78 => ?_) | refine z_if_ge (pc := 78) C 90 dX12_manLine_78 (by decide) (fun hc78 => ?_) (fun hc78 => ?_)
            · skip
              refine z_aload_n (pc := 90) C dX12_manLine_90 2 rfl ?_
              refine z_cV0Q (pc := 91) mX12_pass C [] dX12_manLine_91 lX12_157 mtX12_pass (tX12_passO hO2 (fun t9 ht9 => by first | (rw [if_pos ek] at ht9; exact (oX_f (oF_fe ht9)).elim) | (rw [ek] at ht9; rw [sKd_w ek ht9]; decide))) hM2 rfl rfl (by decide) (Nat.le_of_ble_eq_true rfl) (Nat.zero_le _) (Nat.zero_le _) ?_
              rintro h3 ⟨⟨v3, hO3, hV3⟩, F3⟩
              have hM3 := hO3.m
              have f3 := hO3.f
              have hR3 : h3 1067 = _ := (F3 1067 (by decide) (by decide)).trans hR2
              have hS3 : h3 1069 = _ := (F3 1069 (by decide) (by decide)).trans hS2
              refine z_aload_n (pc := 94) C dX12_manLine_94 2 rfl ?_
              refine z_ldcS (pc := 95) (ix := 248) (i := 16) (tx := "at") C dX12_manLine_95 (show (RX12, 248, "at", 16) ∈ zSR by simp [zSR]) ?_
              refine z_cV0Q (pc := 97) mX12_must C [_] dX12_manLine_97 lX12_163 mtX12_must (tX12_mustO hO3 (by decide)) hM3 rfl rfl (by decide) (Nat.le_of_ble_eq_true rfl) (Nat.zero_le _) (Nat.zero_le _) ?_
              rintro h4 ⟨⟨v4, hO4, hV4⟩, F4⟩
              have hM4 := hO4.m
              have f4 := hO4.f
              have hR4 : h4 1067 = _ := (F4 1067 (by decide) (by decide)).trans hR3
              have hS4 : h4 1069 = _ := (F4 1069 (by decide) (by decide)).trans hS3
              refine z_aload_n (pc := 100) C dX12_manLine_100 2 rfl ?_
              refine z_cV1Q (pc := 101) mX12_placePassed C [] dX12_manLine_101 lX12_233 mtX12_placePassed (tX12_placePassed hO4 hR4 (fun z => by have z2 := oP_f (oM_f z); first | (rw [if_pos ek] at z2; exact (oX_f z2).elim) | (rw [ek] at z2; exact bR1 z2))) hM4 rfl rfl (by decide) (Nat.le_of_ble_eq_true rfl) (Nat.zero_le _) (Nat.zero_le _) ?_
              rintro _ h5 ⟨rfl, ⟨v5, hO5, hV5⟩, F5⟩
              have hM5 := hO5.m
              have f5 := hO5.f
              have hR5 : h5 1067 = _ := (F5 1067 (by decide) (by decide)).trans hR4
              have hS5 : h5 1069 = _ := (F5 1069 (by decide) (by decide)).trans hS4
              refine z_istore_n (pc := 104) (lv' := [(3, _), (2, _), (1, _), (0, _)]) C dX12_manLine_104 (by decide) rfl ?_
              refine z_aload_n (pc := 105) C dX12_manLine_105 3 rfl ?_
              refine z_getf (pc := 106) C dX12_manLine_106 fX12_94 hM5 (by first | rfl | assumption) ?_
              rw [f5]
              first | refine z_ifeqB (pc := 109) C 113 dX12_manLine_109 (by decide) (fun hc109 => ?_) (fun hc109 => ?_) | refine z_ifeqN (pc := 109) C 113 dX12_manLine_109 (by decide) (by omega) (fun hc109 => ?_) (fun hc109 => ?_) | refine z_if_eq (pc := 109) C 113 dX12_manLine_109 (by decide) (fun hc109 => ?_) (fun hc109 => ?_)
              · skip
                have hf1 : oF o1 = false := by have z := oP_f (oM_f (oB_f (oP_f hc109))); rw [ek] at z; exact z
                obtain rfl := eR1 hf1
                have bv : sNv (snm R B t (7 + R 3)) B 0 6 (lMaO B n0 o1) ≤ 6 := sNv_le _
                refine z_aload_n (pc := 113) C dX12_manLine_113 3 rfl ?_
                refine z_getf (pc := 114) C dX12_manLine_114 fX12_23 hM5 (by first | rfl | assumption) ?_
                refine z_bipush (pc := 117) C dX12_manLine_117 (nI 30) (by decide) ?_
                refine z_iload_n (pc := 119) C dX12_manLine_119 2 rfl ?_
                first | refine z_iaddN (pc := 120) C dX12_manLine_120 ?_ | refine z_iadd (pc := 120) C dX12_manLine_120 ?_
                refine z_iload_n (pc := 121) C dX12_manLine_121 1 rfl ?_
                first | refine z_iastN (pc := 122) C dX12_manLine_122 hR5 (by omega) (by decide) ?_ | refine z_iastI (pc := 122) C dX12_manLine_122 hR5 (by omega) (by decide) ?_
                generalize eh6 : zup h5 1067 (zI 241 (nup (snm R B t (7 + R 3)) (30 + R 3) ((sKd B o1).getD 0))) = h6
                have G6 : ∀ a, a ≠ 1067 → h6 a = h5 a := fun a q => by rw [← eh6]; exact zup_ne q
                have hO6 := hO5.on (hh := h6) (fun a q => G6 a (by omega))
                have hM6 := hO6.m
                have f6 := f5
                have hR6 : h6 1067 = some (zI 241 (nup (snm R B t (7 + R 3)) (30 + R 3) ((sKd B o1).getD 0))) := by rw [← eh6]; exact zup_same _ _ _
                have hS6 := (G6 1069 (by decide)).trans hS5
                refine z_iconst (pc := 123) C dX12_manLine_123 (nI 0) (by decide) ?_
                refine z_istore (pc := 124) (lv' := [(4, _), (3, _), (2, _), (1, _), (0, _)]) C dX12_manLine_124 (by decide) rfl ?_
                refine z_sub (lv' := [(0, _), (1, _), (2, _), (3, _), (4, _)]) [4, 3, 2, 1, 0] rfl ?_
                have lp126 : ∀ (f : Nat) (j : Nat) (h7 : ZH), (j + f = 8 ∧ h7 1069 = some (zI 40 (nfl S (8 * R 3) j (sNv (snm R B t (7 + R 3)) B 0 6 (lMaO B n0 o1)))) ∧ ∀ a, a ≠ 1069 → h7 a = h6 a) → Zc X mX12_manLine (zEnd X (fun r hh n' => r = none ∧ (LQ h hh v B n0 (lMa R S B n0 (.inl t))) ∧ n' = n) 0 0) 126 [(0, .ref 1063), (1, .int (nI (R 3))), (2, .int (nI ((sKd B o1).getD 0))), (3, .int (nI (sNv (snm R B t (7 + R 3)) B 0 6 (lMaO B n0 o1)))), (4, .int (nI j))] [] h7 n 0 0 := by
                  intro f
                  induction f using Nat.strongRecOn with
                  | _ f ih =>
                    intro j h7 hk2
                    obtain ⟨hk2, hS7, G7⟩ := hk2
                    have hO7 := hO6.on (hh := h7) (fun a q => G7 a (by omega))
                    have hM7 := hO7.m
                    have f7 := f6
                    have hR7 := (G7 1067 (by decide)).trans hR6
                    refine z_iload (pc := 126) C dX12_manLine_126 4 rfl ?_
                    refine z_bipush (pc := 128) C dX12_manLine_128 (nI 8) (by decide) ?_
                    first | refine z_icmpgeN (pc := 130) C 152 dX12_manLine_130 (by decide) (by omega) (by omega) (fun hc130 => ?_) (fun hc130 => ?_) | refine z_icmp_ge (pc := 130) C 152 dX12_manLine_130 (by decide) (fun hc130 => ?_) (fun hc130 => ?_)
                    · skip
                      refine z_aload_n (pc := 152) C dX12_manLine_152 0 rfl ?_
                      refine z_getf (pc := 153) C dX12_manLine_153 fX12_23 hM7 (by first | rfl | assumption) ?_
                      refine z_iconst (pc := 156) C dX12_manLine_156 (nI 3) (by decide) ?_
                      refine z_dup2 (pc := 157) C dX12_manLine_157 rfl rfl ?_
                      refine z_ialdE (pc := 158) C dX12_manLine_158 hR7 (by omega) (by decide) (show nup (snm R B t (7 + R 3)) (30 + R 3) ((sKd B o1).getD 0) 3 = R 3 from (nup_ne (by omega)).trans (snm_ne (by decide))) ?_
                      refine z_iconst (pc := 159) C dX12_manLine_159 (nI 1) (by decide) ?_
                      first | refine z_iaddN (pc := 160) C dX12_manLine_160 ?_ | refine z_iadd (pc := 160) C dX12_manLine_160 ?_
                      first | refine z_iastN (pc := 161) C dX12_manLine_161 hR7 (by omega) (by decide) ?_ | refine z_iastI (pc := 161) C dX12_manLine_161 hR7 (by omega) (by decide) ?_
                      generalize eh8 : zup h7 1067 (zI 241 (nup (nup (snm R B t (7 + R 3)) (30 + R 3) ((sKd B o1).getD 0)) 3 (R 3 + 1))) = h8
                      have G8 : ∀ a, a ≠ 1067 → h8 a = h7 a := fun a q => by rw [← eh8]; exact zup_ne q
                      have hO8 := hO7.on (hh := h8) (fun a q => G8 a (by omega))
                      have hM8 := hO8.m
                      have f8 := f7
                      have hR8 : h8 1067 = some (zI 241 (nup (nup (snm R B t (7 + R 3)) (30 + R 3) ((sKd B o1).getD 0)) 3 (R 3 + 1))) := by rw [← eh8]; exact zup_same _ _ _
                      have hS8 := (G8 1069 (by decide)).trans hS7
                      refine z_vret (pc := 162) C dX12_manLine_162 rfl (Nat.zero_le _) (Nat.zero_le _) ⟨rfl, ?_, rfl⟩
                      obtain rfl : j = 8 := (by omega); show LQ h _ v B n0 (lMaA (snm R B t (7 + R 3)) S B n0 (R 3) (sNw R B n0 t)); rw [eo1]; exact LQ.of hO8 ((((hV1.tr hV2).tr hV3).tr hV4).tr hV5) hR8 hS8 (fun _ => ⟨rfl, rfl⟩) (fun a q1 q2 q3 q4 => ((G8 a q3).trans ((G7 a q4).trans ((G6 a q3).trans ((F5 a q1 q2).trans ((F4 a q1 q2).trans ((F3 a q1 q2).trans ((F2 a q1 q2).trans (F1 a q1 q2 q3)))))))))
                    · skip
                      refine z_aload_n (pc := 133) C dX12_manLine_133 0 rfl ?_
                      refine z_getf (pc := 134) C dX12_manLine_134 fX12_29 hM7 (by first | rfl | assumption) ?_
                      refine z_bipush (pc := 137) C dX12_manLine_137 (nI 8) (by decide) ?_
                      refine z_iload_n (pc := 139) C dX12_manLine_139 1 rfl ?_
                      first | refine z_imulN (pc := 140) C dX12_manLine_140 ?_ | refine z_imul (pc := 140) C dX12_manLine_140 ?_
                      refine z_iload (pc := 141) C dX12_manLine_141 4 rfl ?_
                      first | refine z_iaddN (pc := 143) C dX12_manLine_143 ?_ | refine z_iadd (pc := 143) C dX12_manLine_143 ?_
                      refine z_iload_n (pc := 144) C dX12_manLine_144 3 rfl ?_
                      first | refine z_iastN (pc := 145) C dX12_manLine_145 hS7 (by omega) (by decide) ?_ | refine z_iastI (pc := 145) C dX12_manLine_145 hS7 (by omega) (by decide) ?_
                      first | refine z_iincN (pc := 146) (lv' := [(4, _), (0, _), (1, _), (2, _), (3, _)]) C 1 dX12_manLine_146 4 rfl (by decide) (by decide) rfl ?_ | refine z_iinc (pc := 146) (lv' := [(4, _), (0, _), (1, _), (2, _), (3, _)]) C dX12_manLine_146 4 rfl _ rfl (by decide) rfl ?_
                      refine z_goto (pc := 149) C 126 dX12_manLine_149 (by decide) ?_
                      refine z_sub (lv' := [(0, _), (1, _), (2, _), (3, _), (4, _)]) [1, 2, 3, 4, 0] rfl ?_
                      exact ih (f - 1) (by omega) (j + 1) _ ⟨by omega, by rw [← nfl_s]; exact zup_same _ _ _, fun a q => (zup_ne q).trans (G7 a q)⟩
                exact lp126 8 0 h6 ⟨rfl, by rw [nfl_0]; exact hS6, fun _ _ => rfl⟩
              · skip
                refine z_vret (pc := 112) C dX12_manLine_112 rfl (Nat.zero_le _) (Nat.zero_le _) ⟨rfl, ?_, rfl⟩
                show LQ h _ v B n0 (lMaA (snm R B t (7 + R 3)) S B n0 (R 3) (sNw R B n0 t)); rw [eo1]; have eK : (lMaA R1 S B n0 (R 3) o1).1 = (lMaA (snm R B t (7 + R 3)) S B n0 (R 3) o1).1 := (by cases o1 with | inl t1 => rw [eR1 rfl] | inr e => rfl); exact LQ.of (by rw [← eK]; exact hO5) ((((hV1.tr hV2).tr hV3).tr hV4).tr hV5) hR5 hS5 (fun z => by rw [← eK] at z; cases hc109.symm.trans z) (fun a q1 q2 q3 q4 => ((F5 a q1 q2).trans ((F4 a q1 q2).trans ((F3 a q1 q2).trans ((F2 a q1 q2).trans (F1 a q1 q2 q3))))))
            · exact hc78.elim
        · skip
          have ek : sKd B o1 = some 2 := by unfold sKd; simp only [show oW B o1 12 = false from hc29, show oW B o1 13 = false from hc42, show oW B o1 14 = true from hc55]; rfl
          have bk : ((sKd B o1).getD 0) ≤ 3 := by rw [ek]; decide
          have hO2 := hO1
          have f2 := f1
          have hM2 := hM1
          have hR2 := hR1
          have hS2 := hS1
          have hV2 : rW v1 v1 := rW.rf _
          have F2 : rF h1 h1 := rF.rf _
          rw [show o1 = (if sKd B o1 = none then oX o1 1 else o1) from by rw [ek]; rfl] at hO2
          refine z_iconst (pc := 58) C dX12_manLine_58 (nI 2) (by decide) ?_
          refine z_top (show nI 2 = nI ((sKd B o1).getD 0) from by rw [ek]; rfl) ?_
          refine z_goto (pc := 59) C 76 dX12_manLine_59 (by decide) ?_
          refine z_istore_n (pc := 76) (lv' := [(2, _), (1, _), (0, _)]) C dX12_manLine_76 (by decide) rfl ?_
          refine z_iload_n (pc := 77) C dX12_manLine_77 0 rfl ?_
          first | refine z_ifgeO (pc := 78) C 90 dX12_manLine_78 (by decide) (by assumption) (fun hc78 => ?_) (fun hc78 => ?_) | refine z_ifgeN (pc := 78) C 90 dX12_manLine_78 (by decide) (by omega) (fun hc78 => ?_) (fun hc78 => ?_) | refine z_if_ge (pc := 78) C 90 dX12_manLine_78 (by decide) (fun hc78 => ?_) (fun hc78 => ?_)
          · skip
            refine z_aload_n (pc := 90) C dX12_manLine_90 2 rfl ?_
            refine z_cV0Q (pc := 91) mX12_pass C [] dX12_manLine_91 lX12_157 mtX12_pass (tX12_passO hO2 (fun t9 ht9 => by first | (rw [if_pos ek] at ht9; exact (oX_f (oF_fe ht9)).elim) | (rw [ek] at ht9; rw [sKd_w ek ht9]; decide))) hM2 rfl rfl (by decide) (Nat.le_of_ble_eq_true rfl) (Nat.zero_le _) (Nat.zero_le _) ?_
            rintro h3 ⟨⟨v3, hO3, hV3⟩, F3⟩
            have hM3 := hO3.m
            have f3 := hO3.f
            have hR3 : h3 1067 = _ := (F3 1067 (by decide) (by decide)).trans hR2
            have hS3 : h3 1069 = _ := (F3 1069 (by decide) (by decide)).trans hS2
            refine z_aload_n (pc := 94) C dX12_manLine_94 2 rfl ?_
            refine z_ldcS (pc := 95) (ix := 248) (i := 16) (tx := "at") C dX12_manLine_95 (show (RX12, 248, "at", 16) ∈ zSR by simp [zSR]) ?_
            refine z_cV0Q (pc := 97) mX12_must C [_] dX12_manLine_97 lX12_163 mtX12_must (tX12_mustO hO3 (by decide)) hM3 rfl rfl (by decide) (Nat.le_of_ble_eq_true rfl) (Nat.zero_le _) (Nat.zero_le _) ?_
            rintro h4 ⟨⟨v4, hO4, hV4⟩, F4⟩
            have hM4 := hO4.m
            have f4 := hO4.f
            have hR4 : h4 1067 = _ := (F4 1067 (by decide) (by decide)).trans hR3
            have hS4 : h4 1069 = _ := (F4 1069 (by decide) (by decide)).trans hS3
            refine z_aload_n (pc := 100) C dX12_manLine_100 2 rfl ?_
            refine z_cV1Q (pc := 101) mX12_placePassed C [] dX12_manLine_101 lX12_233 mtX12_placePassed (tX12_placePassed hO4 hR4 (fun z => by have z2 := oP_f (oM_f z); first | (rw [if_pos ek] at z2; exact (oX_f z2).elim) | (rw [ek] at z2; exact bR1 z2))) hM4 rfl rfl (by decide) (Nat.le_of_ble_eq_true rfl) (Nat.zero_le _) (Nat.zero_le _) ?_
            rintro _ h5 ⟨rfl, ⟨v5, hO5, hV5⟩, F5⟩
            have hM5 := hO5.m
            have f5 := hO5.f
            have hR5 : h5 1067 = _ := (F5 1067 (by decide) (by decide)).trans hR4
            have hS5 : h5 1069 = _ := (F5 1069 (by decide) (by decide)).trans hS4
            refine z_istore_n (pc := 104) (lv' := [(3, _), (2, _), (1, _), (0, _)]) C dX12_manLine_104 (by decide) rfl ?_
            refine z_aload_n (pc := 105) C dX12_manLine_105 3 rfl ?_
            refine z_getf (pc := 106) C dX12_manLine_106 fX12_94 hM5 (by first | rfl | assumption) ?_
            rw [f5]
            first | refine z_ifeqB (pc := 109) C 113 dX12_manLine_109 (by decide) (fun hc109 => ?_) (fun hc109 => ?_) | refine z_ifeqN (pc := 109) C 113 dX12_manLine_109 (by decide) (by omega) (fun hc109 => ?_) (fun hc109 => ?_) | refine z_if_eq (pc := 109) C 113 dX12_manLine_109 (by decide) (fun hc109 => ?_) (fun hc109 => ?_)
            · skip
              have hf1 : oF o1 = false := by have z := oP_f (oM_f (oB_f (oP_f hc109))); rw [ek] at z; exact z
              obtain rfl := eR1 hf1
              have bv : sNv (snm R B t (7 + R 3)) B 0 6 (lMaO B n0 o1) ≤ 6 := sNv_le _
              refine z_aload_n (pc := 113) C dX12_manLine_113 3 rfl ?_
              refine z_getf (pc := 114) C dX12_manLine_114 fX12_23 hM5 (by first | rfl | assumption) ?_
              refine z_bipush (pc := 117) C dX12_manLine_117 (nI 30) (by decide) ?_
              refine z_iload_n (pc := 119) C dX12_manLine_119 2 rfl ?_
              first | refine z_iaddN (pc := 120) C dX12_manLine_120 ?_ | refine z_iadd (pc := 120) C dX12_manLine_120 ?_
              refine z_iload_n (pc := 121) C dX12_manLine_121 1 rfl ?_
              first | refine z_iastN (pc := 122) C dX12_manLine_122 hR5 (by omega) (by decide) ?_ | refine z_iastI (pc := 122) C dX12_manLine_122 hR5 (by omega) (by decide) ?_
              generalize eh6 : zup h5 1067 (zI 241 (nup (snm R B t (7 + R 3)) (30 + R 3) ((sKd B o1).getD 0))) = h6
              have G6 : ∀ a, a ≠ 1067 → h6 a = h5 a := fun a q => by rw [← eh6]; exact zup_ne q
              have hO6 := hO5.on (hh := h6) (fun a q => G6 a (by omega))
              have hM6 := hO6.m
              have f6 := f5
              have hR6 : h6 1067 = some (zI 241 (nup (snm R B t (7 + R 3)) (30 + R 3) ((sKd B o1).getD 0))) := by rw [← eh6]; exact zup_same _ _ _
              have hS6 := (G6 1069 (by decide)).trans hS5
              refine z_iconst (pc := 123) C dX12_manLine_123 (nI 0) (by decide) ?_
              refine z_istore (pc := 124) (lv' := [(4, _), (3, _), (2, _), (1, _), (0, _)]) C dX12_manLine_124 (by decide) rfl ?_
              refine z_sub (lv' := [(0, _), (1, _), (2, _), (3, _), (4, _)]) [4, 3, 2, 1, 0] rfl ?_
              have lp126 : ∀ (f : Nat) (j : Nat) (h7 : ZH), (j + f = 8 ∧ h7 1069 = some (zI 40 (nfl S (8 * R 3) j (sNv (snm R B t (7 + R 3)) B 0 6 (lMaO B n0 o1)))) ∧ ∀ a, a ≠ 1069 → h7 a = h6 a) → Zc X mX12_manLine (zEnd X (fun r hh n' => r = none ∧ (LQ h hh v B n0 (lMa R S B n0 (.inl t))) ∧ n' = n) 0 0) 126 [(0, .ref 1063), (1, .int (nI (R 3))), (2, .int (nI ((sKd B o1).getD 0))), (3, .int (nI (sNv (snm R B t (7 + R 3)) B 0 6 (lMaO B n0 o1)))), (4, .int (nI j))] [] h7 n 0 0 := by
                intro f
                induction f using Nat.strongRecOn with
                | _ f ih =>
                  intro j h7 hk2
                  obtain ⟨hk2, hS7, G7⟩ := hk2
                  have hO7 := hO6.on (hh := h7) (fun a q => G7 a (by omega))
                  have hM7 := hO7.m
                  have f7 := f6
                  have hR7 := (G7 1067 (by decide)).trans hR6
                  refine z_iload (pc := 126) C dX12_manLine_126 4 rfl ?_
                  refine z_bipush (pc := 128) C dX12_manLine_128 (nI 8) (by decide) ?_
                  first | refine z_icmpgeN (pc := 130) C 152 dX12_manLine_130 (by decide) (by omega) (by omega) (fun hc130 => ?_) (fun hc130 => ?_) | refine z_icmp_ge (pc := 130) C 152 dX12_manLine_130 (by decide) (fun hc130 => ?_) (fun hc130 => ?_)
                  · skip
                    refine z_aload_n (pc := 152) C dX12_manLine_152 0 rfl ?_
                    refine z_getf (pc := 153) C dX12_manLine_153 fX12_23 hM7 (by first | rfl | assumption) ?_
                    refine z_iconst (pc := 156) C dX12_manLine_156 (nI 3) (by decide) ?_
                    refine z_dup2 (pc := 157) C dX12_manLine_157 rfl rfl ?_
                    refine z_ialdE (pc := 158) C dX12_manLine_158 hR7 (by omega) (by decide) (show nup (snm R B t (7 + R 3)) (30 + R 3) ((sKd B o1).getD 0) 3 = R 3 from (nup_ne (by omega)).trans (snm_ne (by decide))) ?_
                    refine z_iconst (pc := 159) C dX12_manLine_159 (nI 1) (by decide) ?_
                    first | refine z_iaddN (pc := 160) C dX12_manLine_160 ?_ | refine z_iadd (pc := 160) C dX12_manLine_160 ?_
                    first | refine z_iastN (pc := 161) C dX12_manLine_161 hR7 (by omega) (by decide) ?_ | refine z_iastI (pc := 161) C dX12_manLine_161 hR7 (by omega) (by decide) ?_
                    generalize eh8 : zup h7 1067 (zI 241 (nup (nup (snm R B t (7 + R 3)) (30 + R 3) ((sKd B o1).getD 0)) 3 (R 3 + 1))) = h8
                    have G8 : ∀ a, a ≠ 1067 → h8 a = h7 a := fun a q => by rw [← eh8]; exact zup_ne q
                    have hO8 := hO7.on (hh := h8) (fun a q => G8 a (by omega))
                    have hM8 := hO8.m
                    have f8 := f7
                    have hR8 : h8 1067 = some (zI 241 (nup (nup (snm R B t (7 + R 3)) (30 + R 3) ((sKd B o1).getD 0)) 3 (R 3 + 1))) := by rw [← eh8]; exact zup_same _ _ _
                    have hS8 := (G8 1069 (by decide)).trans hS7
                    refine z_vret (pc := 162) C dX12_manLine_162 rfl (Nat.zero_le _) (Nat.zero_le _) ⟨rfl, ?_, rfl⟩
                    obtain rfl : j = 8 := (by omega); show LQ h _ v B n0 (lMaA (snm R B t (7 + R 3)) S B n0 (R 3) (sNw R B n0 t)); rw [eo1]; exact LQ.of hO8 ((((hV1.tr hV2).tr hV3).tr hV4).tr hV5) hR8 hS8 (fun _ => ⟨rfl, rfl⟩) (fun a q1 q2 q3 q4 => ((G8 a q3).trans ((G7 a q4).trans ((G6 a q3).trans ((F5 a q1 q2).trans ((F4 a q1 q2).trans ((F3 a q1 q2).trans ((F2 a q1 q2).trans (F1 a q1 q2 q3)))))))))
                  · skip
                    refine z_aload_n (pc := 133) C dX12_manLine_133 0 rfl ?_
                    refine z_getf (pc := 134) C dX12_manLine_134 fX12_29 hM7 (by first | rfl | assumption) ?_
                    refine z_bipush (pc := 137) C dX12_manLine_137 (nI 8) (by decide) ?_
                    refine z_iload_n (pc := 139) C dX12_manLine_139 1 rfl ?_
                    first | refine z_imulN (pc := 140) C dX12_manLine_140 ?_ | refine z_imul (pc := 140) C dX12_manLine_140 ?_
                    refine z_iload (pc := 141) C dX12_manLine_141 4 rfl ?_
                    first | refine z_iaddN (pc := 143) C dX12_manLine_143 ?_ | refine z_iadd (pc := 143) C dX12_manLine_143 ?_
                    refine z_iload_n (pc := 144) C dX12_manLine_144 3 rfl ?_
                    first | refine z_iastN (pc := 145) C dX12_manLine_145 hS7 (by omega) (by decide) ?_ | refine z_iastI (pc := 145) C dX12_manLine_145 hS7 (by omega) (by decide) ?_
                    first | refine z_iincN (pc := 146) (lv' := [(4, _), (0, _), (1, _), (2, _), (3, _)]) C 1 dX12_manLine_146 4 rfl (by decide) (by decide) rfl ?_ | refine z_iinc (pc := 146) (lv' := [(4, _), (0, _), (1, _), (2, _), (3, _)]) C dX12_manLine_146 4 rfl _ rfl (by decide) rfl ?_
                    refine z_goto (pc := 149) C 126 dX12_manLine_149 (by decide) ?_
                    refine z_sub (lv' := [(0, _), (1, _), (2, _), (3, _), (4, _)]) [1, 2, 3, 4, 0] rfl ?_
                    exact ih (f - 1) (by omega) (j + 1) _ ⟨by omega, by rw [← nfl_s]; exact zup_same _ _ _, fun a q => (zup_ne q).trans (G7 a q)⟩
              exact lp126 8 0 h6 ⟨rfl, by rw [nfl_0]; exact hS6, fun _ _ => rfl⟩
            · skip
              refine z_vret (pc := 112) C dX12_manLine_112 rfl (Nat.zero_le _) (Nat.zero_le _) ⟨rfl, ?_, rfl⟩
              show LQ h _ v B n0 (lMaA (snm R B t (7 + R 3)) S B n0 (R 3) (sNw R B n0 t)); rw [eo1]; have eK : (lMaA R1 S B n0 (R 3) o1).1 = (lMaA (snm R B t (7 + R 3)) S B n0 (R 3) o1).1 := (by cases o1 with | inl t1 => rw [eR1 rfl] | inr e => rfl); exact LQ.of (by rw [← eK]; exact hO5) ((((hV1.tr hV2).tr hV3).tr hV4).tr hV5) hR5 hS5 (fun z => by rw [← eK] at z; cases hc109.symm.trans z) (fun a q1 q2 q3 q4 => ((F5 a q1 q2).trans ((F4 a q1 q2).trans ((F3 a q1 q2).trans ((F2 a q1 q2).trans (F1 a q1 q2 q3))))))
          · exact hc78.elim
      · skip
        have ek : sKd B o1 = some 1 := by unfold sKd; simp only [show oW B o1 12 = false from hc29, show oW B o1 13 = true from hc42]; rfl
        have bk : ((sKd B o1).getD 0) ≤ 3 := by rw [ek]; decide
        have hO2 := hO1
        have f2 := f1
        have hM2 := hM1
        have hR2 := hR1
        have hS2 := hS1
        have hV2 : rW v1 v1 := rW.rf _
        have F2 : rF h1 h1 := rF.rf _
        rw [show o1 = (if sKd B o1 = none then oX o1 1 else o1) from by rw [ek]; rfl] at hO2
        refine z_iconst (pc := 45) C dX12_manLine_45 (nI 1) (by decide) ?_
        refine z_top (show nI 1 = nI ((sKd B o1).getD 0) from by rw [ek]; rfl) ?_
        refine z_goto (pc := 46) C 76 dX12_manLine_46 (by decide) ?_
        refine z_istore_n (pc := 76) (lv' := [(2, _), (1, _), (0, _)]) C dX12_manLine_76 (by decide) rfl ?_
        refine z_iload_n (pc := 77) C dX12_manLine_77 0 rfl ?_
        first | refine z_ifgeO (pc := 78) C 90 dX12_manLine_78 (by decide) (by assumption) (fun hc78 => ?_) (fun hc78 => ?_) | refine z_ifgeN (pc := 78) C 90 dX12_manLine_78 (by decide) (by omega) (fun hc78 => ?_) (fun hc78 => ?_) | refine z_if_ge (pc := 78) C 90 dX12_manLine_78 (by decide) (fun hc78 => ?_) (fun hc78 => ?_)
        · skip
          refine z_aload_n (pc := 90) C dX12_manLine_90 2 rfl ?_
          refine z_cV0Q (pc := 91) mX12_pass C [] dX12_manLine_91 lX12_157 mtX12_pass (tX12_passO hO2 (fun t9 ht9 => by first | (rw [if_pos ek] at ht9; exact (oX_f (oF_fe ht9)).elim) | (rw [ek] at ht9; rw [sKd_w ek ht9]; decide))) hM2 rfl rfl (by decide) (Nat.le_of_ble_eq_true rfl) (Nat.zero_le _) (Nat.zero_le _) ?_
          rintro h3 ⟨⟨v3, hO3, hV3⟩, F3⟩
          have hM3 := hO3.m
          have f3 := hO3.f
          have hR3 : h3 1067 = _ := (F3 1067 (by decide) (by decide)).trans hR2
          have hS3 : h3 1069 = _ := (F3 1069 (by decide) (by decide)).trans hS2
          refine z_aload_n (pc := 94) C dX12_manLine_94 2 rfl ?_
          refine z_ldcS (pc := 95) (ix := 248) (i := 16) (tx := "at") C dX12_manLine_95 (show (RX12, 248, "at", 16) ∈ zSR by simp [zSR]) ?_
          refine z_cV0Q (pc := 97) mX12_must C [_] dX12_manLine_97 lX12_163 mtX12_must (tX12_mustO hO3 (by decide)) hM3 rfl rfl (by decide) (Nat.le_of_ble_eq_true rfl) (Nat.zero_le _) (Nat.zero_le _) ?_
          rintro h4 ⟨⟨v4, hO4, hV4⟩, F4⟩
          have hM4 := hO4.m
          have f4 := hO4.f
          have hR4 : h4 1067 = _ := (F4 1067 (by decide) (by decide)).trans hR3
          have hS4 : h4 1069 = _ := (F4 1069 (by decide) (by decide)).trans hS3
          refine z_aload_n (pc := 100) C dX12_manLine_100 2 rfl ?_
          refine z_cV1Q (pc := 101) mX12_placePassed C [] dX12_manLine_101 lX12_233 mtX12_placePassed (tX12_placePassed hO4 hR4 (fun z => by have z2 := oP_f (oM_f z); first | (rw [if_pos ek] at z2; exact (oX_f z2).elim) | (rw [ek] at z2; exact bR1 z2))) hM4 rfl rfl (by decide) (Nat.le_of_ble_eq_true rfl) (Nat.zero_le _) (Nat.zero_le _) ?_
          rintro _ h5 ⟨rfl, ⟨v5, hO5, hV5⟩, F5⟩
          have hM5 := hO5.m
          have f5 := hO5.f
          have hR5 : h5 1067 = _ := (F5 1067 (by decide) (by decide)).trans hR4
          have hS5 : h5 1069 = _ := (F5 1069 (by decide) (by decide)).trans hS4
          refine z_istore_n (pc := 104) (lv' := [(3, _), (2, _), (1, _), (0, _)]) C dX12_manLine_104 (by decide) rfl ?_
          refine z_aload_n (pc := 105) C dX12_manLine_105 3 rfl ?_
          refine z_getf (pc := 106) C dX12_manLine_106 fX12_94 hM5 (by first | rfl | assumption) ?_
          rw [f5]
          first | refine z_ifeqB (pc := 109) C 113 dX12_manLine_109 (by decide) (fun hc109 => ?_) (fun hc109 => ?_) | refine z_ifeqN (pc := 109) C 113 dX12_manLine_109 (by decide) (by omega) (fun hc109 => ?_) (fun hc109 => ?_) | refine z_if_eq (pc := 109) C 113 dX12_manLine_109 (by decide) (fun hc109 => ?_) (fun hc109 => ?_)
          · skip
            have hf1 : oF o1 = false := by have z := oP_f (oM_f (oB_f (oP_f hc109))); rw [ek] at z; exact z
            obtain rfl := eR1 hf1
            have bv : sNv (snm R B t (7 + R 3)) B 0 6 (lMaO B n0 o1) ≤ 6 := sNv_le _
            refine z_aload_n (pc := 113) C dX12_manLine_113 3 rfl ?_
            refine z_getf (pc := 114) C dX12_manLine_114 fX12_23 hM5 (by first | rfl | assumption) ?_
            refine z_bipush (pc := 117) C dX12_manLine_117 (nI 30) (by decide) ?_
            refine z_iload_n (pc := 119) C dX12_manLine_119 2 rfl ?_
            first | refine z_iaddN (pc := 120) C dX12_manLine_120 ?_ | refine z_iadd (pc := 120) C dX12_manLine_120 ?_
            refine z_iload_n (pc := 121) C dX12_manLine_121 1 rfl ?_
            first | refine z_iastN (pc := 122) C dX12_manLine_122 hR5 (by omega) (by decide) ?_ | refine z_iastI (pc := 122) C dX12_manLine_122 hR5 (by omega) (by decide) ?_
            generalize eh6 : zup h5 1067 (zI 241 (nup (snm R B t (7 + R 3)) (30 + R 3) ((sKd B o1).getD 0))) = h6
            have G6 : ∀ a, a ≠ 1067 → h6 a = h5 a := fun a q => by rw [← eh6]; exact zup_ne q
            have hO6 := hO5.on (hh := h6) (fun a q => G6 a (by omega))
            have hM6 := hO6.m
            have f6 := f5
            have hR6 : h6 1067 = some (zI 241 (nup (snm R B t (7 + R 3)) (30 + R 3) ((sKd B o1).getD 0))) := by rw [← eh6]; exact zup_same _ _ _
            have hS6 := (G6 1069 (by decide)).trans hS5
            refine z_iconst (pc := 123) C dX12_manLine_123 (nI 0) (by decide) ?_
            refine z_istore (pc := 124) (lv' := [(4, _), (3, _), (2, _), (1, _), (0, _)]) C dX12_manLine_124 (by decide) rfl ?_
            refine z_sub (lv' := [(0, _), (1, _), (2, _), (3, _), (4, _)]) [4, 3, 2, 1, 0] rfl ?_
            have lp126 : ∀ (f : Nat) (j : Nat) (h7 : ZH), (j + f = 8 ∧ h7 1069 = some (zI 40 (nfl S (8 * R 3) j (sNv (snm R B t (7 + R 3)) B 0 6 (lMaO B n0 o1)))) ∧ ∀ a, a ≠ 1069 → h7 a = h6 a) → Zc X mX12_manLine (zEnd X (fun r hh n' => r = none ∧ (LQ h hh v B n0 (lMa R S B n0 (.inl t))) ∧ n' = n) 0 0) 126 [(0, .ref 1063), (1, .int (nI (R 3))), (2, .int (nI ((sKd B o1).getD 0))), (3, .int (nI (sNv (snm R B t (7 + R 3)) B 0 6 (lMaO B n0 o1)))), (4, .int (nI j))] [] h7 n 0 0 := by
              intro f
              induction f using Nat.strongRecOn with
              | _ f ih =>
                intro j h7 hk2
                obtain ⟨hk2, hS7, G7⟩ := hk2
                have hO7 := hO6.on (hh := h7) (fun a q => G7 a (by omega))
                have hM7 := hO7.m
                have f7 := f6
                have hR7 := (G7 1067 (by decide)).trans hR6
                refine z_iload (pc := 126) C dX12_manLine_126 4 rfl ?_
                refine z_bipush (pc := 128) C dX12_manLine_128 (nI 8) (by decide) ?_
                first | refine z_icmpgeN (pc := 130) C 152 dX12_manLine_130 (by decide) (by omega) (by omega) (fun hc130 => ?_) (fun hc130 => ?_) | refine z_icmp_ge (pc := 130) C 152 dX12_manLine_130 (by decide) (fun hc130 => ?_) (fun hc130 => ?_)
                · skip
                  refine z_aload_n (pc := 152) C dX12_manLine_152 0 rfl ?_
                  refine z_getf (pc := 153) C dX12_manLine_153 fX12_23 hM7 (by first | rfl | assumption) ?_
                  refine z_iconst (pc := 156) C dX12_manLine_156 (nI 3) (by decide) ?_
                  refine z_dup2 (pc := 157) C dX12_manLine_157 rfl rfl ?_
                  refine z_ialdE (pc := 158) C dX12_manLine_158 hR7 (by omega) (by decide) (show nup (snm R B t (7 + R 3)) (30 + R 3) ((sKd B o1).getD 0) 3 = R 3 from (nup_ne (by omega)).trans (snm_ne (by decide))) ?_
                  refine z_iconst (pc := 159) C dX12_manLine_159 (nI 1) (by decide) ?_
                  first | refine z_iaddN (pc := 160) C dX12_manLine_160 ?_ | refine z_iadd (pc := 160) C dX12_manLine_160 ?_
                  first | refine z_iastN (pc := 161) C dX12_manLine_161 hR7 (by omega) (by decide) ?_ | refine z_iastI (pc := 161) C dX12_manLine_161 hR7 (by omega) (by decide) ?_
                  generalize eh8 : zup h7 1067 (zI 241 (nup (nup (snm R B t (7 + R 3)) (30 + R 3) ((sKd B o1).getD 0)) 3 (R 3 + 1))) = h8
                  have G8 : ∀ a, a ≠ 1067 → h8 a = h7 a := fun a q => by rw [← eh8]; exact zup_ne q
                  have hO8 := hO7.on (hh := h8) (fun a q => G8 a (by omega))
                  have hM8 := hO8.m
                  have f8 := f7
                  have hR8 : h8 1067 = some (zI 241 (nup (nup (snm R B t (7 + R 3)) (30 + R 3) ((sKd B o1).getD 0)) 3 (R 3 + 1))) := by rw [← eh8]; exact zup_same _ _ _
                  have hS8 := (G8 1069 (by decide)).trans hS7
                  refine z_vret (pc := 162) C dX12_manLine_162 rfl (Nat.zero_le _) (Nat.zero_le _) ⟨rfl, ?_, rfl⟩
                  obtain rfl : j = 8 := (by omega); show LQ h _ v B n0 (lMaA (snm R B t (7 + R 3)) S B n0 (R 3) (sNw R B n0 t)); rw [eo1]; exact LQ.of hO8 ((((hV1.tr hV2).tr hV3).tr hV4).tr hV5) hR8 hS8 (fun _ => ⟨rfl, rfl⟩) (fun a q1 q2 q3 q4 => ((G8 a q3).trans ((G7 a q4).trans ((G6 a q3).trans ((F5 a q1 q2).trans ((F4 a q1 q2).trans ((F3 a q1 q2).trans ((F2 a q1 q2).trans (F1 a q1 q2 q3)))))))))
                · skip
                  refine z_aload_n (pc := 133) C dX12_manLine_133 0 rfl ?_
                  refine z_getf (pc := 134) C dX12_manLine_134 fX12_29 hM7 (by first | rfl | assumption) ?_
                  refine z_bipush (pc := 137) C dX12_manLine_137 (nI 8) (by decide) ?_
                  refine z_iload_n (pc := 139) C dX12_manLine_139 1 rfl ?_
                  first | refine z_imulN (pc := 140) C dX12_manLine_140 ?_ | refine z_imul (pc := 140) C dX12_manLine_140 ?_
                  refine z_iload (pc := 141) C dX12_manLine_141 4 rfl ?_
                  first | refine z_iaddN (pc := 143) C dX12_manLine_143 ?_ | refine z_iadd (pc := 143) C dX12_manLine_143 ?_
                  refine z_iload_n (pc := 144) C dX12_manLine_144 3 rfl ?_
                  first | refine z_iastN (pc := 145) C dX12_manLine_145 hS7 (by omega) (by decide) ?_ | refine z_iastI (pc := 145) C dX12_manLine_145 hS7 (by omega) (by decide) ?_
                  first | refine z_iincN (pc := 146) (lv' := [(4, _), (0, _), (1, _), (2, _), (3, _)]) C 1 dX12_manLine_146 4 rfl (by decide) (by decide) rfl ?_ | refine z_iinc (pc := 146) (lv' := [(4, _), (0, _), (1, _), (2, _), (3, _)]) C dX12_manLine_146 4 rfl _ rfl (by decide) rfl ?_
                  refine z_goto (pc := 149) C 126 dX12_manLine_149 (by decide) ?_
                  refine z_sub (lv' := [(0, _), (1, _), (2, _), (3, _), (4, _)]) [1, 2, 3, 4, 0] rfl ?_
                  exact ih (f - 1) (by omega) (j + 1) _ ⟨by omega, by rw [← nfl_s]; exact zup_same _ _ _, fun a q => (zup_ne q).trans (G7 a q)⟩
            exact lp126 8 0 h6 ⟨rfl, by rw [nfl_0]; exact hS6, fun _ _ => rfl⟩
          · skip
            refine z_vret (pc := 112) C dX12_manLine_112 rfl (Nat.zero_le _) (Nat.zero_le _) ⟨rfl, ?_, rfl⟩
            show LQ h _ v B n0 (lMaA (snm R B t (7 + R 3)) S B n0 (R 3) (sNw R B n0 t)); rw [eo1]; have eK : (lMaA R1 S B n0 (R 3) o1).1 = (lMaA (snm R B t (7 + R 3)) S B n0 (R 3) o1).1 := (by cases o1 with | inl t1 => rw [eR1 rfl] | inr e => rfl); exact LQ.of (by rw [← eK]; exact hO5) ((((hV1.tr hV2).tr hV3).tr hV4).tr hV5) hR5 hS5 (fun z => by rw [← eK] at z; cases hc109.symm.trans z) (fun a q1 q2 q3 q4 => ((F5 a q1 q2).trans ((F4 a q1 q2).trans ((F3 a q1 q2).trans ((F2 a q1 q2).trans (F1 a q1 q2 q3))))))
        · exact hc78.elim
    · skip
      have ek : sKd B o1 = some 0 := by unfold sKd; simp only [show oW B o1 12 = true from hc29]; rfl
      have bk : ((sKd B o1).getD 0) ≤ 3 := by rw [ek]; decide
      have hO2 := hO1
      have f2 := f1
      have hM2 := hM1
      have hR2 := hR1
      have hS2 := hS1
      have hV2 : rW v1 v1 := rW.rf _
      have F2 : rF h1 h1 := rF.rf _
      rw [show o1 = (if sKd B o1 = none then oX o1 1 else o1) from by rw [ek]; rfl] at hO2
      refine z_iconst (pc := 32) C dX12_manLine_32 (nI 0) (by decide) ?_
      refine z_top (show nI 0 = nI ((sKd B o1).getD 0) from by rw [ek]; rfl) ?_
      refine z_goto (pc := 33) C 76 dX12_manLine_33 (by decide) ?_
      refine z_istore_n (pc := 76) (lv' := [(2, _), (1, _), (0, _)]) C dX12_manLine_76 (by decide) rfl ?_
      refine z_iload_n (pc := 77) C dX12_manLine_77 0 rfl ?_
      first | refine z_ifgeO (pc := 78) C 90 dX12_manLine_78 (by decide) (by assumption) (fun hc78 => ?_) (fun hc78 => ?_) | refine z_ifgeN (pc := 78) C 90 dX12_manLine_78 (by decide) (by omega) (fun hc78 => ?_) (fun hc78 => ?_) | refine z_if_ge (pc := 78) C 90 dX12_manLine_78 (by decide) (fun hc78 => ?_) (fun hc78 => ?_)
      · skip
        refine z_aload_n (pc := 90) C dX12_manLine_90 2 rfl ?_
        refine z_cV0Q (pc := 91) mX12_pass C [] dX12_manLine_91 lX12_157 mtX12_pass (tX12_passO hO2 (fun t9 ht9 => by first | (rw [if_pos ek] at ht9; exact (oX_f (oF_fe ht9)).elim) | (rw [ek] at ht9; rw [sKd_w ek ht9]; decide))) hM2 rfl rfl (by decide) (Nat.le_of_ble_eq_true rfl) (Nat.zero_le _) (Nat.zero_le _) ?_
        rintro h3 ⟨⟨v3, hO3, hV3⟩, F3⟩
        have hM3 := hO3.m
        have f3 := hO3.f
        have hR3 : h3 1067 = _ := (F3 1067 (by decide) (by decide)).trans hR2
        have hS3 : h3 1069 = _ := (F3 1069 (by decide) (by decide)).trans hS2
        refine z_aload_n (pc := 94) C dX12_manLine_94 2 rfl ?_
        refine z_ldcS (pc := 95) (ix := 248) (i := 16) (tx := "at") C dX12_manLine_95 (show (RX12, 248, "at", 16) ∈ zSR by simp [zSR]) ?_
        refine z_cV0Q (pc := 97) mX12_must C [_] dX12_manLine_97 lX12_163 mtX12_must (tX12_mustO hO3 (by decide)) hM3 rfl rfl (by decide) (Nat.le_of_ble_eq_true rfl) (Nat.zero_le _) (Nat.zero_le _) ?_
        rintro h4 ⟨⟨v4, hO4, hV4⟩, F4⟩
        have hM4 := hO4.m
        have f4 := hO4.f
        have hR4 : h4 1067 = _ := (F4 1067 (by decide) (by decide)).trans hR3
        have hS4 : h4 1069 = _ := (F4 1069 (by decide) (by decide)).trans hS3
        refine z_aload_n (pc := 100) C dX12_manLine_100 2 rfl ?_
        refine z_cV1Q (pc := 101) mX12_placePassed C [] dX12_manLine_101 lX12_233 mtX12_placePassed (tX12_placePassed hO4 hR4 (fun z => by have z2 := oP_f (oM_f z); first | (rw [if_pos ek] at z2; exact (oX_f z2).elim) | (rw [ek] at z2; exact bR1 z2))) hM4 rfl rfl (by decide) (Nat.le_of_ble_eq_true rfl) (Nat.zero_le _) (Nat.zero_le _) ?_
        rintro _ h5 ⟨rfl, ⟨v5, hO5, hV5⟩, F5⟩
        have hM5 := hO5.m
        have f5 := hO5.f
        have hR5 : h5 1067 = _ := (F5 1067 (by decide) (by decide)).trans hR4
        have hS5 : h5 1069 = _ := (F5 1069 (by decide) (by decide)).trans hS4
        refine z_istore_n (pc := 104) (lv' := [(3, _), (2, _), (1, _), (0, _)]) C dX12_manLine_104 (by decide) rfl ?_
        refine z_aload_n (pc := 105) C dX12_manLine_105 3 rfl ?_
        refine z_getf (pc := 106) C dX12_manLine_106 fX12_94 hM5 (by first | rfl | assumption) ?_
        rw [f5]
        first | refine z_ifeqB (pc := 109) C 113 dX12_manLine_109 (by decide) (fun hc109 => ?_) (fun hc109 => ?_) | refine z_ifeqN (pc := 109) C 113 dX12_manLine_109 (by decide) (by omega) (fun hc109 => ?_) (fun hc109 => ?_) | refine z_if_eq (pc := 109) C 113 dX12_manLine_109 (by decide) (fun hc109 => ?_) (fun hc109 => ?_)
        · skip
          have hf1 : oF o1 = false := by have z := oP_f (oM_f (oB_f (oP_f hc109))); rw [ek] at z; exact z
          obtain rfl := eR1 hf1
          have bv : sNv (snm R B t (7 + R 3)) B 0 6 (lMaO B n0 o1) ≤ 6 := sNv_le _
          refine z_aload_n (pc := 113) C dX12_manLine_113 3 rfl ?_
          refine z_getf (pc := 114) C dX12_manLine_114 fX12_23 hM5 (by first | rfl | assumption) ?_
          refine z_bipush (pc := 117) C dX12_manLine_117 (nI 30) (by decide) ?_
          refine z_iload_n (pc := 119) C dX12_manLine_119 2 rfl ?_
          first | refine z_iaddN (pc := 120) C dX12_manLine_120 ?_ | refine z_iadd (pc := 120) C dX12_manLine_120 ?_
          refine z_iload_n (pc := 121) C dX12_manLine_121 1 rfl ?_
          first | refine z_iastN (pc := 122) C dX12_manLine_122 hR5 (by omega) (by decide) ?_ | refine z_iastI (pc := 122) C dX12_manLine_122 hR5 (by omega) (by decide) ?_
          generalize eh6 : zup h5 1067 (zI 241 (nup (snm R B t (7 + R 3)) (30 + R 3) ((sKd B o1).getD 0))) = h6
          have G6 : ∀ a, a ≠ 1067 → h6 a = h5 a := fun a q => by rw [← eh6]; exact zup_ne q
          have hO6 := hO5.on (hh := h6) (fun a q => G6 a (by omega))
          have hM6 := hO6.m
          have f6 := f5
          have hR6 : h6 1067 = some (zI 241 (nup (snm R B t (7 + R 3)) (30 + R 3) ((sKd B o1).getD 0))) := by rw [← eh6]; exact zup_same _ _ _
          have hS6 := (G6 1069 (by decide)).trans hS5
          refine z_iconst (pc := 123) C dX12_manLine_123 (nI 0) (by decide) ?_
          refine z_istore (pc := 124) (lv' := [(4, _), (3, _), (2, _), (1, _), (0, _)]) C dX12_manLine_124 (by decide) rfl ?_
          refine z_sub (lv' := [(0, _), (1, _), (2, _), (3, _), (4, _)]) [4, 3, 2, 1, 0] rfl ?_
          have lp126 : ∀ (f : Nat) (j : Nat) (h7 : ZH), (j + f = 8 ∧ h7 1069 = some (zI 40 (nfl S (8 * R 3) j (sNv (snm R B t (7 + R 3)) B 0 6 (lMaO B n0 o1)))) ∧ ∀ a, a ≠ 1069 → h7 a = h6 a) → Zc X mX12_manLine (zEnd X (fun r hh n' => r = none ∧ (LQ h hh v B n0 (lMa R S B n0 (.inl t))) ∧ n' = n) 0 0) 126 [(0, .ref 1063), (1, .int (nI (R 3))), (2, .int (nI ((sKd B o1).getD 0))), (3, .int (nI (sNv (snm R B t (7 + R 3)) B 0 6 (lMaO B n0 o1)))), (4, .int (nI j))] [] h7 n 0 0 := by
            intro f
            induction f using Nat.strongRecOn with
            | _ f ih =>
              intro j h7 hk2
              obtain ⟨hk2, hS7, G7⟩ := hk2
              have hO7 := hO6.on (hh := h7) (fun a q => G7 a (by omega))
              have hM7 := hO7.m
              have f7 := f6
              have hR7 := (G7 1067 (by decide)).trans hR6
              refine z_iload (pc := 126) C dX12_manLine_126 4 rfl ?_
              refine z_bipush (pc := 128) C dX12_manLine_128 (nI 8) (by decide) ?_
              first | refine z_icmpgeN (pc := 130) C 152 dX12_manLine_130 (by decide) (by omega) (by omega) (fun hc130 => ?_) (fun hc130 => ?_) | refine z_icmp_ge (pc := 130) C 152 dX12_manLine_130 (by decide) (fun hc130 => ?_) (fun hc130 => ?_)
              · skip
                refine z_aload_n (pc := 152) C dX12_manLine_152 0 rfl ?_
                refine z_getf (pc := 153) C dX12_manLine_153 fX12_23 hM7 (by first | rfl | assumption) ?_
                refine z_iconst (pc := 156) C dX12_manLine_156 (nI 3) (by decide) ?_
                refine z_dup2 (pc := 157) C dX12_manLine_157 rfl rfl ?_
                refine z_ialdE (pc := 158) C dX12_manLine_158 hR7 (by omega) (by decide) (show nup (snm R B t (7 + R 3)) (30 + R 3) ((sKd B o1).getD 0) 3 = R 3 from (nup_ne (by omega)).trans (snm_ne (by decide))) ?_
                refine z_iconst (pc := 159) C dX12_manLine_159 (nI 1) (by decide) ?_
                first | refine z_iaddN (pc := 160) C dX12_manLine_160 ?_ | refine z_iadd (pc := 160) C dX12_manLine_160 ?_
                first | refine z_iastN (pc := 161) C dX12_manLine_161 hR7 (by omega) (by decide) ?_ | refine z_iastI (pc := 161) C dX12_manLine_161 hR7 (by omega) (by decide) ?_
                generalize eh8 : zup h7 1067 (zI 241 (nup (nup (snm R B t (7 + R 3)) (30 + R 3) ((sKd B o1).getD 0)) 3 (R 3 + 1))) = h8
                have G8 : ∀ a, a ≠ 1067 → h8 a = h7 a := fun a q => by rw [← eh8]; exact zup_ne q
                have hO8 := hO7.on (hh := h8) (fun a q => G8 a (by omega))
                have hM8 := hO8.m
                have f8 := f7
                have hR8 : h8 1067 = some (zI 241 (nup (nup (snm R B t (7 + R 3)) (30 + R 3) ((sKd B o1).getD 0)) 3 (R 3 + 1))) := by rw [← eh8]; exact zup_same _ _ _
                have hS8 := (G8 1069 (by decide)).trans hS7
                refine z_vret (pc := 162) C dX12_manLine_162 rfl (Nat.zero_le _) (Nat.zero_le _) ⟨rfl, ?_, rfl⟩
                obtain rfl : j = 8 := (by omega); show LQ h _ v B n0 (lMaA (snm R B t (7 + R 3)) S B n0 (R 3) (sNw R B n0 t)); rw [eo1]; exact LQ.of hO8 ((((hV1.tr hV2).tr hV3).tr hV4).tr hV5) hR8 hS8 (fun _ => ⟨rfl, rfl⟩) (fun a q1 q2 q3 q4 => ((G8 a q3).trans ((G7 a q4).trans ((G6 a q3).trans ((F5 a q1 q2).trans ((F4 a q1 q2).trans ((F3 a q1 q2).trans ((F2 a q1 q2).trans (F1 a q1 q2 q3)))))))))
              · skip
                refine z_aload_n (pc := 133) C dX12_manLine_133 0 rfl ?_
                refine z_getf (pc := 134) C dX12_manLine_134 fX12_29 hM7 (by first | rfl | assumption) ?_
                refine z_bipush (pc := 137) C dX12_manLine_137 (nI 8) (by decide) ?_
                refine z_iload_n (pc := 139) C dX12_manLine_139 1 rfl ?_
                first | refine z_imulN (pc := 140) C dX12_manLine_140 ?_ | refine z_imul (pc := 140) C dX12_manLine_140 ?_
                refine z_iload (pc := 141) C dX12_manLine_141 4 rfl ?_
                first | refine z_iaddN (pc := 143) C dX12_manLine_143 ?_ | refine z_iadd (pc := 143) C dX12_manLine_143 ?_
                refine z_iload_n (pc := 144) C dX12_manLine_144 3 rfl ?_
                first | refine z_iastN (pc := 145) C dX12_manLine_145 hS7 (by omega) (by decide) ?_ | refine z_iastI (pc := 145) C dX12_manLine_145 hS7 (by omega) (by decide) ?_
                first | refine z_iincN (pc := 146) (lv' := [(4, _), (0, _), (1, _), (2, _), (3, _)]) C 1 dX12_manLine_146 4 rfl (by decide) (by decide) rfl ?_ | refine z_iinc (pc := 146) (lv' := [(4, _), (0, _), (1, _), (2, _), (3, _)]) C dX12_manLine_146 4 rfl _ rfl (by decide) rfl ?_
                refine z_goto (pc := 149) C 126 dX12_manLine_149 (by decide) ?_
                refine z_sub (lv' := [(0, _), (1, _), (2, _), (3, _), (4, _)]) [1, 2, 3, 4, 0] rfl ?_
                exact ih (f - 1) (by omega) (j + 1) _ ⟨by omega, by rw [← nfl_s]; exact zup_same _ _ _, fun a q => (zup_ne q).trans (G7 a q)⟩
          exact lp126 8 0 h6 ⟨rfl, by rw [nfl_0]; exact hS6, fun _ _ => rfl⟩
        · skip
          refine z_vret (pc := 112) C dX12_manLine_112 rfl (Nat.zero_le _) (Nat.zero_le _) ⟨rfl, ?_, rfl⟩
          show LQ h _ v B n0 (lMaA (snm R B t (7 + R 3)) S B n0 (R 3) (sNw R B n0 t)); rw [eo1]; have eK : (lMaA R1 S B n0 (R 3) o1).1 = (lMaA (snm R B t (7 + R 3)) S B n0 (R 3) o1).1 := (by cases o1 with | inl t1 => rw [eR1 rfl] | inr e => rfl); exact LQ.of (by rw [← eK]; exact hO5) ((((hV1.tr hV2).tr hV3).tr hV4).tr hV5) hR5 hS5 (fun z => by rw [← eK] at z; cases hc109.symm.trans z) (fun a q1 q2 q3 q4 => ((F5 a q1 q2).trans ((F4 a q1 q2).trans ((F3 a q1 q2).trans ((F2 a q1 q2).trans (F1 a q1 q2 q3))))))
      · exact hc78.elim
  · skip
    refine z_vret (pc := 7) C dX12_manLine_7 rfl (Nat.zero_le _) (Nat.zero_le _) ⟨rfl, ?_, rfl⟩
    obtain ⟨e, rfl⟩ := oF_t hc4; exact LQ.of hO0 (rW.rf v) hR0 hS0 (fun z => by cases z) (fun _ _ _ _ _ => rfl)
