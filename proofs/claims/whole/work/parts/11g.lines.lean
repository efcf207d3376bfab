theorem oF_te {o : TO} {e : Nat × Nat} (h : o = .inr e) : oF o = true := by rw [h]; rfl
def nwT (R B : Nat → Nat) (n : Nat) (t : Nat × Nat × Nat) : TO := sNw R B n t
def lKiA (R1 S B : Nat → Nat) (n x : Nat) (o1 : TO) : TO × (Nat → Nat) × (Nat → Nat) :=
  (sAf B n 19 20 (sAf B n 18 3 (lKiO R1 B n o1)), nup (nup (nup (nup R1 (34 + 4 * x) (lKiV R1 B n o1)) (34 + 4 * x + 1) (sAv B n 18 3 (lKiO R1 B n o1))) (34 + 4 * x + 2) (sAv B n 19 20 (sAf B n 18 3 (lKiO R1 B n o1)))) 4 (x + 1), nup S (32 + x) (lKiV R1 B n o1))
def lKi (R S B : Nat → Nat) (n : Nat) (o : TO) : TO × (Nat → Nat) × (Nat → Nat) := match o with
  | .inl t => lKiA (snm R B t (11 + R 4)) S B n (R 4) (sNw R B n t)
  | .inr e => (.inr e, R, S)
def lTaO (R S B : Nat → Nat) (n : Nat) (o : TO) : TO := oB (oB (oP B n (oB o (sNmd R B 11 16))) (sNmd R B 7 10)) (fun t => if S (32 + sNv R B 11 16 o) = sNv R B 7 10 (oP B n (oB o (sNmd R B 11 16))) then .inr (3, t.2.1) else .inl t)
def lTa (R S B : Nat → Nat) (n : Nat) (o : TO) : TO × (Nat → Nat) × (Nat → Nat) :=
  (oP B n (lTaO R S B n o), nup R 7 (R 7 + 1), nup S (32 + sNv R B 11 16 o) (sNv R B 7 10 (oP B n (oB o (sNmd R B 11 16)))))
def lStA (R1 S B : Nat → Nat) (n x : Nat) (o1 : TO) : TO × (Nat → Nat) × (Nat → Nat) :=
  (oP B n (oB (oM B n o1 16) (sNmd R1 B 0 6)), nup (nup R1 (58 + x) (sNv R1 B 0 6 (oM B n o1 16))) 5 (x + 1), S)
def lSt (R S B : Nat → Nat) (n : Nat) (o : TO) : TO × (Nat → Nat) × (Nat → Nat) := match o with
  | .inl t => lStA (snm R B t (17 + R 5)) S B n (R 5) (sNw R B n t)
  | .inr e => (.inr e, R, S)
theorem oB_nt {o : TO} {R B : Nat → Nat} {lo hi : Nat} : ∀ t9, oB o (sNmd R B lo hi) = .inl t9 → t9.1 = 1 := by
  intro t9 h
  cases o with
  | inr e => cases h
  | inl t => obtain ⟨rfl, hw, -⟩ := sNmd_w h; exact hw

set_option maxRecDepth 20000 in
set_option maxHeartbeats 1000000 in
theorem tX12_placeLine {h : ZH} {v : Nat → Int32} {B R S : Nat → Nat} {n0 : Nat} {o : TO} (hO0 : MO h v B n0 o) (hR0 : h 1067 = some (zI 241 R)) (hS0 : h 1069 = some (zI 40 S)) (hI : oF o = false → RI R S) (hc : oF o = false → R 1 < 7) : ZQ0 mX12_placeLine 8 [.ref 1063] h (fun hh => LQ h hh v B n0 (lPl R S B n0 o)) := by
  intro n
  have hM0 := hO0.m
  have f0 := hO0.f
  refine z_enter (lv := [(0, _)]) (by decide) (Nat.le_of_ble_eq_true rfl) rfl (fun X C => ?_)
  refine z_aload_n (pc := 0) C dX12_placeLine_0 0 rfl ?_
  refine z_getf (pc := 1) C dX12_placeLine_1 fX12_94 hM0 (by first | rfl | assumption) ?_
  rw [f0]
  first | refine z_ifeqB (pc := 4) C 8 dX12_placeLine_4 (by decide) (fun hc4 => ?_) (fun hc4 => ?_) | refine z_ifeqN (pc := 4) C 8 dX12_placeLine_4 (by decide) (by omega) (fun hc4 => ?_) (fun hc4 => ?_) | refine z_if_eq (pc := 4) C 8 dX12_placeLine_4 (by decide) (fun hc4 => ?_) (fun hc4 => ?_)
  · skip
    obtain ⟨t, rfl⟩ := oF_f hc4
    obtain ⟨i1, ⟨i2, i3, i4, i5, i6⟩, i7, i8, i9⟩ := hI rfl
    have hk := hO0.1.2.2.2.1
    have i0 := hc rfl
    refine z_aload_n (pc := 8) C dX12_placeLine_8 0 rfl ?_
    refine z_getf (pc := 9) C dX12_placeLine_9 fX12_23 hM0 (by first | rfl | assumption) ?_
    refine z_iconst (pc := 12) C dX12_placeLine_12 (nI 1) (by decide) ?_
    first | refine z_ialdN (pc := 13) C dX12_placeLine_13 hR0 (by omega) (by decide) ?_ | refine z_ialdI (pc := 13) C dX12_placeLine_13 hR0 (by omega) (by decide) ?_
    refine z_istore_n (pc := 14) (lv' := [(1, _), (0, _)]) C dX12_placeLine_14 (by decide) rfl ?_
    refine z_aload_n (pc := 15) C dX12_placeLine_15 1 rfl ?_
    refine z_iload_n (pc := 16) C dX12_placeLine_16 0 rfl ?_
    refine z_cV0Q (pc := 17) mX12_newName C [_] dX12_placeLine_17 lX12_223 mtX12_newName (tX12_newNameY (x := R 1) hO0.1 hO0.2 hR0 i1 (by omega)) hM0 rfl rfl (by decide) (Nat.le_of_ble_eq_true rfl) (Nat.zero_le _) (Nat.zero_le _) ?_
    rintro h1 ⟨⟨v1, hO1, hV1⟩, ⟨R1, hR1, eR1⟩, F1⟩
    generalize eo1 : sNw R B n0 t = o1 at hO1 eR1
    have hM1 := hO1.m
    have f1 := hO1.f
    have hS1 : h1 1069 = _ := (F1 1069 (by decide) (by decide) (by decide)).trans hS0
    have bR1 : oF o1 = false → ∀ j, j < 241 → R1 j < 2147483648 := fun z => by rw [eR1 z]; exact snm_lt hk i1
    refine z_aload_n (pc := 20) C dX12_placeLine_20 1 rfl ?_
    refine z_ldcS (pc := 21) (ix := 227) (i := 9) (tx := "lit") C dX12_placeLine_21 (show (RX12, 227, "lit", 9) ∈ zSR by simp [zSR]) ?_
    refine z_cV1Q (pc := 23) mX12_takesWord C [_] dX12_placeLine_23 lX12_118 mtX12_takesWord (tX12_takesWordO hO1 (by decide)) hM1 rfl rfl (by decide) (Nat.le_of_ble_eq_true rfl) (Nat.zero_le _) (Nat.zero_le _) ?_
    rintro _ h2 ⟨rfl, ⟨v2, hO2, hV2⟩, F2⟩
    have hM2 := hO2.m
    have f2 := hO2.f
    have hR2 : h2 1067 = _ := (F2 1067 (by decide) (by decide)).trans hR1
    have hS2 : h2 1069 = _ := (F2 1069 (by decide) (by decide)).trans hS1
    refine z_istore_n (pc := 26) (lv' := [(2, _), (1, _), (0, _)]) C dX12_placeLine_26 (by decide) rfl ?_
    refine z_iload_n (pc := 27) C dX12_placeLine_27 0 rfl ?_
    first | refine z_ifneB (pc := 28) C 37 dX12_placeLine_28 (by decide) (fun hc28 => ?_) (fun hc28 => ?_) | refine z_ifneN (pc := 28) C 37 dX12_placeLine_28 (by decide) (by omega) (fun hc28 => ?_) (fun hc28 => ?_) | refine z_if_ne (pc := 28) C 37 dX12_placeLine_28 (by decide) (fun hc28 => ?_) (fun hc28 => ?_)
    · skip
      have e9 : oW B o1 9 = true := hc28
      have eo3 : oT B n0 o1 9 = (if oW B o1 9 then oT B n0 o1 9 else oM B n0 (oT B n0 o1 9) 10) := by rw [if_pos e9]
      rw [eo3] at hO2
      have hO3 := hO2
      have hM3 := hM2
      have f3 := hO3.f
      have hR3 := hR2
      have hS3 := hS2
      have hV3 : rW v2 v2 := rW.rf _
      have F3 : rF h2 h2 := rF.rf _
      refine z_aload_n (pc := 37) C dX12_placeLine_37 2 rfl ?_
      refine z_getf (pc := 38) C dX12_placeLine_38 fX12_23 hM3 (by first | rfl | assumption) ?_
      refine z_bipush (pc := 41) C dX12_placeLine_41 (nI 9) (by decide) ?_
      refine z_iload_n (pc := 43) C dX12_placeLine_43 1 rfl ?_
      first | refine z_iaddN (pc := 44) C dX12_placeLine_44 ?_ | refine z_iadd (pc := 44) C dX12_placeLine_44 ?_
      refine z_aload_n (pc := 45) C dX12_placeLine_45 2 rfl ?_
      refine z_ldcS (pc := 46) (ix := 231) (i := 11) (tx := "holds") C dX12_placeLine_46 (show (RX12, 231, "holds", 11) ∈ zSR by simp [zSR]) ?_
      refine z_iconst (pc := 48) C dX12_placeLine_48 (nI 0) (by decide) ?_
      refine z_bipush (pc := 49) C dX12_placeLine_49 (nI 9) (by decide) ?_
      refine z_cV1Q (pc := 51) mX12_after C [_, _, _] dX12_placeLine_51 lX12_219 mtX12_after (tX12_after hO3 (by decide) (by decide)) hM3 rfl rfl (by decide) (Nat.le_of_ble_eq_true rfl) (Nat.zero_le _) (Nat.zero_le _) ?_
      rintro _ h4 ⟨rfl, ⟨v4, hO4, hV4⟩, F4⟩
      have hM4 := hO4.m
      have f4 := hO4.f
      have hR4 : h4 1067 = _ := (F4 1067 (by decide) (by decide)).trans hR3
      have hS4 : h4 1069 = _ := (F4 1069 (by decide) (by decide)).trans hS3
      first | refine z_iastN (pc := 54) C dX12_placeLine_54 hR4 (by omega) (by decide) ?_ | refine z_iastI (pc := 54) C dX12_placeLine_54 hR4 (by omega) (by decide) ?_
      generalize eh5 : zup h4 1067 (zI 241 (nup R1 (9 + R 1) (sAv B n0 11 9 (if oW B o1 9 then oT B n0 o1 9 else oM B n0 (oT B n0 o1 9) 10)))) = h5
      have G5 : ∀ a, a ≠ 1067 → h5 a = h4 a := fun a q => by rw [← eh5]; exact zup_ne q
      have hO5 := hO4.on (hh := h5) (fun a q => G5 a (by omega))
      have hM5 := hO5.m
      have f5 := f4
      have hR5 : h5 1067 = some (zI 241 (nup R1 (9 + R 1) (sAv B n0 11 9 (if oW B o1 9 then oT B n0 o1 9 else oM B n0 (oT B n0 o1 9) 10)))) := by rw [← eh5]; exact zup_same _ _ _
      have hS5 := (G5 1069 (by decide)).trans hS4
      refine z_aload_n (pc := 55) C dX12_placeLine_55 2 rfl ?_
      refine z_getf (pc := 56) C dX12_placeLine_56 fX12_94 hM5 (by first | rfl | assumption) ?_
      rw [f5]
      first | refine z_ifeqB (pc := 59) C 63 dX12_placeLine_59 (by decide) (fun hc59 => ?_) (fun hc59 => ?_) | refine z_ifeqN (pc := 59) C 63 dX12_placeLine_59 (by decide) (by omega) (fun hc59 => ?_) (fun hc59 => ?_) | refine z_if_eq (pc := 59) C 63 dX12_placeLine_59 (by decide) (fun hc59 => ?_) (fun hc59 => ?_)
      · skip
        have hf5 := oB_f (oB_f hc59)
        have hf1 : oF o1 = false := by cases o1 with | inl t => rfl | inr e => rw [show oW B (.inr e) 9 = false from rfl] at hf5; cases hf5
        obtain rfl := eR1 hf1
        refine z_aload_n (pc := 63) C dX12_placeLine_63 2 rfl ?_
        refine z_getf (pc := 64) C dX12_placeLine_64 fX12_29 hM5 (by first | rfl | assumption) ?_
        refine z_bipush (pc := 67) C dX12_placeLine_67 (nI 38) (by decide) ?_
        refine z_dup2 (pc := 69) C dX12_placeLine_69 rfl rfl ?_
        first | refine z_ialdN (pc := 70) C dX12_placeLine_70 hS5 (by omega) (by decide) ?_ | refine z_ialdI (pc := 70) C dX12_placeLine_70 hS5 (by omega) (by decide) ?_
        refine z_iload_n (pc := 71) C dX12_placeLine_71 0 rfl ?_
        first | refine z_ifeqB (pc := 72) C 81 dX12_placeLine_72 (by decide) (fun hc72 => ?_) (fun hc72 => ?_) | refine z_ifeqN (pc := 72) C 81 dX12_placeLine_72 (by decide) (by omega) (fun hc72 => ?_) (fun hc72 => ?_) | refine z_if_eq (pc := 72) C 81 dX12_placeLine_72 (by decide) (fun hc72 => ?_) (fun hc72 => ?_)
        · rw [e9] at hc72; cases hc72
        · skip
          refine z_iconst (pc := 75) C dX12_placeLine_75 (nI 1) (by decide) ?_
          refine z_iload_n (pc := 76) C dX12_placeLine_76 1 rfl ?_
          first | refine z_ishlN (pc := 77) C dX12_placeLine_77 (by omega) ?_ | refine z_ishl (pc := 77) C dX12_placeLine_77 ?_
          refine z_goto (pc := 78) C 82 dX12_placeLine_78 (by decide) ?_
          first | refine z_iorN (pc := 82) C dX12_placeLine_82 ?_ | refine z_ior (pc := 82) C dX12_placeLine_82 ?_
          first | refine z_top (show nI (S 38 ||| 1 <<< R 1) = nI (S 38 ||| (if oW B o1 9 then 1 <<< R 1 else 0)) from by rw [if_pos e9]) ?_ | refine z_top (show nI (S 38 ||| 0) = nI (S 38 ||| (if oW B o1 9 then 1 <<< R 1 else 0)) from by rw [e9]; rfl) ?_
          first | refine z_iastN (pc := 83) C dX12_placeLine_83 hS5 (by omega) (by decide) ?_ | refine z_iastI (pc := 83) C dX12_placeLine_83 hS5 (by omega) (by decide) ?_
          generalize eh6 : zup h5 1069 (zI 40 (nup S 38 (S 38 ||| (if oW B o1 9 then 1 <<< R 1 else 0)))) = h6
          have G6 : ∀ a, a ≠ 1069 → h6 a = h5 a := fun a q => by rw [← eh6]; exact zup_ne q
          have hO6 := hO5.on (hh := h6) (fun a q => G6 a (by omega))
          have hM6 := hO6.m
          have f6 := f5
          have hS6 : h6 1069 = some (zI 40 (nup S 38 (S 38 ||| (if oW B o1 9 then 1 <<< R 1 else 0)))) := by rw [← eh6]; exact zup_same _ _ _
          have hR6 := (G6 1067 (by decide)).trans hR5
          refine z_aload_n (pc := 84) C dX12_placeLine_84 2 rfl ?_
          refine z_getf (pc := 85) C dX12_placeLine_85 fX12_23 hM6 (by first | rfl | assumption) ?_
          refine z_iconst (pc := 88) C dX12_placeLine_88 (nI 1) (by decide) ?_
          refine z_dup2 (pc := 89) C dX12_placeLine_89 rfl rfl ?_
          refine z_ialdE (pc := 90) C dX12_placeLine_90 hR6 (by omega) (by decide) (show nup (snm R B t (R 1)) (9 + R 1) (sAv B n0 11 9 (if oW B o1 9 then oT B n0 o1 9 else oM B n0 (oT B n0 o1 9) 10)) 1 = R 1 from (nup_ne (by omega)).trans (snm_ne (by decide))) ?_
          refine z_iconst (pc := 91) C dX12_placeLine_91 (nI 1) (by decide) ?_
          first | refine z_iaddN (pc := 92) C dX12_placeLine_92 ?_ | refine z_iadd (pc := 92) C dX12_placeLine_92 ?_
          first | refine z_iastN (pc := 93) C dX12_placeLine_93 hR6 (by omega) (by decide) ?_ | refine z_iastI (pc := 93) C dX12_placeLine_93 hR6 (by omega) (by decide) ?_
          generalize eh7 : zup h6 1067 (zI 241 (nup (nup (snm R B t (R 1)) (9 + R 1) (sAv B n0 11 9 (if oW B o1 9 then oT B n0 o1 9 else oM B n0 (oT B n0 o1 9) 10))) 1 (R 1 + 1))) = h7
          have G7 : ∀ a, a ≠ 1067 → h7 a = h6 a := fun a q => by rw [← eh7]; exact zup_ne q
          have hO7 := hO6.on (hh := h7) (fun a q => G7 a (by omega))
          have hM7 := hO7.m
          have f7 := f6
          have hR7 : h7 1067 = some (zI 241 (nup (nup (snm R B t (R 1)) (9 + R 1) (sAv B n0 11 9 (if oW B o1 9 then oT B n0 o1 9 else oM B n0 (oT B n0 o1 9) 10))) 1 (R 1 + 1))) := by rw [← eh7]; exact zup_same _ _ _
          have hS7 := (G7 1069 (by decide)).trans hS6
          refine z_vret (pc := 94) C dX12_placeLine_94 rfl (Nat.zero_le _) (Nat.zero_le _) ⟨rfl, ?_, rfl⟩
          show LQ h _ v B n0 (lPlA _ S B n0 (R 1) (sNw R B n0 t)); rw [eo1]; exact LQ.of hO7 (((hV1.tr hV2).tr hV3).tr hV4) hR7 hS7 (fun _ => ⟨rfl, rfl⟩) (fun a q1 q2 q3 q4 => ((G7 a q3).trans ((G6 a q4).trans ((G5 a q3).trans ((F4 a q1 q2).trans ((F3 a q1 q2).trans ((F2 a q1 q2).trans (F1 a q1 q2 q3))))))))
      · skip
        refine z_vret (pc := 62) C dX12_placeLine_62 rfl (Nat.zero_le _) (Nat.zero_le _) ⟨rfl, ?_, rfl⟩
        show LQ h _ v B n0 (lPlA _ S B n0 (R 1) (sNw R B n0 t)); rw [eo1]; exact LQ.of hO5 (((hV1.tr hV2).tr hV3).tr hV4) hR5 hS5 (fun z => by cases hc59.symm.trans z) (fun a q1 q2 q3 q4 => ((G5 a q3).trans ((F4 a q1 q2).trans ((F3 a q1 q2).trans ((F2 a q1 q2).trans (F1 a q1 q2 q3))))))
    · skip
      have e9 : oW B o1 9 = false := hc28
      refine z_aload_n (pc := 31) C dX12_placeLine_31 2 rfl ?_
      refine z_ldcS (pc := 32) (ix := 229) (i := 10) (tx := "dark") C dX12_placeLine_32 (show (RX12, 229, "dark", 10) ∈ zSR by simp [zSR]) ?_
      refine z_cV0Q (pc := 34) mX12_must C [_] dX12_placeLine_34 lX12_163 mtX12_must (tX12_mustO hO2 (by decide)) hM2 rfl rfl (by decide) (Nat.le_of_ble_eq_true rfl) (Nat.zero_le _) (Nat.zero_le _) ?_
      rintro h3 ⟨⟨v3, hO3, hV3⟩, F3⟩
      have hM3 := hO3.m
      have f3 := hO3.f
      have hR3 : h3 1067 = _ := (F3 1067 (by decide) (by decide)).trans hR2
      have hS3 : h3 1069 = _ := (F3 1069 (by decide) (by decide)).trans hS2
      have eo3 : oM B n0 (oT B n0 o1 9) 10 = (if oW B o1 9 then oT B n0 o1 9 else oM B n0 (oT B n0 o1 9) 10) := by rw [e9]; rfl
      rw [eo3] at hO3 f3
      refine z_aload_n (pc := 37) C dX12_placeLine_37 2 rfl ?_
      refine z_getf (pc := 38) C dX12_placeLine_38 fX12_23 hM3 (by first | rfl | assumption) ?_
      refine z_bipush (pc := 41) C dX12_placeLine_41 (nI 9) (by decide) ?_
      refine z_iload_n (pc := 43) C dX12_placeLine_43 1 rfl ?_
      first | refine z_iaddN (pc := 44) C dX12_placeLine_44 ?_ | refine z_iadd (pc := 44) C dX12_placeLine_44 ?_
      refine z_aload_n (pc := 45) C dX12_placeLine_45 2 rfl ?_
      refine z_ldcS (pc := 46) (ix := 231) (i := 11) (tx := "holds") C dX12_placeLine_46 (show (RX12, 231, "holds", 11) ∈ zSR by simp [zSR]) ?_
      refine z_iconst (pc := 48) C dX12_placeLine_48 (nI 0) (by decide) ?_
      refine z_bipush (pc := 49) C dX12_placeLine_49 (nI 9) (by decide) ?_
      refine z_cV1Q (pc := 51) mX12_after C [_, _, _] dX12_placeLine_51 lX12_219 mtX12_after (tX12_after hO3 (by decide) (by decide)) hM3 rfl rfl (by decide) (Nat.le_of_ble_eq_true rfl) (Nat.zero_le _) (Nat.zero_le _) ?_
      rintro _ h4 ⟨rfl, ⟨v4, hO4, hV4⟩, F4⟩
      have hM4 := hO4.m
      have f4 := hO4.f
      have hR4 : h4 1067 = _ := (F4 1067 (by decide) (by decide)).trans hR3
      have hS4 : h4 1069 = _ := (F4 1069 (by decide) (by decide)).trans hS3
      first | refine z_iastN (pc := 54) C dX12_placeLine_54 hR4 (by omega) (by decide) ?_ | refine z_iastI (pc := 54) C dX12_placeLine_54 hR4 (by omega) (by decide) ?_
      generalize eh5 : zup h4 1067 (zI 241 (nup R1 (9 + R 1) (sAv B n0 11 9 (if oW B o1 9 then oT B n0 o1 9 else oM B n0 (oT B n0 o1 9) 10)))) = h5
      have G5 : ∀ a, a ≠ 1067 → h5 a = h4 a := fun a q => by rw [← eh5]; exact zup_ne q
      have hO5 := hO4.on (hh := h5) (fun a q => G5 a (by omega))
      have hM5 := hO5.m
      have f5 := f4
      have hR5 : h5 1067 = some (zI 241 (nup R1 (9 + R 1) (sAv B n0 11 9 (if oW B o1 9 then oT B n0 o1 9 else oM B n0 (oT B n0 o1 9) 10)))) := by rw [← eh5]; exact zup_same _ _ _
      have hS5 := (G5 1069 (by decide)).trans hS4
      refine z_aload_n (pc := 55) C dX12_placeLine_55 2 rfl ?_
      refine z_getf (pc := 56) C dX12_placeLine_56 fX12_94 hM5 (by first | rfl | assumption) ?_
      rw [f5]
      first | refine z_ifeqB (pc := 59) C 63 dX12_placeLine_59 (by decide) (fun hc59 => ?_) (fun hc59 => ?_) | refine z_ifeqN (pc := 59) C 63 dX12_placeLine_59 (by decide) (by omega) (fun hc59 => ?_) (fun hc59 => ?_) | refine z_if_eq (pc := 59) C 63 dX12_placeLine_59 (by decide) (fun hc59 => ?_) (fun hc59 => ?_)
      · skip
        have hf5 := oB_f (oB_f hc59)
        have hf1 : oF o1 = false := by cases o1 with | inl t => rfl | inr e => rw [show oW B (.inr e) 9 = false from rfl] at hf5; cases hf5
        obtain rfl := eR1 hf1
        refine z_aload_n (pc := 63) C dX12_placeLine_63 2 rfl ?_
        refine z_getf (pc := 64) C dX12_placeLine_64 fX12_29 hM5 (by first | rfl | assumption) ?_
        refine z_bipush (pc := 67) C dX12_placeLine_67 (nI 38) (by decide) ?_
        refine z_dup2 (pc := 69) C dX12_placeLine_69 rfl rfl ?_
        first | refine z_ialdN (pc := 70) C dX12_placeLine_70 hS5 (by omega) (by decide) ?_ | refine z_ialdI (pc := 70) C dX12_placeLine_70 hS5 (by omega) (by decide) ?_
        refine z_iload_n (pc := 71) C dX12_placeLine_71 0 rfl ?_
        first | refine z_ifeqB (pc := 72) C 81 dX12_placeLine_72 (by decide) (fun hc72 => ?_) (fun hc72 => ?_) | refine z_ifeqN (pc := 72) C 81 dX12_placeLine_72 (by decide) (by omega) (fun hc72 => ?_) (fun hc72 => ?_) | refine z_if_eq (pc := 72) C 81 dX12_placeLine_72 (by decide) (fun hc72 => ?_) (fun hc72 => ?_)
        · skip
          refine z_iconst (pc := 81) C dX12_placeLine_81 (nI 0) (by decide) ?_
          first | refine z_iorN (pc := 82) C dX12_placeLine_82 ?_ | refine z_ior (pc := 82) C dX12_placeLine_82 ?_
          first | refine z_top (show nI (S 38 ||| 1 <<< R 1) = nI (S 38 ||| (if oW B o1 9 then 1 <<< R 1 else 0)) from by rw [if_pos e9]) ?_ | refine z_top (show nI (S 38 ||| 0) = nI (S 38 ||| (if oW B o1 9 then 1 <<< R 1 else 0)) from by rw [e9]; rfl) ?_
          first | refine z_iastN (pc := 83) C dX12_placeLine_83 hS5 (by omega) (by decide) ?_ | refine z_iastI (pc := 83) C dX12_placeLine_83 hS5 (by omega) (by decide) ?_
          generalize eh6 : zup h5 1069 (zI 40 (nup S 38 (S 38 ||| (if oW B o1 9 then 1 <<< R 1 else 0)))) = h6
          have G6 : ∀ a, a ≠ 1069 → h6 a = h5 a := fun a q => by rw [← eh6]; exact zup_ne q
          have hO6 := hO5.on (hh := h6) (fun a q => G6 a (by omega))
          have hM6 := hO6.m
          have f6 := f5
          have hS6 : h6 1069 = some (zI 40 (nup S 38 (S 38 ||| (if oW B o1 9 then 1 <<< R 1 else 0)))) := by rw [← eh6]; exact zup_same _ _ _
          have hR6 := (G6 1067 (by decide)).trans hR5
          refine z_aload_n (pc := 84) C dX12_placeLine_84 2 rfl ?_
          refine z_getf (pc := 85) C dX12_placeLine_85 fX12_23 hM6 (by first | rfl | assumption) ?_
          refine z_iconst (pc := 88) C dX12_placeLine_88 (nI 1) (by decide) ?_
          refine z_dup2 (pc := 89) C dX12_placeLine_89 rfl rfl ?_
          refine z_ialdE (pc := 90) C dX12_placeLine_90 hR6 (by omega) (by decide) (show nup (snm R B t (R 1)) (9 + R 1) (sAv B n0 11 9 (if oW B o1 9 then oT B n0 o1 9 else oM B n0 (oT B n0 o1 9) 10)) 1 = R 1 from (nup_ne (by omega)).trans (snm_ne (by decide))) ?_
          refine z_iconst (pc := 91) C dX12_placeLine_91 (nI 1) (by decide) ?_
          first | refine z_iaddN (pc := 92) C dX12_placeLine_92 ?_ | refine z_iadd (pc := 92) C dX12_placeLine_92 ?_
          first | refine z_iastN (pc := 93) C dX12_placeLine_93 hR6 (by omega) (by decide) ?_ | refine z_iastI (pc := 93) C dX12_placeLine_93 hR6 (by omega) (by decide) ?_
          generalize eh7 : zup h6 1067 (zI 241 (nup (nup (snm R B t (R 1)) (9 + R 1) (sAv B n0 11 9 (if oW B o1 9 then oT B n0 o1 9 else oM B n0 (oT B n0 o1 9) 10))) 1 (R 1 + 1))) = h7
          have G7 : ∀ a, a ≠ 1067 → h7 a = h6 a := fun a q => by rw [← eh7]; exact zup_ne q
          have hO7 := hO6.on (hh := h7) (fun a q => G7 a (by omega))
          have hM7 := hO7.m
          have f7 := f6
          have hR7 : h7 1067 = some (zI 241 (nup (nup (snm R B t (R 1)) (9 + R 1) (sAv B n0 11 9 (if oW B o1 9 then oT B n0 o1 9 else oM B n0 (oT B n0 o1 9) 10))) 1 (R 1 + 1))) := by rw [← eh7]; exact zup_same _ _ _
          have hS7 := (G7 1069 (by decide)).trans hS6
          refine z_vret (pc := 94) C dX12_placeLine_94 rfl (Nat.zero_le _) (Nat.zero_le _) ⟨rfl, ?_, rfl⟩
          show LQ h _ v B n0 (lPlA _ S B n0 (R 1) (sNw R B n0 t)); rw [eo1]; exact LQ.of hO7 (((hV1.tr hV2).tr hV3).tr hV4) hR7 hS7 (fun _ => ⟨rfl, rfl⟩) (fun a q1 q2 q3 q4 => ((G7 a q3).trans ((G6 a q4).trans ((G5 a q3).trans ((F4 a q1 q2).trans ((F3 a q1 q2).trans ((F2 a q1 q2).trans (F1 a q1 q2 q3))))))))
        · rw [e9] at hc72; cases hc72
      · skip
        refine z_vret (pc := 62) C dX12_placeLine_62 rfl (Nat.zero_le _) (Nat.zero_le _) ⟨rfl, ?_, rfl⟩
        show LQ h _ v B n0 (lPlA _ S B n0 (R 1) (sNw R B n0 t)); rw [eo1]; exact LQ.of hO5 (((hV1.tr hV2).tr hV3).tr hV4) hR5 hS5 (fun z => by cases hc59.symm.trans z) (fun a q1 q2 q3 q4 => ((G5 a q3).trans ((F4 a q1 q2).trans ((F3 a q1 q2).trans ((F2 a q1 q2).trans (F1 a q1 q2 q3))))))
  · skip
    refine z_vret (pc := 7) C dX12_placeLine_7 rfl (Nat.zero_le _) (Nat.zero_le _) ⟨rfl, ?_, rfl⟩
    obtain ⟨e, rfl⟩ := oF_t hc4; exact LQ.of hO0 (rW.rf v) hR0 hS0 (fun z => by cases z) (fun _ _ _ _ _ => rfl)
