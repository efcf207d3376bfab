def lLn (R S B : Nat → Nat) (n : Nat) (t : Nat × Nat × Nat) : TO × (Nat → Nat) × (Nat → Nat) :=
  if sspl B t 0 then lFo R S B n t
  else if sspl B t 1 then lPl R S B n (oBg B R n t 1 (decide (R 1 < 7)))
  else if sspl B t 2 then lPa R S B n (oBg B R n t 2 (decide (R 2 < 10)))
  else if sspl B t 3 then lMa R S B n (oBg B R n t 3 (decide (R 3 < 4)))
  else if sspl B t 6 then lWa R S B n (oBg B R n t 6 (decide (R 6 < 12)))
  else if sspl B t 4 then lKi R S B n (oBg B R n t 4 (decide (R 4 < 6)))
  else if sspl B t 7 then lTa R S B n (oBg B R n t 7 (decide (R 7 < 6)))
  else if sspl B t 5 then lSt R S B n (oBg B R n t 5 (decide (R 5 < 3)))
  else (.inr (1, t.2.1), R, S)
theorem LQ.tr {h h1 hh : ZH} {v v1 : Nat → Int32} {B : Nat → Nat} {n : Nat} {l : TO × (Nat → Nat) × (Nat → Nat)} (hV : rW v v1) (hF : rF h h1) (hL : LQ h1 hh v1 B n l) : LQ h hh v B n l := by
  obtain ⟨⟨v', a, b⟩, c, d⟩ := hL
  exact ⟨⟨v', a, hV.tr b⟩, c, fun a q1 q2 q3 q4 => (d a q1 q2 q3 q4).trans (hF a q1 q2)⟩
theorem oBg_f {B R : Nat → Nat} {n : Nat} {t : Nat × Nat × Nat} {i : Nat} {c : Bool} (hs : sspl B t i = true) (h : oF (oBg B R n t i c) = false) : c = true ∧ R 8 ≠ 0 ∧ oBg B R n t i c = .inl (sNx B n t) := by
  unfold oBg at h ⊢
  rw [if_pos hs] at h ⊢
  cases c with
  | true =>
    by_cases e : R 8 = 0
    · rw [if_pos e] at h; cases h
    · rw [if_neg e]; exact ⟨rfl, e, rfl⟩
  | false =>
    by_cases e : R 8 = 0
    · rw [if_pos e] at h; cases h
    · rw [if_neg e] at h; cases h

set_option maxRecDepth 20000 in
set_option maxHeartbeats 1000000 in
theorem tX12_beginsN {h : ZH} {v : Nat → Int32} {B R : Nat → Nat} {n0 : Nat} {t : Nat × Nat × Nat} {i : Nat} {c : Bool} (hS : MS h v B n0 t) (hf : v 13 = zb false) (hi : i < 20) (hs : sspl B t i = false) : ZD mX12_begins 6 [.ref 1063, .ref i, .int (zb c)] h (some (.int (zb false))) h := by
  intro n
  have hM := hS.1
  refine z_enter (lv := [(0, _), (1, _), (2, _)]) (by decide) (Nat.le_of_ble_eq_true rfl) rfl (fun X C => ?_)
  refine z_aload_n (pc := 0) C dX12_begins_0 0 rfl ?_
  refine z_aload_n (pc := 1) C dX12_begins_1 1 rfl ?_
  refine z_cV1 (pc := 2) mX12_isWord C [_] dX12_begins_2 lX12_111 mtX12_isWord (tX12_isWord (b0 := false) hS hf hi) (by assumption) rfl rfl (by decide) (Nat.le_of_ble_eq_true rfl) (Nat.zero_le _) (Nat.zero_le _) ?_
  first | refine z_ifneB (pc := 5) C 10 dX12_begins_5 (by decide) (fun hc5 => ?_) (fun hc5 => ?_) | refine z_ifneN (pc := 5) C 10 dX12_begins_5 (by decide) (by omega) (fun hc5 => ?_) (fun hc5 => ?_) | refine z_if_ne (pc := 5) C 10 dX12_begins_5 (by decide) (fun hc5 => ?_) (fun hc5 => ?_)
  · cases hs.symm.trans (show sspl B t i = true from hc5)
  · skip
    refine z_iconst (pc := 8) C dX12_begins_8 (zb false) (by decide) ?_
    refine z_zret (pc := 9) C dX12_begins_9 rfl (by first | exact zb_nar _ | rfl) (Nat.zero_le _) (Nat.zero_le _) ⟨?_, ?_, rfl⟩
    · first | rfl | simp_all
    · rfl

set_option maxRecDepth 20000 in
set_option maxHeartbeats 1000000 in
theorem tX12_readLine {h : ZH} {v : Nat → Int32} {B R S : Nat → Nat} {n0 : Nat} {t : Nat × Nat × Nat} (hS : MS h v B n0 t) (hf : v 13 = zb false) (hR0 : h 1067 = some (zI 241 R)) (hS0 : h 1069 = some (zI 40 S)) (hI : RI R S) (hJ : R 2 < 2147483648 ∧ R 6 < 2147483648 ∧ R 7 < 2147483648) : ZQ0 mX12_readLine 10 [.ref 1063] h (fun hh => LQ h hh v B n0 (lLn R S B n0 t)) := by
  intro n
  have hM := hS.1
  have hO0 : MO h v B n0 (.inl t) := ⟨hS, hf⟩
  obtain ⟨i1, ⟨i2, i3, i4, i5, i6⟩, i7, i8, i9⟩ := id hI
  refine z_enter (lv := [(0, _)]) (by decide) (Nat.le_of_ble_eq_true rfl) rfl (fun X C => ?_)
  refine z_aload_n (pc := 0) C dX12_readLine_0 0 rfl ?_
  refine z_ldcS (pc := 1) (ix := 125) (i := 0) (tx := "forest") C dX12_readLine_1 (show (RX12, 125, "forest", 0) ∈ zSR by simp [zSR]) ?_
  refine z_cV1 (pc := 3) mX12_isWord C [_] dX12_readLine_3 lX12_111 mtX12_isWord (tX12_isWord (b0 := false) hS hf (by decide)) hM rfl rfl (by decide) (Nat.le_of_ble_eq_true rfl) (Nat.zero_le _) (Nat.zero_le _) ?_
  first | refine z_ifeqB (pc := 6) C 16 dX12_readLine_6 (by decide) (fun hc6 => ?_) (fun hc6 => ?_) | refine z_ifeqN (pc := 6) C 16 dX12_readLine_6 (by decide) (by omega) (fun hc6 => ?_) (fun hc6 => ?_) | refine z_if_eq (pc := 6) C 16 dX12_readLine_6 (by decide) (fun hc6 => ?_) (fun hc6 => ?_)
  · skip
    have e0 : sspl B t 0 = false := hc6
    refine z_aload_n (pc := 16) C dX12_readLine_16 0 rfl ?_
    refine z_ldcS (pc := 17) (ix := 127) (i := 1) (tx := "place") C dX12_readLine_17 (show (RX12, 127, "place", 1) ∈ zSR by simp [zSR]) ?_
    refine z_aload_n (pc := 19) C dX12_readLine_19 0 rfl ?_
    refine z_getf (pc := 20) C dX12_readLine_20 fX12_23 hM (by first | rfl | assumption) ?_
    refine z_iconst (pc := 23) C dX12_readLine_23 (nI 1) (by decide) ?_
    first | refine z_ialdN (pc := 24) C dX12_readLine_24 hR0 (by omega) (by decide) ?_ | refine z_ialdI (pc := 24) C dX12_readLine_24 hR0 (by omega) (by decide) ?_
    refine z_bipush (pc := 25) C dX12_readLine_25 (nI 7) (by decide) ?_
    have jn35 : Zc X mX12_readLine (zEnd X (fun r hh n' => r = none ∧ (LQ h hh v B n0 (lLn R S B n0 t)) ∧ n' = n) 0 0) 35 [(0, .ref 1063)] [.int (zb (decide (R 1 < 7))), .ref 1, .ref 1063] h n 0 0 := by
      rcases Bool.eq_false_or_eq_true (sspl B t 1) with e1 | e1
      · skip
        refine z_cV1Q (pc := 35) mX12_begins C [_, _] dX12_readLine_35 lX12_192 mtX12_begins (tX12_begins (c := (decide (R 1 < 7))) hS hf hR0 hI.2.1.2.2.2.2 (by decide)) hM rfl rfl (by decide) (Nat.le_of_ble_eq_true rfl) (Nat.zero_le _) (Nat.zero_le _) ?_
        rintro _ h1 ⟨rfl, ⟨v1, hO1, hV1⟩, F1⟩
        have hM1 := hO1.m
        have hR1 : h1 1067 = _ := (F1 1067 (by decide) (by decide)).trans hR0
        have hS1 : h1 1069 = _ := (F1 1069 (by decide) (by decide)).trans hS0
        first | refine z_ifeqB (pc := 38) C 48 dX12_readLine_38 (by decide) (fun hc38 => ?_) (fun hc38 => ?_) | refine z_ifeqN (pc := 38) C 48 dX12_readLine_38 (by decide) (by omega) (fun hc38 => ?_) (fun hc38 => ?_) | refine z_if_eq (pc := 38) C 48 dX12_readLine_38 (by decide) (fun hc38 => ?_) (fun hc38 => ?_)
        · cases e1.symm.trans (show sspl B t 1 = false from hc38)
        · skip
          refine z_aload_n (pc := 41) C dX12_readLine_41 0 rfl ?_
          refine z_cV0Q (pc := 42) mX12_placeLine C [] dX12_readLine_42 lX12_196 mtX12_placeLine (tX12_placeLine hO1 hR1 hS1 (fun _ => hI) (fun z => of_decide_eq_true (oBg_f e1 z).1)) hM1 rfl rfl (by decide) (Nat.le_of_ble_eq_true rfl) (Nat.zero_le _) (Nat.zero_le _) ?_
          rintro h2 hL
          refine z_goto (pc := 45) C 249 dX12_readLine_45 (by decide) ?_
          refine z_vret (pc := 249) C dX12_readLine_249 rfl (Nat.zero_le _) (Nat.zero_le _) ⟨rfl, ?_, rfl⟩
          first | (show LQ h _ v B n0 (lLn R S B n0 t); unfold lLn; rw [if_pos e0]; exact hL) | (show LQ h _ v B n0 (lLn R S B n0 t); unfold lLn; rw [if_neg (by rw [e0]; decide), if_pos e1]; exact LQ.tr hV1 F1 hL) | (show LQ h _ v B n0 (lLn R S B n0 t); unfold lLn; rw [if_neg (by rw [e0]; decide), if_neg (by rw [e1]; decide), if_pos e2]; exact LQ.tr hV1 F1 hL) | (show LQ h _ v B n0 (lLn R S B n0 t); unfold lLn; rw [if_neg (by rw [e0]; decide), if_neg (by rw [e1]; decide), if_neg (by rw [e2]; decide), if_pos e3]; exact LQ.tr hV1 F1 hL) | (show LQ h _ v B n0 (lLn R S B n0 t); unfold lLn; rw [if_neg (by rw [e0]; decide), if_neg (by rw [e1]; decide), if_neg (by rw [e2]; decide), if_neg (by rw [e3]; decide), if_pos e6]; exact LQ.tr hV1 F1 hL) | (show LQ h _ v B n0 (lLn R S B n0 t); unfold lLn; rw [if_neg (by rw [e0]; decide), if_neg (by rw [e1]; decide), if_neg (by rw [e2]; decide), if_neg (by rw [e3]; decide), if_neg (by rw [e6]; decide), if_pos e4]; exact LQ.tr hV1 F1 hL) | (show LQ h _ v B n0 (lLn R S B n0 t); unfold lLn; rw [if_neg (by rw [e0]; decide), if_neg (by rw [e1]; decide), if_neg (by rw [e2]; decide), if_neg (by rw [e3]; decide), if_neg (by rw [e6]; decide), if_neg (by rw [e4]; decide), if_pos e7]; exact LQ.tr hV1 F1 hL) | (show LQ h _ v B n0 (lLn R S B n0 t); unfold lLn; rw [if_neg (by rw [e0]; decide), if_neg (by rw [e1]; decide), if_neg (by rw [e2]; decide), if_neg (by rw [e3]; decide), if_neg (by rw [e6]; decide), if_neg (by rw [e4]; decide), if_neg (by rw [e7]; decide), if_pos e5]; exact LQ.tr hV1 F1 hL) | (show LQ h _ v B n0 (lLn R S B n0 t); unfold lLn; rw [if_neg (by rw [e0]; decide), if_neg (by rw [e1]; decide), if_neg (by rw [e2]; decide), if_neg (by rw [e3]; decide), if_neg (by rw [e6]; decide), if_neg (by rw [e4]; decide), if_neg (by rw [e7]; decide), if_neg (by rw [e5]; decide)]; exact LQ.of hO2 hV2 hR2 hS2 (fun z => by cases z) (fun a q1 q2 _ _ => F2 a q1 q2))
      · skip
        refine z_cV1 (pc := 35) mX12_begins C [_, _] dX12_readLine_35 lX12_192 mtX12_begins (tX12_beginsN (R := R) (c := (decide (R 1 < 7))) hS hf (by decide) e1) hM rfl rfl (by decide) (Nat.le_of_ble_eq_true rfl) (Nat.zero_le _) (Nat.zero_le _) ?_
        first | refine z_ifeqB (pc := 38) C 48 dX12_readLine_38 (by decide) (fun hc38 => ?_) (fun hc38 => ?_) | refine z_ifeqN (pc := 38) C 48 dX12_readLine_38 (by decide) (by omega) (fun hc38 => ?_) (fun hc38 => ?_) | refine z_if_eq (pc := 38) C 48 dX12_readLine_38 (by decide) (fun hc38 => ?_) (fun hc38 => ?_)
        · skip
          refine z_aload_n (pc := 48) C dX12_readLine_48 0 rfl ?_
          refine z_ldcS (pc := 49) (ix := 128) (i := 2) (tx := "path") C dX12_readLine_49 (show (RX12, 128, "path", 2) ∈ zSR by simp [zSR]) ?_
          refine z_aload_n (pc := 51) C dX12_readLine_51 0 rfl ?_
          refine z_getf (pc := 52) C dX12_readLine_52 fX12_23 hM (by first | rfl | assumption) ?_
          refine z_iconst (pc := 55) C dX12_readLine_55 (nI 2) (by decide) ?_
          first | refine z_ialdN (pc := 56) C dX12_readLine_56 hR0 (by omega) (by decide) ?_ | refine z_ialdI (pc := 56) C dX12_readLine_56 hR0 (by omega) (by decide) ?_
          refine z_bipush (pc := 57) C dX12_readLine_57 (nI 10) (by decide) ?_
          have jn67 : Zc X mX12_readLine (zEnd X (fun r hh n' => r = none ∧ (LQ h hh v B n0 (lLn R S B n0 t)) ∧ n' = n) 0 0) 67 [(0, .ref 1063)] [.int (zb (decide (R 2 < 10))), .ref 2, .ref 1063] h n 0 0 := by
            rcases Bool.eq_false_or_eq_true (sspl B t 2) with e2 | e2
            · skip
              refine z_cV1Q (pc := 67) mX12_begins C [_, _] dX12_readLine_67 lX12_192 mtX12_begins (tX12_begins (c := (decide (R 2 < 10))) hS hf hR0 hI.2.1.2.2.2.2 (by decide)) hM rfl rfl (by decide) (Nat.le_of_ble_eq_true rfl) (Nat.zero_le _) (Nat.zero_le _) ?_
              rintro _ h1 ⟨rfl, ⟨v1, hO1, hV1⟩, F1⟩
              have hM1 := hO1.m
              have hR1 : h1 1067 = _ := (F1 1067 (by decide) (by decide)).trans hR0
              have hS1 : h1 1069 = _ := (F1 1069 (by decide) (by decide)).trans hS0
              first | refine z_ifeqB (pc := 70) C 80 dX12_readLine_70 (by decide) (fun hc70 => ?_) (fun hc70 => ?_) | refine z_ifeqN (pc := 70) C 80 dX12_readLine_70 (by decide) (by omega) (fun hc70 => ?_) (fun hc70 => ?_) | refine z_if_eq (pc := 70) C 80 dX12_readLine_70 (by decide) (fun hc70 => ?_) (fun hc70 => ?_)
              · cases e2.symm.trans (show sspl B t 2 = false from hc70)
              · skip
                refine z_aload_n (pc := 73) C dX12_readLine_73 0 rfl ?_
                refine z_cV0Q (pc := 74) mX12_pathLine C [] dX12_readLine_74 lX12_199 mtX12_pathLine (tX12_pathLine hO1 hR1 hS1 (fun _ => hI)) hM1 rfl rfl (by decide) (Nat.le_of_ble_eq_true rfl) (Nat.zero_le _) (Nat.zero_le _) ?_
                rintro h2 hL
                refine z_goto (pc := 77) C 249 dX12_readLine_77 (by decide) ?_
                refine z_vret (pc := 249) C dX12_readLine_249 rfl (Nat.zero_le _) (Nat.zero_le _) ⟨rfl, ?_, rfl⟩
                first | (show LQ h _ v B n0 (lLn R S B n0 t); unfold lLn; rw [if_pos e0]; exact hL) | (show LQ h _ v B n0 (lLn R S B n0 t); unfold lLn; rw [if_neg (by rw [e0]; decide), if_pos e1]; exact LQ.tr hV1 F1 hL) | (show LQ h _ v B n0 (lLn R S B n0 t); unfold lLn; rw [if_neg (by rw [e0]; decide), if_neg (by rw [e1]; decide), if_pos e2]; exact LQ.tr hV1 F1 hL) | (show LQ h _ v B n0 (lLn R S B n0 t); unfold lLn; rw [if_neg (by rw [e0]; decide), if_neg (by rw [e1]; decide), if_neg (by rw [e2]; decide), if_pos e3]; exact LQ.tr hV1 F1 hL) | (show LQ h _ v B n0 (lLn R S B n0 t); unfold lLn; rw [if_neg (by rw [e0]; decide), if_neg (by rw [e1]; decide), if_neg (by rw [e2]; decide), if_neg (by rw [e3]; decide), if_pos e6]; exact LQ.tr hV1 F1 hL) | (show LQ h _ v B n0 (lLn R S B n0 t); unfold lLn; rw [if_neg (by rw [e0]; decide), if_neg (by rw [e1]; decide), if_neg (by rw [e2]; decide), if_neg (by rw [e3]; decide), if_neg (by rw [e6]; decide), if_pos e4]; exact LQ.tr hV1 F1 hL) | (show LQ h _ v B n0 (lLn R S B n0 t); unfold lLn; rw [if_neg (by rw [e0]; decide), if_neg (by rw [e1]; decide), if_neg (by rw [e2]; decide), if_neg (by rw [e3]; decide), if_neg (by rw [e6]; decide), if_neg (by rw [e4]; decide), if_pos e7]; exact LQ.tr hV1 F1 hL) | (show LQ h _ v B n0 (lLn R S B n0 t); unfold lLn; rw [if_neg (by rw [e0]; decide), if_neg (by rw [e1]; decide), if_neg (by rw [e2]; decide), if_neg (by rw [e3]; decide), if_neg (by rw [e6]; decide), if_neg (by rw [e4]; decide), if_neg (by rw [e7]; decide), if_pos e5]; exact LQ.tr hV1 F1 hL) | (show LQ h _ v B n0 (lLn R S B n0 t); unfold lLn; rw [if_neg (by rw [e0]; decide), if_neg (by rw [e1]; decide), if_neg (by rw [e2]; decide), if_neg (by rw [e3]; decide), if_neg (by rw [e6]; decide), if_neg (by rw [e4]; decide), if_neg (by rw [e7]; decide), if_neg (by rw [e5]; decide)]; exact LQ.of hO2 hV2 hR2 hS2 (fun z => by cases z) (fun a q1 q2 _ _ => F2 a q1 q2))
            · skip
              refine z_cV1 (pc := 67) mX12_begins C [_, _] dX12_readLine_67 lX12_192 mtX12_begins (tX12_beginsN (R := R) (c := (decide (R 2 < 10))) hS hf (by decide) e2) hM rfl rfl (by decide) (Nat.le_of_ble_eq_true rfl) (Nat.zero_le _) (Nat.zero_le _) ?_
              first | refine z_ifeqB (pc := 70) C 80 dX12_readLine_70 (by decide) (fun hc70 => ?_) (fun hc70 => ?_) | refine z_ifeqN (pc := 70) C 80 dX12_readLine_70 (by decide) (by omega) (fun hc70 => ?_) (fun hc70 => ?_) | refine z_if_eq (pc := 70) C 80 dX12_readLine_70 (by decide) (fun hc70 => ?_) (fun hc70 => ?_)
              · skip
                refine z_aload_n (pc := 80) C dX12_readLine_80 0 rfl ?_
                refine z_ldcS (pc := 81) (ix := 130) (i := 3) (tx := "man") C dX12_readLine_81 (show (RX12, 130, "man", 3) ∈ zSR by simp [zSR]) ?_
                refine z_aload_n (pc := 83) C dX12_readLine_83 0 rfl ?_
                refine z_getf (pc := 84) C dX12_readLine_84 fX12_23 hM (by first | rfl | assumption) ?_
                refine z_iconst (pc := 87) C dX12_readLine_87 (nI 3) (by decide) ?_
                first | refine z_ialdN (pc := 88) C dX12_readLine_88 hR0 (by omega) (by decide) ?_ | refine z_ialdI (pc := 88) C dX12_readLine_88 hR0 (by omega) (by decide) ?_
                refine z_iconst (pc := 89) C dX12_readLine_89 (nI 4) (by decide) ?_
                have jn98 : Zc X mX12_readLine (zEnd X (fun r hh n' => r = none ∧ (LQ h hh v B n0 (lLn R S B n0 t)) ∧ n' = n) 0 0) 98 [(0, .ref 1063)] [.int (zb (decide (R 3 < 4))), .ref 3, .ref 1063] h n 0 0 := by
                  rcases Bool.eq_false_or_eq_true (sspl B t 3) with e3 | e3
                  · skip
                    refine z_cV1Q (pc := 98) mX12_begins C [_, _] dX12_readLine_98 lX12_192 mtX12_begins (tX12_begins (c := (decide (R 3 < 4))) hS hf hR0 hI.2.1.2.2.2.2 (by decide)) hM rfl rfl (by decide) (Nat.le_of_ble_eq_true rfl) (Nat.zero_le _) (Nat.zero_le _) ?_
                    rintro _ h1 ⟨rfl, ⟨v1, hO1, hV1⟩, F1⟩
                    have hM1 := hO1.m
                    have hR1 : h1 1067 = _ := (F1 1067 (by decide) (by decide)).trans hR0
                    have hS1 : h1 1069 = _ := (F1 1069 (by decide) (by decide)).trans hS0
                    first | refine z_ifeqB (pc := 101) C 111 dX12_readLine_101 (by decide) (fun hc101 => ?_) (fun hc101 => ?_) | refine z_ifeqN (pc := 101) C 111 dX12_readLine_101 (by decide) (by omega) (fun hc101 => ?_) (fun hc101 => ?_) | refine z_if_eq (pc := 101) C 111 dX12_readLine_101 (by decide) (fun hc101 => ?_) (fun hc101 => ?_)
                    · cases e3.symm.trans (show sspl B t 3 = false from hc101)
                    · skip
                      refine z_aload_n (pc := 104) C dX12_readLine_104 0 rfl ?_
                      refine z_cV0Q (pc := 105) mX12_manLine C [] dX12_readLine_105 lX12_202 mtX12_manLine (tX12_manLine hO1 hR1 hS1 (fun _ => hI) (fun z => of_decide_eq_true (oBg_f e3 z).1)) hM1 rfl rfl (by decide) (Nat.le_of_ble_eq_true rfl) (Nat.zero_le _) (Nat.zero_le _) ?_
                      rintro h2 hL
                      refine z_goto (pc := 108) C 249 dX12_readLine_108 (by decide) ?_
                      refine z_vret (pc := 249) C dX12_readLine_249 rfl (Nat.zero_le _) (Nat.zero_le _) ⟨rfl, ?_, rfl⟩
                      first | (show LQ h _ v B n0 (lLn R S B n0 t); unfold lLn; rw [if_pos e0]; exact hL) | (show LQ h _ v B n0 (lLn R S B n0 t); unfold lLn; rw [if_neg (by rw [e0]; decide), if_pos e1]; exact LQ.tr hV1 F1 hL) | (show LQ h _ v B n0 (lLn R S B n0 t); unfold lLn; rw [if_neg (by rw [e0]; decide), if_neg (by rw [e1]; decide), if_pos e2]; exact LQ.tr hV1 F1 hL) | (show LQ h _ v B n0 (lLn R S B n0 t); unfold lLn; rw [if_neg (by rw [e0]; decide), if_neg (by rw [e1]; decide), if_neg (by rw [e2]; decide), if_pos e3]; exact LQ.tr hV1 F1 hL) | (show LQ h _ v B n0 (lLn R S B n0 t); unfold lLn; rw [if_neg (by rw [e0]; decide), if_neg (by rw [e1]; decide), if_neg (by rw [e2]; decide), if_neg (by rw [e3]; decide), if_pos e6]; exact LQ.tr hV1 F1 hL) | (show LQ h _ v B n0 (lLn R S B n0 t); unfold lLn; rw [if_neg (by rw [e0]; decide), if_neg (by rw [e1]; decide), if_neg (by rw [e2]; decide), if_neg (by rw [e3]; decide), if_neg (by rw [e6]; decide), if_pos e4]; exact LQ.tr hV1 F1 hL) | (show LQ h _ v B n0 (lLn R S B n0 t); unfold lLn; rw [if_neg (by rw [e0]; decide), if_neg (by rw [e1]; decide), if_neg (by rw [e2]; decide), if_neg (by rw [e3]; decide), if_neg (by rw [e6]; decide), if_neg (by rw [e4]; decide), if_pos e7]; exact LQ.tr hV1 F1 hL) | (show LQ h _ v B n0 (lLn R S B n0 t); unfold lLn; rw [if_neg (by rw [e0]; decide), if_neg (by rw [e1]; decide), if_neg (by rw [e2]; decide), if_neg (by rw [e3]; decide), if_neg (by rw [e6]; decide), if_neg (by rw [e4]; decide), if_neg (by rw [e7]; decide), if_pos e5]; exact LQ.tr hV1 F1 hL) | (show LQ h _ v B n0 (lLn R S B n0 t); unfold lLn; rw [if_neg (by rw [e0]; decide), if_neg (by rw [e1]; decide), if_neg (by rw [e2]; decide), if_neg (by rw [e3]; decide), if_neg (by rw [e6]; decide), if_neg (by rw [e4]; decide), if_neg (by rw [e7]; decide), if_neg (by rw [e5]; decide)]; exact LQ.of hO2 hV2 hR2 hS2 (fun z => by cases z) (fun a q1 q2 _ _ => F2 a q1 q2))
                  · skip
                    refine z_cV1 (pc := 98) mX12_begins C [_, _] dX12_readLine_98 lX12_192 mtX12_begins (tX12_beginsN (R := R) (c := (decide (R 3 < 4))) hS hf (by decide) e3) hM rfl rfl (by decide) (Nat.le_of_ble_eq_true rfl) (Nat.zero_le _) (Nat.zero_le _) ?_
                    first | refine z_ifeqB (pc := 101) C 111 dX12_readLine_101 (by decide) (fun hc101 => ?_) (fun hc101 => ?_) | refine z_ifeqN (pc := 101) C 111 dX12_readLine_101 (by decide) (by omega) (fun hc101 => ?_) (fun hc101 => ?_) | refine z_if_eq (pc := 101) C 111 dX12_readLine_101 (by decide) (fun hc101 => ?_) (fun hc101 => ?_)
                    · skip
                      refine z_aload_n (pc := 111) C dX12_readLine_111 0 rfl ?_
                      refine z_ldcS (pc := 112) (ix := 132) (i := 6) (tx := "walk") C dX12_readLine_112 (show (RX12, 132, "walk", 6) ∈ zSR by simp [zSR]) ?_
                      refine z_aload_n (pc := 114) C dX12_readLine_114 0 rfl ?_
                      refine z_getf (pc := 115) C dX12_readLine_115 fX12_23 hM (by first | rfl | assumption) ?_
                      refine z_bipush (pc := 118) C dX12_readLine_118 (nI 6) (by decide) ?_
                      first | refine z_ialdN (pc := 120) C dX12_readLine_120 hR0 (by omega) (by decide) ?_ | refine z_ialdI (pc := 120) C dX12_readLine_120 hR0 (by omega) (by decide) ?_
                      refine z_bipush (pc := 121) C dX12_readLine_121 (nI 12) (by decide) ?_
                      have jn131 : Zc X mX12_readLine (zEnd X (fun r hh n' => r = none ∧ (LQ h hh v B n0 (lLn R S B n0 t)) ∧ n' = n) 0 0) 131 [(0, .ref 1063)] [.int (zb (decide (R 6 < 12))), .ref 6, .ref 1063] h n 0 0 := by
                        rcases Bool.eq_false_or_eq_true (sspl B t 6) with e6 | e6
                        · skip
                          refine z_cV1Q (pc := 131) mX12_begins C [_, _] dX12_readLine_131 lX12_192 mtX12_begins (tX12_begins (c := (decide (R 6 < 12))) hS hf hR0 hI.2.1.2.2.2.2 (by decide)) hM rfl rfl (by decide) (Nat.le_of_ble_eq_true rfl) (Nat.zero_le _) (Nat.zero_le _) ?_
                          rintro _ h1 ⟨rfl, ⟨v1, hO1, hV1⟩, F1⟩
                          have hM1 := hO1.m
                          have hR1 : h1 1067 = _ := (F1 1067 (by decide) (by decide)).trans hR0
                          have hS1 : h1 1069 = _ := (F1 1069 (by decide) (by decide)).trans hS0
                          first | refine z_ifeqB (pc := 134) C 144 dX12_readLine_134 (by decide) (fun hc134 => ?_) (fun hc134 => ?_) | refine z_ifeqN (pc := 134) C 144 dX12_readLine_134 (by decide) (by omega) (fun hc134 => ?_) (fun hc134 => ?_) | refine z_if_eq (pc := 134) C 144 dX12_readLine_134 (by decide) (fun hc134 => ?_) (fun hc134 => ?_)
                          · cases e6.symm.trans (show sspl B t 6 = false from hc134)
                          · skip
                            refine z_aload_n (pc := 137) C dX12_readLine_137 0 rfl ?_
                            refine z_cV0Q (pc := 138) mX12_walkLine C [] dX12_readLine_138 lX12_205 mtX12_walkLine (tX12_walkLine hO1 hR1 hS1 (fun _ => hI)) hM1 rfl rfl (by decide) (Nat.le_of_ble_eq_true rfl) (Nat.zero_le _) (Nat.zero_le _) ?_
                            rintro h2 hL
                            refine z_goto (pc := 141) C 249 dX12_readLine_141 (by decide) ?_
                            refine z_vret (pc := 249) C dX12_readLine_249 rfl (Nat.zero_le _) (Nat.zero_le _) ⟨rfl, ?_, rfl⟩
                            first | (show LQ h _ v B n0 (lLn R S B n0 t); unfold lLn; rw [if_pos e0]; exact hL) | (show LQ h _ v B n0 (lLn R S B n0 t); unfold lLn; rw [if_neg (by rw [e0]; decide), if_pos e1]; exact LQ.tr hV1 F1 hL) | (show LQ h _ v B n0 (lLn R S B n0 t); unfold lLn; rw [if_neg (by rw [e0]; decide), if_neg (by rw [e1]; decide), if_pos e2]; exact LQ.tr hV1 F1 hL) | (show LQ h _ v B n0 (lLn R S B n0 t); unfold lLn; rw [if_neg (by rw [e0]; decide), if_neg (by rw [e1]; decide), if_neg (by rw [e2]; decide), if_pos e3]; exact LQ.tr hV1 F1 hL) | (show LQ h _ v B n0 (lLn R S B n0 t); unfold lLn; rw [if_neg (by rw [e0]; decide), if_neg (by rw [e1]; decide), if_neg (by rw [e2]; decide), if_neg (by rw [e3]; decide), if_pos e6]; exact LQ.tr hV1 F1 hL) | (show LQ h _ v B n0 (lLn R S B n0 t); unfold lLn; rw [if_neg (by rw [e0]; decide), if_neg (by rw [e1]; decide), if_neg (by rw [e2]; decide), if_neg (by rw [e3]; decide), if_neg (by rw [e6]; decide), if_pos e4]; exact LQ.tr hV1 F1 hL) | (show LQ h _ v B n0 (lLn R S B n0 t); unfold lLn; rw [if_neg (by rw [e0]; decide), if_neg (by rw [e1]; decide), if_neg (by rw [e2]; decide), if_neg (by rw [e3]; decide), if_neg (by rw [e6]; decide), if_neg (by rw [e4]; decide), if_pos e7]; exact LQ.tr hV1 F1 hL) | (show LQ h _ v B n0 (lLn R S B n0 t); unfold lLn; rw [if_neg (by rw [e0]; decide), if_neg (by rw [e1]; decide), if_neg (by rw [e2]; decide), if_neg (by rw [e3]; decide), if_neg (by rw [e6]; decide), if_neg (by rw [e4]; decide), if_neg (by rw [e7]; decide), if_pos e5]; exact LQ.tr hV1 F1 hL) | (show LQ h _ v B n0 (lLn R S B n0 t); unfold lLn; rw [if_neg (by rw [e0]; decide), if_neg (by rw [e1]; decide), if_neg (by rw [e2]; decide), if_neg (by rw [e3]; decide), if_neg (by rw [e6]; decide), if_neg (by rw [e4]; decide), if_neg (by rw [e7]; decide), if_neg (by rw [e5]; decide)]; exact LQ.of hO2 hV2 hR2 hS2 (fun z => by cases z) (fun a q1 q2 _ _ => F2 a q1 q2))
                        · skip
                          refine z_cV1 (pc := 131) mX12_begins C [_, _] dX12_readLine_131 lX12_192 mtX12_begins (tX12_beginsN (R := R) (c := (decide (R 6 < 12))) hS hf (by decide) e6) hM rfl rfl (by decide) (Nat.le_of_ble_eq_true rfl) (Nat.zero_le _) (Nat.zero_le _) ?_
                          first | refine z_ifeqB (pc := 134) C 144 dX12_readLine_134 (by decide) (fun hc134 => ?_) (fun hc134 => ?_) | refine z_ifeqN (pc := 134) C 144 dX12_readLine_134 (by decide) (by omega) (fun hc134 => ?_) (fun hc134 => ?_) | refine z_if_eq (pc := 134) C 144 dX12_readLine_134 (by decide) (fun hc134 => ?_) (fun hc134 => ?_)
                          · skip
                            refine z_aload_n (pc := 144) C dX12_readLine_144 0 rfl ?_
                            refine z_ldcS (pc := 145) (ix := 134) (i := 4) (tx := "kill") C dX12_readLine_145 (show (RX12, 134, "kill", 4) ∈ zSR by simp [zSR]) ?_
                            refine z_aload_n (pc := 147) C dX12_readLine_147 0 rfl ?_
                            refine z_getf (pc := 148) C dX12_readLine_148 fX12_23 hM (by first | rfl | assumption) ?_
                            refine z_iconst (pc := 151) C dX12_readLine_151 (nI 4) (by decide) ?_
                            first | refine z_ialdN (pc := 152) C dX12_readLine_152 hR0 (by omega) (by decide) ?_ | refine z_ialdI (pc := 152) C dX12_readLine_152 hR0 (by omega) (by decide) ?_
                            refine z_bipush (pc := 153) C dX12_readLine_153 (nI 6) (by decide) ?_
                            have jn163 : Zc X mX12_readLine (zEnd X (fun r hh n' => r = none ∧ (LQ h hh v B n0 (lLn R S B n0 t)) ∧ n' = n) 0 0) 163 [(0, .ref 1063)] [.int (zb (decide (R 4 < 6))), .ref 4, .ref 1063] h n 0 0 := by
                              rcases Bool.eq_false_or_eq_true (sspl B t 4) with e4 | e4
                              · skip
                                refine z_cV1Q (pc := 163) mX12_begins C [_, _] dX12_readLine_163 lX12_192 mtX12_begins (tX12_begins (c := (decide (R 4 < 6))) hS hf hR0 hI.2.1.2.2.2.2 (by decide)) hM rfl rfl (by decide) (Nat.le_of_ble_eq_true rfl) (Nat.zero_le _) (Nat.zero_le _) ?_
                                rintro _ h1 ⟨rfl, ⟨v1, hO1, hV1⟩, F1⟩
                                have hM1 := hO1.m
                                have hR1 : h1 1067 = _ := (F1 1067 (by decide) (by decide)).trans hR0
                                have hS1 : h1 1069 = _ := (F1 1069 (by decide) (by decide)).trans hS0
                                first | refine z_ifeqB (pc := 166) C 176 dX12_readLine_166 (by decide) (fun hc166 => ?_) (fun hc166 => ?_) | refine z_ifeqN (pc := 166) C 176 dX12_readLine_166 (by decide) (by omega) (fun hc166 => ?_) (fun hc166 => ?_) | refine z_if_eq (pc := 166) C 176 dX12_readLine_166 (by decide) (fun hc166 => ?_) (fun hc166 => ?_)
                                · cases e4.symm.trans (show sspl B t 4 = false from hc166)
                                · skip
                                  refine z_aload_n (pc := 169) C dX12_readLine_169 0 rfl ?_
                                  refine z_cV0Q (pc := 170) mX12_killLine C [] dX12_readLine_170 lX12_208 mtX12_killLine (tX12_killLine hO1 hR1 hS1 (fun _ => hI) (fun z => of_decide_eq_true (oBg_f e4 z).1)) hM1 rfl rfl (by decide) (Nat.le_of_ble_eq_true rfl) (Nat.zero_le _) (Nat.zero_le _) ?_
                                  rintro h2 hL
                                  refine z_goto (pc := 173) C 249 dX12_readLine_173 (by decide) ?_
                                  refine z_vret (pc := 249) C dX12_readLine_249 rfl (Nat.zero_le _) (Nat.zero_le _) ⟨rfl, ?_, rfl⟩
                                  first | (show LQ h _ v B n0 (lLn R S B n0 t); unfold lLn; rw [if_pos e0]; exact hL) | (show LQ h _ v B n0 (lLn R S B n0 t); unfold lLn; rw [if_neg (by rw [e0]; decide), if_pos e1]; exact LQ.tr hV1 F1 hL) | (show LQ h _ v B n0 (lLn R S B n0 t); unfold lLn; rw [if_neg (by rw [e0]; decide), if_neg (by rw [e1]; decide), if_pos e2]; exact LQ.tr hV1 F1 hL) | (show LQ h _ v B n0 (lLn R S B n0 t); unfold lLn; rw [if_neg (by rw [e0]; decide), if_neg (by rw [e1]; decide), if_neg (by rw [e2]; decide), if_pos e3]; exact LQ.tr hV1 F1 hL) | (show LQ h _ v B n0 (lLn R S B n0 t); unfold lLn; rw [if_neg (by rw [e0]; decide), if_neg (by rw [e1]; decide), if_neg (by rw [e2]; decide), if_neg (by rw [e3]; decide), if_pos e6]; exact LQ.tr hV1 F1 hL) | (show LQ h _ v B n0 (lLn R S B n0 t); unfold lLn; rw [if_neg (by rw [e0]; decide), if_neg (by rw [e1]; decide), if_neg (by rw [e2]; decide), if_neg (by rw [e3]; decide), if_neg (by rw [e6]; decide), if_pos e4]; exact LQ.tr hV1 F1 hL) | (show LQ h _ v B n0 (lLn R S B n0 t); unfold lLn; rw [if_neg (by rw [e0]; decide), if_neg (by rw [e1]; decide), if_neg (by rw [e2]; decide), if_neg (by rw [e3]; decide), if_neg (by rw [e6]; decide), if_neg (by rw [e4]; decide), if_pos e7]; exact LQ.tr hV1 F1 hL) | (show LQ h _ v B n0 (lLn R S B n0 t); unfold lLn; rw [if_neg (by rw [e0]; decide), if_neg (by rw [e1]; decide), if_neg (by rw [e2]; decide), if_neg (by rw [e3]; decide), if_neg (by rw [e6]; decide), if_neg (by rw [e4]; decide), if_neg (by rw [e7]; decide), if_pos e5]; exact LQ.tr hV1 F1 hL) | (show LQ h _ v B n0 (lLn R S B n0 t); unfold lLn; rw [if_neg (by rw [e0]; decide), if_neg (by rw [e1]; decide), if_neg (by rw [e2]; decide), if_neg (by rw [e3]; decide), if_neg (by rw [e6]; decide), if_neg (by rw [e4]; decide), if_neg (by rw [e7]; decide), if_neg (by rw [e5]; decide)]; exact LQ.of hO2 hV2 hR2 hS2 (fun z => by cases z) (fun a q1 q2 _ _ => F2 a q1 q2))
                              · skip
                                refine z_cV1 (pc := 163) mX12_begins C [_, _] dX12_readLine_163 lX12_192 mtX12_begins (tX12_beginsN (R := R) (c := (decide (R 4 < 6))) hS hf (by decide) e4) hM rfl rfl (by decide) (Nat.le_of_ble_eq_true rfl) (Nat.zero_le _) (Nat.zero_le _) ?_
                                first | refine z_ifeqB (pc := 166) C 176 dX12_readLine_166 (by decide) (fun hc166 => ?_) (fun hc166 => ?_) | refine z_ifeqN (pc := 166) C 176 dX12_readLine_166 (by decide) (by omega) (fun hc166 => ?_) (fun hc166 => ?_) | refine z_if_eq (pc := 166) C 176 dX12_readLine_166 (by decide) (fun hc166 => ?_) (fun hc166 => ?_)
                                · skip
                                  refine z_aload_n (pc := 176) C dX12_readLine_176 0 rfl ?_
                                  refine z_ldcS (pc := 177) (ix := 136) (i := 7) (tx := "taken") C dX12_readLine_177 (show (RX12, 136, "taken", 7) ∈ zSR by simp [zSR]) ?_
                                  refine z_aload_n (pc := 179) C dX12_readLine_179 0 rfl ?_
                                  refine z_getf (pc := 180) C dX12_readLine_180 fX12_23 hM (by first | rfl | assumption) ?_
                                  refine z_bipush (pc := 183) C dX12_readLine_183 (nI 7) (by decide) ?_
                                  first | refine z_ialdN (pc := 185) C dX12_readLine_185 hR0 (by omega) (by decide) ?_ | refine z_ialdI (pc := 185) C dX12_readLine_185 hR0 (by omega) (by decide) ?_
                                  refine z_bipush (pc := 186) C dX12_readLine_186 (nI 6) (by decide) ?_
                                  have jn196 : Zc X mX12_readLine (zEnd X (fun r hh n' => r = none ∧ (LQ h hh v B n0 (lLn R S B n0 t)) ∧ n' = n) 0 0) 196 [(0, .ref 1063)] [.int (zb (decide (R 7 < 6))), .ref 7, .ref 1063] h n 0 0 := by
                                    rcases Bool.eq_false_or_eq_true (sspl B t 7) with e7 | e7
                                    · skip
                                      refine z_cV1Q (pc := 196) mX12_begins C [_, _] dX12_readLine_196 lX12_192 mtX12_begins (tX12_begins (c := (decide (R 7 < 6))) hS hf hR0 hI.2.1.2.2.2.2 (by decide)) hM rfl rfl (by decide) (Nat.le_of_ble_eq_true rfl) (Nat.zero_le _) (Nat.zero_le _) ?_
                                      rintro _ h1 ⟨rfl, ⟨v1, hO1, hV1⟩, F1⟩
                                      have hM1 := hO1.m
                                      have hR1 : h1 1067 = _ := (F1 1067 (by decide) (by decide)).trans hR0
                                      have hS1 : h1 1069 = _ := (F1 1069 (by decide) (by decide)).trans hS0
                                      first | refine z_ifeqB (pc := 199) C 209 dX12_readLine_199 (by decide) (fun hc199 => ?_) (fun hc199 => ?_) | refine z_ifeqN (pc := 199) C 209 dX12_readLine_199 (by decide) (by omega) (fun hc199 => ?_) (fun hc199 => ?_) | refine z_if_eq (pc := 199) C 209 dX12_readLine_199 (by decide) (fun hc199 => ?_) (fun hc199 => ?_)
                                      · cases e7.symm.trans (show sspl B t 7 = false from hc199)
                                      · skip
                                        refine z_aload_n (pc := 202) C dX12_readLine_202 0 rfl ?_
                                        refine z_cV0Q (pc := 203) mX12_takenLine C [] dX12_readLine_203 lX12_211 mtX12_takenLine (tX12_takenLine hO1 hR1 hS1 (fun _ => hI)) hM1 rfl rfl (by decide) (Nat.le_of_ble_eq_true rfl) (Nat.zero_le _) (Nat.zero_le _) ?_
                                        rintro h2 hL
                                        refine z_goto (pc := 206) C 249 dX12_readLine_206 (by decide) ?_
                                        refine z_vret (pc := 249) C dX12_readLine_249 rfl (Nat.zero_le _) (Nat.zero_le _) ⟨rfl, ?_, rfl⟩
                                        first | (show LQ h _ v B n0 (lLn R S B n0 t); unfold lLn; rw [if_pos e0]; exact hL) | (show LQ h _ v B n0 (lLn R S B n0 t); unfold lLn; rw [if_neg (by rw [e0]; decide), if_pos e1]; exact LQ.tr hV1 F1 hL) | (show LQ h _ v B n0 (lLn R S B n0 t); unfold lLn; rw [if_neg (by rw [e0]; decide), if_neg (by rw [e1]; decide), if_pos e2]; exact LQ.tr hV1 F1 hL) | (show LQ h _ v B n0 (lLn R S B n0 t); unfold lLn; rw [if_neg (by rw [e0]; decide), if_neg (by rw [e1]; decide), if_neg (by rw [e2]; decide), if_pos e3]; exact LQ.tr hV1 F1 hL) | (show LQ h _ v B n0 (lLn R S B n0 t); unfold lLn; rw [if_neg (by rw [e0]; decide), if_neg (by rw [e1]; decide), if_neg (by rw [e2]; decide), if_neg (by rw [e3]; decide), if_pos e6]; exact LQ.tr hV1 F1 hL) | (show LQ h _ v B n0 (lLn R S B n0 t); unfold lLn; rw [if_neg (by rw [e0]; decide), if_neg (by rw [e1]; decide), if_neg (by rw [e2]; decide), if_neg (by rw [e3]; decide), if_neg (by rw [e6]; decide), if_pos e4]; exact LQ.tr hV1 F1 hL) | (show LQ h _ v B n0 (lLn R S B n0 t); unfold lLn; rw [if_neg (by rw [e0]; decide), if_neg (by rw [e1]; decide), if_neg (by rw [e2]; decide), if_neg (by rw [e3]; decide), if_neg (by rw [e6]; decide), if_neg (by rw [e4]; decide), if_pos e7]; exact LQ.tr hV1 F1 hL) | (show LQ h _ v B n0 (lLn R S B n0 t); unfold lLn; rw [if_neg (by rw [e0]; decide), if_neg (by rw [e1]; decide), if_neg (by rw [e2]; decide), if_neg (by rw [e3]; decide), if_neg (by rw [e6]; decide), if_neg (by rw [e4]; decide), if_neg (by rw [e7]; decide), if_pos e5]; exact LQ.tr hV1 F1 hL) | (show LQ h _ v B n0 (lLn R S B n0 t); unfold lLn; rw [if_neg (by rw [e0]; decide), if_neg (by rw [e1]; decide), if_neg (by rw [e2]; decide), if_neg (by rw [e3]; decide), if_neg (by rw [e6]; decide), if_neg (by rw [e4]; decide), if_neg (by rw [e7]; decide), if_neg (by rw [e5]; decide)]; exact LQ.of hO2 hV2 hR2 hS2 (fun z => by cases z) (fun a q1 q2 _ _ => F2 a q1 q2))
                                    · skip
                                      refine z_cV1 (pc := 196) mX12_begins C [_, _] dX12_readLine_196 lX12_192 mtX12_begins (tX12_beginsN (R := R) (c := (decide (R 7 < 6))) hS hf (by decide) e7) hM rfl rfl (by decide) (Nat.le_of_ble_eq_true rfl) (Nat.zero_le _) (Nat.zero_le _) ?_
                                      first | refine z_ifeqB (pc := 199) C 209 dX12_readLine_199 (by decide) (fun hc199 => ?_) (fun hc199 => ?_) | refine z_ifeqN (pc := 199) C 209 dX12_readLine_199 (by decide) (by omega) (fun hc199 => ?_) (fun hc199 => ?_) | refine z_if_eq (pc := 199) C 209 dX12_readLine_199 (by decide) (fun hc199 => ?_) (fun hc199 => ?_)
                                      · skip
                                        refine z_aload_n (pc := 209) C dX12_readLine_209 0 rfl ?_
                                        refine z_ldcS (pc := 210) (ix := 138) (i := 5) (tx := "stray") C dX12_readLine_210 (show (RX12, 138, "stray", 5) ∈ zSR by simp [zSR]) ?_
                                        refine z_aload_n (pc := 212) C dX12_readLine_212 0 rfl ?_
                                        refine z_getf (pc := 213) C dX12_readLine_213 fX12_23 hM (by first | rfl | assumption) ?_
                                        refine z_iconst (pc := 216) C dX12_readLine_216 (nI 5) (by decide) ?_
                                        first | refine z_ialdN (pc := 217) C dX12_readLine_217 hR0 (by omega) (by decide) ?_ | refine z_ialdI (pc := 217) C dX12_readLine_217 hR0 (by omega) (by decide) ?_
                                        refine z_iconst (pc := 218) C dX12_readLine_218 (nI 3) (by decide) ?_
                                        have jn227 : Zc X mX12_readLine (zEnd X (fun r hh n' => r = none ∧ (LQ h hh v B n0 (lLn R S B n0 t)) ∧ n' = n) 0 0) 227 [(0, .ref 1063)] [.int (zb (decide (R 5 < 3))), .ref 5, .ref 1063] h n 0 0 := by
                                          rcases Bool.eq_false_or_eq_true (sspl B t 5) with e5 | e5
                                          · skip
                                            refine z_cV1Q (pc := 227) mX12_begins C [_, _] dX12_readLine_227 lX12_192 mtX12_begins (tX12_begins (c := (decide (R 5 < 3))) hS hf hR0 hI.2.1.2.2.2.2 (by decide)) hM rfl rfl (by decide) (Nat.le_of_ble_eq_true rfl) (Nat.zero_le _) (Nat.zero_le _) ?_
                                            rintro _ h1 ⟨rfl, ⟨v1, hO1, hV1⟩, F1⟩
                                            have hM1 := hO1.m
                                            have hR1 : h1 1067 = _ := (F1 1067 (by decide) (by decide)).trans hR0
                                            have hS1 : h1 1069 = _ := (F1 1069 (by decide) (by decide)).trans hS0
                                            first | refine z_ifeqB (pc := 230) C 240 dX12_readLine_230 (by decide) (fun hc230 => ?_) (fun hc230 => ?_) | refine z_ifeqN (pc := 230) C 240 dX12_readLine_230 (by decide) (by omega) (fun hc230 => ?_) (fun hc230 => ?_) | refine z_if_eq (pc := 230) C 240 dX12_readLine_230 (by decide) (fun hc230 => ?_) (fun hc230 => ?_)
                                            · cases e5.symm.trans (show sspl B t 5 = false from hc230)
                                            · skip
                                              refine z_aload_n (pc := 233) C dX12_readLine_233 0 rfl ?_
                                              refine z_cV0Q (pc := 234) mX12_strayLine C [] dX12_readLine_234 lX12_214 mtX12_strayLine (tX12_strayLine hO1 hR1 hS1 (fun _ => hI) (fun z => of_decide_eq_true (oBg_f e5 z).1)) hM1 rfl rfl (by decide) (Nat.le_of_ble_eq_true rfl) (Nat.zero_le _) (Nat.zero_le _) ?_
                                              rintro h2 hL
                                              refine z_goto (pc := 237) C 249 dX12_readLine_237 (by decide) ?_
                                              refine z_vret (pc := 249) C dX12_readLine_249 rfl (Nat.zero_le _) (Nat.zero_le _) ⟨rfl, ?_, rfl⟩
                                              first | (show LQ h _ v B n0 (lLn R S B n0 t); unfold lLn; rw [if_pos e0]; exact hL) | (show LQ h _ v B n0 (lLn R S B n0 t); unfold lLn; rw [if_neg (by rw [e0]; decide), if_pos e1]; exact LQ.tr hV1 F1 hL) | (show LQ h _ v B n0 (lLn R S B n0 t); unfold lLn; rw [if_neg (by rw [e0]; decide), if_neg (by rw [e1]; decide), if_pos e2]; exact LQ.tr hV1 F1 hL) | (show LQ h _ v B n0 (lLn R S B n0 t); unfold lLn; rw [if_neg (by rw [e0]; decide), if_neg (by rw [e1]; decide), if_neg (by rw [e2]; decide), if_pos e3]; exact LQ.tr hV1 F1 hL) | (show LQ h _ v B n0 (lLn R S B n0 t); unfold lLn; rw [if_neg (by rw [e0]; decide), if_neg (by rw [e1]; decide), if_neg (by rw [e2]; decide), if_neg (by rw [e3]; decide), if_pos e6]; exact LQ.tr hV1 F1 hL) | (show LQ h _ v B n0 (lLn R S B n0 t); unfold lLn; rw [if_neg (by rw [e0]; decide), if_neg (by rw [e1]; decide), if_neg (by rw [e2]; decide), if_neg (by rw [e3]; decide), if_neg (by rw [e6]; decide), if_pos e4]; exact LQ.tr hV1 F1 hL) | (show LQ h _ v B n0 (lLn R S B n0 t); unfold lLn; rw [if_neg (by rw [e0]; decide), if_neg (by rw [e1]; decide), if_neg (by rw [e2]; decide), if_neg (by rw [e3]; decide), if_neg (by rw [e6]; decide), if_neg (by rw [e4]; decide), if_pos e7]; exact LQ.tr hV1 F1 hL) | (show LQ h _ v B n0 (lLn R S B n0 t); unfold lLn; rw [if_neg (by rw [e0]; decide), if_neg (by rw [e1]; decide), if_neg (by rw [e2]; decide), if_neg (by rw [e3]; decide), if_neg (by rw [e6]; decide), if_neg (by rw [e4]; decide), if_neg (by rw [e7]; decide), if_pos e5]; exact LQ.tr hV1 F1 hL) | (show LQ h _ v B n0 (lLn R S B n0 t); unfold lLn; rw [if_neg (by rw [e0]; decide), if_neg (by rw [e1]; decide), if_neg (by rw [e2]; decide), if_neg (by rw [e3]; decide), if_neg (by rw [e6]; decide), if_neg (by rw [e4]; decide), if_neg (by rw [e7]; decide), if_neg (by rw [e5]; decide)]; exact LQ.of hO2 hV2 hR2 hS2 (fun z => by cases z) (fun a q1 q2 _ _ => F2 a q1 q2))
                                          · skip
                                            refine z_cV1 (pc := 227) mX12_begins C [_, _] dX12_readLine_227 lX12_192 mtX12_begins (tX12_beginsN (R := R) (c := (decide (R 5 < 3))) hS hf (by decide) e5) hM rfl rfl (by decide) (Nat.le_of_ble_eq_true rfl) (Nat.zero_le _) (Nat.zero_le _) ?_
                                            first | refine z_ifeqB (pc := 230) C 240 dX12_readLine_230 (by decide) (fun hc230 => ?_) (fun hc230 => ?_) | refine z_ifeqN (pc := 230) C 240 dX12_readLine_230 (by decide) (by omega) (fun hc230 => ?_) (fun hc230 => ?_) | refine z_if_eq (pc := 230) C 240 dX12_readLine_230 (by decide) (fun hc230 => ?_) (fun hc230 => ?_)
                                            · skip
                                              refine z_aload_n (pc := 240) C dX12_readLine_240 0 rfl ?_
                                              refine z_iconst (pc := 241) C dX12_readLine_241 (nI 1) (by decide) ?_
                                              refine z_aload_n (pc := 242) C dX12_readLine_242 0 rfl ?_
                                              refine z_getf (pc := 243) C dX12_readLine_243 fX12_75 hM (by first | rfl | assumption) ?_
                                              refine z_top (hO0.at (t := t) t rfl) ?_
                                              refine z_cV0Q (pc := 246) mX12_wrong C [_, _] dX12_readLine_246 lX12_121 mtX12_wrong (tX12_wrongO (f := 1) hO0 (fun t9 ht9 => by cases ht9; rfl)) hM rfl rfl (by decide) (Nat.le_of_ble_eq_true rfl) (Nat.zero_le _) (Nat.zero_le _) ?_
                                              rintro h2 ⟨⟨v2, hO2, hV2⟩, F2⟩
                                              have hM2 := hO2.m
                                              have f2 := hO2.f
                                              have hR2 : h2 1067 = _ := (F2 1067 (by decide) (by decide)).trans hR0
                                              have hS2 : h2 1069 = _ := (F2 1069 (by decide) (by decide)).trans hS0
                                              refine z_vret (pc := 249) C dX12_readLine_249 rfl (Nat.zero_le _) (Nat.zero_le _) ⟨rfl, ?_, rfl⟩
                                              first | (show LQ h _ v B n0 (lLn R S B n0 t); unfold lLn; rw [if_pos e0]; exact hL) | (show LQ h _ v B n0 (lLn R S B n0 t); unfold lLn; rw [if_neg (by rw [e0]; decide), if_pos e1]; exact LQ.tr hV1 F1 hL) | (show LQ h _ v B n0 (lLn R S B n0 t); unfold lLn; rw [if_neg (by rw [e0]; decide), if_neg (by rw [e1]; decide), if_pos e2]; exact LQ.tr hV1 F1 hL) | (show LQ h _ v B n0 (lLn R S B n0 t); unfold lLn; rw [if_neg (by rw [e0]; decide), if_neg (by rw [e1]; decide), if_neg (by rw [e2]; decide), if_pos e3]; exact LQ.tr hV1 F1 hL) | (show LQ h _ v B n0 (lLn R S B n0 t); unfold lLn; rw [if_neg (by rw [e0]; decide), if_neg (by rw [e1]; decide), if_neg (by rw [e2]; decide), if_neg (by rw [e3]; decide), if_pos e6]; exact LQ.tr hV1 F1 hL) | (show LQ h _ v B n0 (lLn R S B n0 t); unfold lLn; rw [if_neg (by rw [e0]; decide), if_neg (by rw [e1]; decide), if_neg (by rw [e2]; decide), if_neg (by rw [e3]; decide), if_neg (by rw [e6]; decide), if_pos e4]; exact LQ.tr hV1 F1 hL) | (show LQ h _ v B n0 (lLn R S B n0 t); unfold lLn; rw [if_neg (by rw [e0]; decide), if_neg (by rw [e1]; decide), if_neg (by rw [e2]; decide), if_neg (by rw [e3]; decide), if_neg (by rw [e6]; decide), if_neg (by rw [e4]; decide), if_pos e7]; exact LQ.tr hV1 F1 hL) | (show LQ h _ v B n0 (lLn R S B n0 t); unfold lLn; rw [if_neg (by rw [e0]; decide), if_neg (by rw [e1]; decide), if_neg (by rw [e2]; decide), if_neg (by rw [e3]; decide), if_neg (by rw [e6]; decide), if_neg (by rw [e4]; decide), if_neg (by rw [e7]; decide), if_pos e5]; exact LQ.tr hV1 F1 hL) | (show LQ h _ v B n0 (lLn R S B n0 t); unfold lLn; rw [if_neg (by rw [e0]; decide), if_neg (by rw [e1]; decide), if_neg (by rw [e2]; decide), if_neg (by rw [e3]; decide), if_neg (by rw [e6]; decide), if_neg (by rw [e4]; decide), if_neg (by rw [e7]; decide), if_neg (by rw [e5]; decide)]; exact LQ.of hO2 hV2 hR2 hS2 (fun z => by cases z) (fun a q1 q2 _ _ => F2 a q1 q2))
                                            · cases hc230
                                        first | refine z_icmpgeN (pc := 219) C 226 dX12_readLine_219 (by decide) (by omega) (by omega) (fun hc219 => ?_) (fun hc219 => ?_) | refine z_icmp_ge (pc := 219) C 226 dX12_readLine_219 (by decide) (fun hc219 => ?_) (fun hc219 => ?_)
                                        · skip
                                          refine z_iconst (pc := 226) C dX12_readLine_226 (zb false) (by decide) ?_
                                          refine z_top (show zb false = zb (decide (R 5 < 3)) from by rw [decide_eq_false (by omega)]) ?_
                                          exact jn227
                                        · skip
                                          refine z_iconst (pc := 222) C dX12_readLine_222 (zb true) (by decide) ?_
                                          refine z_top (show zb true = zb (decide (R 5 < 3)) from by rw [decide_eq_true (by omega)]) ?_
                                          refine z_goto (pc := 223) C 227 dX12_readLine_223 (by decide) ?_
                                          exact jn227
                                      · cases hc199
                                  first | refine z_icmpgeN (pc := 188) C 195 dX12_readLine_188 (by decide) (by omega) (by omega) (fun hc188 => ?_) (fun hc188 => ?_) | refine z_icmp_ge (pc := 188) C 195 dX12_readLine_188 (by decide) (fun hc188 => ?_) (fun hc188 => ?_)
                                  · skip
                                    refine z_iconst (pc := 195) C dX12_readLine_195 (zb false) (by decide) ?_
                                    refine z_top (show zb false = zb (decide (R 7 < 6)) from by rw [decide_eq_false (by omega)]) ?_
                                    exact jn196
                                  · skip
                                    refine z_iconst (pc := 191) C dX12_readLine_191 (zb true) (by decide) ?_
                                    refine z_top (show zb true = zb (decide (R 7 < 6)) from by rw [decide_eq_true (by omega)]) ?_
                                    refine z_goto (pc := 192) C 196 dX12_readLine_192 (by decide) ?_
                                    exact jn196
                                · cases hc166
                            first | refine z_icmpgeN (pc := 155) C 162 dX12_readLine_155 (by decide) (by omega) (by omega) (fun hc155 => ?_) (fun hc155 => ?_) | refine z_icmp_ge (pc := 155) C 162 dX12_readLine_155 (by decide) (fun hc155 => ?_) (fun hc155 => ?_)
                            · skip
                              refine z_iconst (pc := 162) C dX12_readLine_162 (zb false) (by decide) ?_
                              refine z_top (show zb false = zb (decide (R 4 < 6)) from by rw [decide_eq_false (by omega)]) ?_
                              exact jn163
                            · skip
                              refine z_iconst (pc := 158) C dX12_readLine_158 (zb true) (by decide) ?_
                              refine z_top (show zb true = zb (decide (R 4 < 6)) from by rw [decide_eq_true (by omega)]) ?_
                              refine z_goto (pc := 159) C 163 dX12_readLine_159 (by decide) ?_
                              exact jn163
                          · cases hc134
                      first | refine z_icmpgeN (pc := 123) C 130 dX12_readLine_123 (by decide) (by omega) (by omega) (fun hc123 => ?_) (fun hc123 => ?_) | refine z_icmp_ge (pc := 123) C 130 dX12_readLine_123 (by decide) (fun hc123 => ?_) (fun hc123 => ?_)
                      · skip
                        refine z_iconst (pc := 130) C dX12_readLine_130 (zb false) (by decide) ?_
                        refine z_top (show zb false = zb (decide (R 6 < 12)) from by rw [decide_eq_false (by omega)]) ?_
                        exact jn131
                      · skip
                        refine z_iconst (pc := 126) C dX12_readLine_126 (zb true) (by decide) ?_
                        refine z_top (show zb true = zb (decide (R 6 < 12)) from by rw [decide_eq_true (by omega)]) ?_
                        refine z_goto (pc := 127) C 131 dX12_readLine_127 (by decide) ?_
                        exact jn131
                    · cases hc101
                first | refine z_icmpgeN (pc := 90) C 97 dX12_readLine_90 (by decide) (by omega) (by omega) (fun hc90 => ?_) (fun hc90 => ?_) | refine z_icmp_ge (pc := 90) C 97 dX12_readLine_90 (by decide) (fun hc90 => ?_) (fun hc90 => ?_)
                · skip
                  refine z_iconst (pc := 97) C dX12_readLine_97 (zb false) (by decide) ?_
                  refine z_top (show zb false = zb (decide (R 3 < 4)) from by rw [decide_eq_false (by omega)]) ?_
                  exact jn98
                · skip
                  refine z_iconst (pc := 93) C dX12_readLine_93 (zb true) (by decide) ?_
                  refine z_top (show zb true = zb (decide (R 3 < 4)) from by rw [decide_eq_true (by omega)]) ?_
                  refine z_goto (pc := 94) C 98 dX12_readLine_94 (by decide) ?_
                  exact jn98
              · cases hc70
          first | refine z_icmpgeN (pc := 59) C 66 dX12_readLine_59 (by decide) (by omega) (by omega) (fun hc59 => ?_) (fun hc59 => ?_) | refine z_icmp_ge (pc := 59) C 66 dX12_readLine_59 (by decide) (fun hc59 => ?_) (fun hc59 => ?_)
          · skip
            refine z_iconst (pc := 66) C dX12_readLine_66 (zb false) (by decide) ?_
            refine z_top (show zb false = zb (decide (R 2 < 10)) from by rw [decide_eq_false (by omega)]) ?_
            exact jn67
          · skip
            refine z_iconst (pc := 62) C dX12_readLine_62 (zb true) (by decide) ?_
            refine z_top (show zb true = zb (decide (R 2 < 10)) from by rw [decide_eq_true (by omega)]) ?_
            refine z_goto (pc := 63) C 67 dX12_readLine_63 (by decide) ?_
            exact jn67
        · cases hc38
    first | refine z_icmpgeN (pc := 27) C 34 dX12_readLine_27 (by decide) (by omega) (by omega) (fun hc27 => ?_) (fun hc27 => ?_) | refine z_icmp_ge (pc := 27) C 34 dX12_readLine_27 (by decide) (fun hc27 => ?_) (fun hc27 => ?_)
    · skip
      refine z_iconst (pc := 34) C dX12_readLine_34 (zb false) (by decide) ?_
      refine z_top (show zb false = zb (decide (R 1 < 7)) from by rw [decide_eq_false (by omega)]) ?_
      exact jn35
    · skip
      refine z_iconst (pc := 30) C dX12_readLine_30 (zb true) (by decide) ?_
      refine z_top (show zb true = zb (decide (R 1 < 7)) from by rw [decide_eq_true (by omega)]) ?_
      refine z_goto (pc := 31) C 35 dX12_readLine_31 (by decide) ?_
      exact jn35
  · skip
    have e0 : sspl B t 0 = true := hc6
    refine z_aload_n (pc := 9) C dX12_readLine_9 0 rfl ?_
    refine z_cV0Q (pc := 10) mX12_forestLine C [] dX12_readLine_10 lX12_189 mtX12_forestLine (tX12_forestLine hS hf hR0 hS0 (by rw [(of_decide_eq_true (show sspl B t 0 = true from hc6)).1]; decide) hI.2.1.2.2.2.2) hM rfl rfl (by decide) (Nat.le_of_ble_eq_true rfl) (Nat.zero_le _) (Nat.zero_le _) ?_
    rintro h1 hL
    refine z_goto (pc := 13) C 249 dX12_readLine_13 (by decide) ?_
    refine z_vret (pc := 249) C dX12_readLine_249 rfl (Nat.zero_le _) (Nat.zero_le _) ⟨rfl, ?_, rfl⟩
    first | (show LQ h _ v B n0 (lLn R S B n0 t); unfold lLn; rw [if_pos e0]; exact hL) | (show LQ h _ v B n0 (lLn R S B n0 t); unfold lLn; rw [if_neg (by rw [e0]; decide), if_pos e1]; exact LQ.tr hV1 F1 hL) | (show LQ h _ v B n0 (lLn R S B n0 t); unfold lLn; rw [if_neg (by rw [e0]; decide), if_neg (by rw [e1]; decide), if_pos e2]; exact LQ.tr hV1 F1 hL) | (show LQ h _ v B n0 (lLn R S B n0 t); unfold lLn; rw [if_neg (by rw [e0]; decide), if_neg (by rw [e1]; decide), if_neg (by rw [e2]; decide), if_pos e3]; exact LQ.tr hV1 F1 hL) | (show LQ h _ v B n0 (lLn R S B n0 t); unfold lLn; rw [if_neg (by rw [e0]; decide), if_neg (by rw [e1]; decide), if_neg (by rw [e2]; decide), if_neg (by rw [e3]; decide), if_pos e6]; exact LQ.tr hV1 F1 hL) | (show LQ h _ v B n0 (lLn R S B n0 t); unfold lLn; rw [if_neg (by rw [e0]; decide), if_neg (by rw [e1]; decide), if_neg (by rw [e2]; decide), if_neg (by rw [e3]; decide), if_neg (by rw [e6]; decide), if_pos e4]; exact LQ.tr hV1 F1 hL) | (show LQ h _ v B n0 (lLn R S B n0 t); unfold lLn; rw [if_neg (by rw [e0]; decide), if_neg (by rw [e1]; decide), if_neg (by rw [e2]; decide), if_neg (by rw [e3]; decide), if_neg (by rw [e6]; decide), if_neg (by rw [e4]; decide), if_pos e7]; exact LQ.tr hV1 F1 hL) | (show LQ h _ v B n0 (lLn R S B n0 t); unfold lLn; rw [if_neg (by rw [e0]; decide), if_neg (by rw [e1]; decide), if_neg (by rw [e2]; decide), if_neg (by rw [e3]; decide), if_neg (by rw [e6]; decide), if_neg (by rw [e4]; decide), if_neg (by rw [e7]; decide), if_pos e5]; exact LQ.tr hV1 F1 hL) | (show LQ h _ v B n0 (lLn R S B n0 t); unfold lLn; rw [if_neg (by rw [e0]; decide), if_neg (by rw [e1]; decide), if_neg (by rw [e2]; decide), if_neg (by rw [e3]; decide), if_neg (by rw [e6]; decide), if_neg (by rw [e4]; decide), if_neg (by rw [e7]; decide), if_neg (by rw [e5]; decide)]; exact LQ.of hO2 hV2 hR2 hS2 (fun z => by cases z) (fun a q1 q2 _ _ => F2 a q1 q2))
