def zmi (o : Option Nat) (lo hi : Nat) : Bool := match o with
  | some x => decide (lo ≤ x ∧ x ≤ hi)
  | none => false
theorem zm_in {o : Option Nat} {lo hi : Nat} (ho : ∀ x, o = some x → x < 20) (h1 : lo < 20) (h2 : hi < 20) : decide (nI lo ≤ zm o ∧ zm o ≤ nI hi) = zmi o lo hi := by
  cases o with
  | none =>
    refine decide_eq_false (fun z => ?_)
    have := z.1
    rw [Int32.le_iff_toInt_le, nI_toInt (by omega), show (zm none).toInt = -1 from by decide] at this
    omega
  | some x =>
    have := ho x rfl
    show decide (nI lo ≤ nI x ∧ nI x ≤ nI hi) = decide (lo ≤ x ∧ x ≤ hi)
    congr 1
    rw [nI_leI (by omega) (by omega), nI_leI (by omega) (by omega)]
theorem sNmd_w {R B : Nat → Nat} {lo hi : Nat} {t t' : Nat × Nat × Nat} (h : sNmd R B lo hi t = .inl t') : t' = t ∧ t.1 = 1 ∧ ∃ x, sfnd R B t = some x ∧ lo ≤ x ∧ x ≤ hi := by
  unfold sNmd at h
  split at h
  · rename_i ei
    split at h
    · rename_i x hx
      split at h
      · rename_i q
        cases h
        unfold sIn at ei
        simp at ei
        exact ⟨rfl, ei.1, x, hx, q⟩
      · cases h
    · cases h
  · cases h
theorem sNv_le {R B : Nat → Nat} {lo hi : Nat} (o : TO) : sNv R B lo hi o ≤ hi - lo := by
  unfold sNv
  cases o with
  | inr e => exact Nat.zero_le _
  | inl t =>
    show (match sNmd R B lo hi t with | .inl t => (sfnd R B t).getD 0 - lo | .inr _ => 0) ≤ _
    cases h : sNmd R B lo hi t with
    | inr e => exact Nat.zero_le _
    | inl t' =>
      obtain ⟨rfl, -, x, hx, h1, h2⟩ := sNmd_w h
      show (sfnd R B t').getD 0 - lo ≤ hi - lo
      rw [hx]; show x - lo ≤ hi - lo; omega
theorem oB_inl (t : Nat × Nat × Nat) (f : Nat × Nat × Nat → TO) : oB (.inl t) f = f t := rfl
theorem oB_f {o : TO} {f : Nat × Nat × Nat → TO} (h : oF (oB o f) = false) : oF o = false := by
  cases o with
  | inl t => rfl
  | inr e => cases h

set_option maxRecDepth 20000 in
set_option maxHeartbeats 1000000 in
theorem tX12_namedN {h : ZH} {v : Nat → Int32} {x y : Int32} (hM : h 1063 = some (zO 8 (mfs v))) (hf : v 13 = zb true) : ZD mX12_named 6 [.ref 1063, .int x, .int y] h (some (.int (nI 0))) h := by
  intro n
  refine z_enter (lv := [(0, _), (1, _), (2, _)]) (by decide) (Nat.le_of_ble_eq_true rfl) rfl (fun X C => ?_)
  refine z_aload_n (pc := 0) C dX12_named_0 0 rfl ?_
  refine z_getf (pc := 1) C dX12_named_1 fX12_94 (by assumption) (by first | rfl | assumption) ?_
  rw [hf]
  first | refine z_ifeqB (pc := 4) C 9 dX12_named_4 (by decide) (fun hc4 => ?_) (fun hc4 => ?_) | refine z_ifeqN (pc := 4) C 9 dX12_named_4 (by decide) (by omega) (fun hc4 => ?_) (fun hc4 => ?_) | refine z_if_eq (pc := 4) C 9 dX12_named_4 (by decide) (fun hc4 => ?_) (fun hc4 => ?_)
  · cases hc4
  · skip
    refine z_iconst (pc := 7) C dX12_named_7 (nI 0) (by decide) ?_
    refine z_iret (pc := 8) C dX12_named_8 rfl (Nat.zero_le _) (Nat.zero_le _) ⟨?_, ?_, rfl⟩
    · first | rfl | simp_all
    · rfl

set_option maxRecDepth 20000 in
set_option maxHeartbeats 1000000 in
theorem tX12_namedY {h : ZH} {v : Nat → Int32} {B R : Nat → Nat} {n0 : Nat} {t : Nat × Nat × Nat} {lo hi : Nat} (hS : MS h v B n0 t) (hf : v 13 = zb false) (hR7 : h 1067 = some (zI 241 R)) (hRb : ∀ j, j < 241 → R j < 2147483648) (hl : lo ≤ hi ∧ hi < 20) : ZQ1 mX12_named 6 [.ref 1063, .int (nI lo), .int (nI hi)] h (fun w hh => w = .int (nI (sNv R B lo hi (.inl t))) ∧ (∃ v', MO hh v' B n0 (sNmd R B lo hi t) ∧ rW v v') ∧ rF h hh) := by
  intro n
  have hM := hS.1
  refine z_enter (lv := [(0, _), (1, _), (2, _)]) (by decide) (Nat.le_of_ble_eq_true rfl) rfl (fun X C => ?_)
  refine z_aload_n (pc := 0) C dX12_named_0 0 rfl ?_
  refine z_getf (pc := 1) C dX12_named_1 fX12_94 (by assumption) (by first | rfl | assumption) ?_
  rw [hf]
  first | refine z_ifeqB (pc := 4) C 9 dX12_named_4 (by decide) (fun hc4 => ?_) (fun hc4 => ?_) | refine z_ifeqN (pc := 4) C 9 dX12_named_4 (by decide) (by omega) (fun hc4 => ?_) (fun hc4 => ?_) | refine z_if_eq (pc := 4) C 9 dX12_named_4 (by decide) (fun hc4 => ?_) (fun hc4 => ?_)
  · skip
    refine z_aload_n (pc := 9) C dX12_named_9 0 rfl ?_
    refine z_cV0Q (pc := 10) mX12_mustName C [] dX12_named_10 lX12_140 mtX12_mustName (tX12_mustName hS hf) hM rfl rfl (by decide) (Nat.le_of_ble_eq_true rfl) (Nat.zero_le _) (Nat.zero_le _) ?_
    rintro h1 ⟨⟨v1, hO1, hV1⟩, F1⟩
    have hM1 := hO1.m
    have f1 := hO1.f
    have hR1 : h1 1067 = _ := (F1 1067 (by decide) (by decide)).trans hR7
    have f2 := f1
    have hM2 := hM1
    refine z_aload_n (pc := 13) C dX12_named_13 0 rfl ?_
    refine z_getf (pc := 14) C dX12_named_14 fX12_94 hM1 (by first | rfl | assumption) ?_
    rw [f1]
    first | refine z_ifeqB (pc := 17) C 22 dX12_named_17 (by decide) (fun hc17 => ?_) (fun hc17 => ?_) | refine z_ifeqN (pc := 17) C 22 dX12_named_17 (by decide) (by omega) (fun hc17 => ?_) (fun hc17 => ?_) | refine z_if_eq (pc := 17) C 22 dX12_named_17 (by decide) (fun hc17 => ?_) (fun hc17 => ?_)
    · skip
      have ei : sIn B t = true := by
        cases z : sIn B t with
        | true => rfl
        | false => unfold sMn0 at hc17; rw [z] at hc17; cases hc17
      have eo : sMn0 B t = .inl t := by unfold sMn0; rw [if_pos ei]
      rw [eo] at hO1 f1 f2
      obtain ⟨hS1, hf1⟩ := id hO1
      obtain ⟨-, -, -, hk, L, h5, m1, m2, m3, m4, m5⟩ := id hS1
      have hw : t.1 = 1 := by unfold sIn at ei; simp at ei; exact ei.1
      refine z_aload_n (pc := 22) C dX12_named_22 0 rfl ?_
      refine z_cV1 (pc := 23) mX12_find C [] dX12_named_23 lX12_143 mtX12_find (tX12_find hS1 hR1 hw hRb) hM1 rfl rfl (by decide) (Nat.le_of_ble_eq_true rfl) (Nat.zero_le _) (Nat.zero_le _) ?_
      refine z_istore_n (pc := 26) (lv' := [(3, _), (0, _), (1, _), (2, _)]) C dX12_named_26 (by decide) rfl ?_
      refine z_iload_n (pc := 27) C dX12_named_27 0 rfl ?_
      refine z_iload_n (pc := 28) C dX12_named_28 2 rfl ?_
      refine z_iload_n (pc := 29) C dX12_named_29 3 rfl ?_
      refine z_cS1 (pc := 30) mX12_in C [_, _, _] dX12_named_30 lX12_146 mtX12_in tX12_in rfl rfl (by decide) (Nat.le_of_ble_eq_true rfl) (Nat.zero_le _) (Nat.zero_le _) ?_
      rw [zm_in (fun x hx => sfnd_lt hx) (by omega) (by omega)]
      first | refine z_ifneB (pc := 33) C 45 dX12_named_33 (by decide) (fun hc33 => ?_) (fun hc33 => ?_) | refine z_ifneN (pc := 33) C 45 dX12_named_33 (by decide) (by omega) (fun hc33 => ?_) (fun hc33 => ?_) | refine z_if_ne (pc := 33) C 45 dX12_named_33 (by decide) (fun hc33 => ?_) (fun hc33 => ?_)
      · skip
        obtain ⟨x, en, ex⟩ : ∃ x, sfnd R B t = some x ∧ lo ≤ x ∧ x ≤ hi := by
          cases z : sfnd R B t with
          | none => rw [z] at hc33; cases hc33
          | some x => rw [z] at hc33; exact ⟨x, rfl, of_decide_eq_true hc33⟩
        have es : sNmd R B lo hi t = .inl t := by unfold sNmd; rw [if_pos ei, en]; exact if_pos ex
        refine z_aload_n (pc := 45) C dX12_named_45 1 rfl ?_
        refine z_getf (pc := 46) C dX12_named_46 fX12_94 hM2 (by first | rfl | assumption) ?_
        rw [f2]
        first | refine z_ifeqB (pc := 49) C 56 dX12_named_49 (by decide) (fun hc49 => ?_) (fun hc49 => ?_) | refine z_ifeqN (pc := 49) C 56 dX12_named_49 (by decide) (by omega) (fun hc49 => ?_) (fun hc49 => ?_) | refine z_if_eq (pc := 49) C 56 dX12_named_49 (by decide) (fun hc49 => ?_) (fun hc49 => ?_)
        · skip
          refine z_iload_n (pc := 56) C dX12_named_56 0 rfl ?_
          refine z_iload_n (pc := 57) C dX12_named_57 2 rfl ?_
          refine z_isub (pc := 58) C dX12_named_58 ?_
          refine z_top (show zm (sfnd R B t) - nI lo = nI (x - lo) from by rw [en]; exact pk_sub (by omega)) ?_
          refine z_iret (pc := 59) C dX12_named_59 rfl (Nat.zero_le _) (Nat.zero_le _) ⟨_, rfl, ?_, rfl⟩
          unfold sNv; rw [oB_inl, es]; first | exact ⟨rfl, ⟨v2, hO2, hV1.tr hV2⟩, F1.tr F2⟩ | exact ⟨by show _ = Value.int (nI ((sfnd R B t).getD 0 - lo)); rw [en]; rfl, ⟨v1, hO1, hV1⟩, F1⟩
        · cases hc49
      · skip
        have es : sNmd R B lo hi t = .inr (2, t.2.1) := by
          unfold sNmd; rw [if_pos ei]
          cases z : sfnd R B t with
          | none => rfl
          | some x => rw [z] at hc33; exact if_neg (of_decide_eq_false hc33)
        refine z_aload_n (pc := 36) C dX12_named_36 1 rfl ?_
        refine z_iconst (pc := 37) C dX12_named_37 (nI 2) (by decide) ?_
        refine z_aload_n (pc := 38) C dX12_named_38 1 rfl ?_
        refine z_getf (pc := 39) C dX12_named_39 fX12_75 hM1 (by first | rfl | assumption) ?_
        refine z_top m2 ?_
        refine z_cV0Q (pc := 42) mX12_wrong C [_, _] dX12_named_42 lX12_121 mtX12_wrong (tX12_wrongO (f := 2) hO1 (fun t9 ht9 => by cases ht9; rfl)) hM1 rfl rfl (by decide) (Nat.le_of_ble_eq_true rfl) (Nat.zero_le _) (Nat.zero_le _) ?_
        rintro h2 ⟨⟨v2, hO2, hV2⟩, F2⟩
        have f2 := hO2.f
        have hM2 := hO2.m
        refine z_aload_n (pc := 45) C dX12_named_45 1 rfl ?_
        refine z_getf (pc := 46) C dX12_named_46 fX12_94 hM2 (by first | rfl | assumption) ?_
        rw [f2]
        first | refine z_ifeqB (pc := 49) C 56 dX12_named_49 (by decide) (fun hc49 => ?_) (fun hc49 => ?_) | refine z_ifeqN (pc := 49) C 56 dX12_named_49 (by decide) (by omega) (fun hc49 => ?_) (fun hc49 => ?_) | refine z_if_eq (pc := 49) C 56 dX12_named_49 (by decide) (fun hc49 => ?_) (fun hc49 => ?_)
        · cases hc49
        · skip
          refine z_iconst (pc := 52) C dX12_named_52 (nI 0) (by decide) ?_
          refine z_goto (pc := 53) C 59 dX12_named_53 (by decide) ?_
          refine z_iret (pc := 59) C dX12_named_59 rfl (Nat.zero_le _) (Nat.zero_le _) ⟨_, rfl, ?_, rfl⟩
          unfold sNv; rw [oB_inl, es]; first | exact ⟨rfl, ⟨v2, hO2, hV1.tr hV2⟩, F1.tr F2⟩ | exact ⟨by show _ = Value.int (nI ((sfnd R B t).getD 0 - lo)); rw [en]; rfl, ⟨v1, hO1, hV1⟩, F1⟩
    · skip
      obtain ⟨e, he⟩ := oF_t hc17
      have ei : ¬ sIn B t = true := fun z => by unfold sMn0 at he; rw [if_pos z] at he; cases he
      have es : sNmd R B lo hi t = .inr (1, t.2.1) := by unfold sNmd; rw [if_neg ei]
      have eo : sMn0 B t = .inr (1, t.2.1) := by unfold sMn0; rw [if_neg ei]
      refine z_iconst (pc := 20) C dX12_named_20 (nI 0) (by decide) ?_
      refine z_iret (pc := 21) C dX12_named_21 rfl (Nat.zero_le _) (Nat.zero_le _) ⟨_, rfl, ?_, rfl⟩
      unfold sNv; rw [oB_inl, es]; rw [eo] at hO1; exact ⟨rfl, ⟨v1, hO1, hV1⟩, F1⟩
  · cases hc4

section ZMP
variable {h : ZH} {v : Nat → Int32} {B R : Nat → Nat} {n0 : Nat} {o : TO}
theorem tX12_namedO {lo hi : Nat} (hO : MO h v B n0 o) (hR7 : h 1067 = some (zI 241 R)) (hRb : oF o = false → ∀ j, j < 241 → R j < 2147483648) (hl : lo ≤ hi ∧ hi < 20) : ZQ1 mX12_named 6 [.ref 1063, .int (nI lo), .int (nI hi)] h (fun w hh => w = .int (nI (sNv R B lo hi o)) ∧ (∃ v', MO hh v' B n0 (oB o (sNmd R B lo hi)) ∧ rW v v') ∧ rF h hh) := by
  cases o with
  | inl t => exact tX12_namedY hO.1 hO.2 hR7 (hRb rfl) hl
  | inr e => exact (tX12_namedN hO.m hO.2.1).q1 ⟨rfl, ⟨v, hO, rW.rf v⟩, rF.rf h⟩
theorem tX12_newNameO {x : Nat} (hO : MO h v B n0 o) (hR7 : h 1067 = some (zI 241 R)) (hRb : oF o = false → ∀ j, j < 241 → R j < 2147483648) (hx : x < 20) : ZQ0 mX12_newName 6 [.ref 1063, .int (nI x)] h (fun hh => (∃ v', MO hh v' B n0 (oB o (sNw R B n0)) ∧ rW v v') ∧ (∃ R2, hh 1067 = some (zI 241 R2) ∧ ∀ t, o = .inl t → oF (sNw R B n0 t) = false → R2 = snm R B t x) ∧ ∀ a, a ≠ 1063 → a ≠ 1065 → a ≠ 1067 → hh a = h a) := by
  cases o with
  | inl t =>
    refine (tX12_newNameY hO.1 hO.2 hR7 (hRb rfl) hx).mono ?_
    rintro hh ⟨h1, ⟨R2, h2, h3⟩, h4⟩
    exact ⟨h1, ⟨R2, h2, fun t9 ht9 => by cases ht9; exact h3⟩, h4⟩
  | inr e => exact (tX12_newNameN hO.m hO.2.1).q0 ⟨⟨v, hO, rW.rf v⟩, ⟨R, hR7, fun t9 ht9 => by cases ht9⟩, fun _ _ _ _ => rfl⟩
end ZMP

set_option maxRecDepth 20000 in
set_option maxHeartbeats 1000000 in
theorem tX12_placeHere {h : ZH} {v : Nat → Int32} {B R : Nat → Nat} {n0 : Nat} {o : TO} (hO : MO h v B n0 o) (hR7 : h 1067 = some (zI 241 R)) (hRb : oF o = false → ∀ j, j < 241 → R j < 2147483648) : ZQ1 mX12_placeHere 7 [.ref 1063] h (fun w hh => w = .int (nI (sNv R B 0 6 o)) ∧ (∃ v', MO hh v' B n0 (oB o (sNmd R B 0 6)) ∧ rW v v') ∧ rF h hh) := by
  intro n
  have hM := hO.m
  refine z_enter (lv := [(0, _)]) (by decide) (Nat.le_of_ble_eq_true rfl) rfl (fun X C => ?_)
  refine z_aload_n (pc := 0) C dX12_placeHere_0 0 rfl ?_
  refine z_iconst (pc := 1) C dX12_placeHere_1 (nI 0) (by decide) ?_
  refine z_bipush (pc := 2) C dX12_placeHere_2 (nI 6) (by decide) ?_
  refine z_cV1Q (pc := 4) mX12_named C [_, _] dX12_placeHere_4 lX12_150 mtX12_named (tX12_namedO hO hR7 hRb (by decide)) (by assumption) rfl rfl (by decide) (Nat.le_of_ble_eq_true rfl) (Nat.zero_le _) (Nat.zero_le _) ?_
  rintro _ h1 ⟨rfl, hQ⟩
  refine z_iret (pc := 7) C dX12_placeHere_7 rfl (Nat.zero_le _) (Nat.zero_le _) ⟨_, rfl, ?_, rfl⟩
  exact ⟨rfl, hQ⟩

set_option maxRecDepth 20000 in
set_option maxHeartbeats 1000000 in
theorem tX12_manHere {h : ZH} {v : Nat → Int32} {B R : Nat → Nat} {n0 : Nat} {o : TO} (hO : MO h v B n0 o) (hR7 : h 1067 = some (zI 241 R)) (hRb : oF o = false → ∀ j, j < 241 → R j < 2147483648) : ZQ1 mX12_manHere 7 [.ref 1063] h (fun w hh => w = .int (nI (sNv R B 7 10 o)) ∧ (∃ v', MO hh v' B n0 (oB o (sNmd R B 7 10)) ∧ rW v v') ∧ rF h hh) := by
  intro n
  have hM := hO.m
  refine z_enter (lv := [(0, _)]) (by decide) (Nat.le_of_ble_eq_true rfl) rfl (fun X C => ?_)
  refine z_aload_n (pc := 0) C dX12_manHere_0 0 rfl ?_
  refine z_bipush (pc := 1) C dX12_manHere_1 (nI 7) (by decide) ?_
  refine z_bipush (pc := 3) C dX12_manHere_3 (nI 10) (by decide) ?_
  refine z_cV1Q (pc := 5) mX12_named C [_, _] dX12_manHere_5 lX12_150 mtX12_named (tX12_namedO hO hR7 hRb (by decide)) (by assumption) rfl rfl (by decide) (Nat.le_of_ble_eq_true rfl) (Nat.zero_le _) (Nat.zero_le _) ?_
  rintro _ h1 ⟨rfl, hQ⟩
  refine z_iret (pc := 8) C dX12_manHere_8 rfl (Nat.zero_le _) (Nat.zero_le _) ⟨_, rfl, ?_, rfl⟩
  exact ⟨rfl, hQ⟩

set_option maxRecDepth 20000 in
set_option maxHeartbeats 1000000 in
theorem tX12_placePassed {h : ZH} {v : Nat → Int32} {B R : Nat → Nat} {n0 : Nat} {o : TO} (hO : MO h v B n0 o) (hR7 : h 1067 = some (zI 241 R)) (hRb : oF o = false → ∀ j, j < 241 → R j < 2147483648) : ZQ1 mX12_placePassed 8 [.ref 1063] h (fun w hh => w = .int (nI (sNv R B 0 6 o)) ∧ (∃ v', MO hh v' B n0 (oP B n0 (oB o (sNmd R B 0 6))) ∧ rW v v') ∧ rF h hh) := by
  intro n
  have hM := hO.m
  refine z_enter (lv := [(0, _)]) (by decide) (Nat.le_of_ble_eq_true rfl) rfl (fun X C => ?_)
  refine z_aload_n (pc := 0) C dX12_placePassed_0 0 rfl ?_
  refine z_cV1Q (pc := 1) mX12_placeHere C [] dX12_placePassed_1 lX12_154 mtX12_placeHere (tX12_placeHere hO hR7 hRb) hM rfl rfl (by decide) (Nat.le_of_ble_eq_true rfl) (Nat.zero_le _) (Nat.zero_le _) ?_
  rintro _ h1 ⟨rfl, ⟨v1, hO1, hV1⟩, F1⟩
  have hM1 := hO1.m
  refine z_istore_n (pc := 4) (lv' := [(1, _), (0, _)]) C dX12_placePassed_4 (by decide) rfl ?_
  refine z_aload_n (pc := 5) C dX12_placePassed_5 1 rfl ?_
  refine z_cV0Q (pc := 6) mX12_pass C [] dX12_placePassed_6 lX12_157 mtX12_pass (tX12_passO hO1 (fun t9 ht9 => by cases o with | inr e => cases ht9 | inl t => obtain ⟨rfl, hw, -⟩ := sNmd_w ht9; rw [hw]; decide)) hM1 rfl rfl (by decide) (Nat.le_of_ble_eq_true rfl) (Nat.zero_le _) (Nat.zero_le _) ?_
  rintro h2 ⟨⟨v2, hO2, hV2⟩, F2⟩
  refine z_iload_n (pc := 9) C dX12_placePassed_9 0 rfl ?_
  refine z_iret (pc := 10) C dX12_placePassed_10 rfl (Nat.zero_le _) (Nat.zero_le _) ⟨_, rfl, ?_, rfl⟩
  exact ⟨rfl, ⟨v2, hO2, hV1.tr hV2⟩, F1.tr F2⟩

set_option maxRecDepth 20000 in
set_option maxHeartbeats 1000000 in
theorem tX12_manPassed {h : ZH} {v : Nat → Int32} {B R : Nat → Nat} {n0 : Nat} {o : TO} (hO : MO h v B n0 o) (hR7 : h 1067 = some (zI 241 R)) (hRb : oF o = false → ∀ j, j < 241 → R j < 2147483648) : ZQ1 mX12_manPassed 8 [.ref 1063] h (fun w hh => w = .int (nI (sNv R B 7 10 o)) ∧ (∃ v', MO hh v' B n0 (oP B n0 (oB o (sNmd R B 7 10))) ∧ rW v v') ∧ rF h hh) := by
  intro n
  have hM := hO.m
  refine z_enter (lv := [(0, _)]) (by decide) (Nat.le_of_ble_eq_true rfl) rfl (fun X C => ?_)
  refine z_aload_n (pc := 0) C dX12_manPassed_0 0 rfl ?_
  refine z_cV1Q (pc := 1) mX12_manHere C [] dX12_manPassed_1 lX12_160 mtX12_manHere (tX12_manHere hO hR7 hRb) hM rfl rfl (by decide) (Nat.le_of_ble_eq_true rfl) (Nat.zero_le _) (Nat.zero_le _) ?_
  rintro _ h1 ⟨rfl, ⟨v1, hO1, hV1⟩, F1⟩
  have hM1 := hO1.m
  refine z_istore_n (pc := 4) (lv' := [(1, _), (0, _)]) C dX12_manPassed_4 (by decide) rfl ?_
  refine z_aload_n (pc := 5) C dX12_manPassed_5 1 rfl ?_
  refine z_cV0Q (pc := 6) mX12_pass C [] dX12_manPassed_6 lX12_157 mtX12_pass (tX12_passO hO1 (fun t9 ht9 => by cases o with | inr e => cases ht9 | inl t => obtain ⟨rfl, hw, -⟩ := sNmd_w ht9; rw [hw]; decide)) hM1 rfl rfl (by decide) (Nat.le_of_ble_eq_true rfl) (Nat.zero_le _) (Nat.zero_le _) ?_
  rintro h2 ⟨⟨v2, hO2, hV2⟩, F2⟩
  refine z_iload_n (pc := 9) C dX12_manPassed_9 0 rfl ?_
  refine z_iret (pc := 10) C dX12_manPassed_10 rfl (Nat.zero_le _) (Nat.zero_le _) ⟨_, rfl, ?_, rfl⟩
  exact ⟨rfl, ⟨v2, hO2, hV1.tr hV2⟩, F1.tr F2⟩

set_option maxRecDepth 20000 in
set_option maxHeartbeats 1000000 in
theorem tX12_after {h : ZH} {v : Nat → Int32} {B : Nat → Nat} {n0 i up : Nat} {o : TO} (hO : MO h v B n0 o) (hi : i < 20) (hh9 : up < 1000) : ZQ1 mX12_after 7 [.ref 1063, .ref i, .int (nI 0), .int (nI up)] h (fun w hh => w = .int (nI (sAv B n0 i up o)) ∧ (∃ v', MO hh v' B n0 (sAf B n0 i up o) ∧ rW v v') ∧ rF h hh) := by
  intro n
  have hM := hO.m
  refine z_enter (lv := [(0, _), (1, _), (2, _), (3, _)]) (by decide) (Nat.le_of_ble_eq_true rfl) rfl (fun X C => ?_)
  refine z_aload_n (pc := 0) C dX12_after_0 0 rfl ?_
  refine z_aload_n (pc := 1) C dX12_after_1 1 rfl ?_
  refine z_cV0Q (pc := 2) mX12_must C [_] dX12_after_2 lX12_163 mtX12_must (tX12_mustO hO hi) hM rfl rfl (by decide) (Nat.le_of_ble_eq_true rfl) (Nat.zero_le _) (Nat.zero_le _) ?_
  rintro h1 ⟨⟨v1, hO1, hV1⟩, F1⟩
  have hM1 := hO1.m
  have f1 := hO1.f
  have eAf : sAf B n0 i up o = oB (oM B n0 o i) (sWh B n0 up) := rfl
  have eAv : sAv B n0 i up o = (match oB (oM B n0 o i) (sWh B n0 up) with | .inl _ => (match oM B n0 o i with | .inl t => sVal B t | .inr _ => 0) | .inr _ => 0) := rfl
  generalize oM B n0 o i = o1 at hO1 f1 eAf eAv
  refine z_aload_n (pc := 5) C dX12_after_5 0 rfl ?_
  refine z_getf (pc := 6) C dX12_after_6 fX12_94 hM1 (by first | rfl | assumption) ?_
  rw [f1]
  first | refine z_ifeqB (pc := 9) C 14 dX12_after_9 (by decide) (fun hc9 => ?_) (fun hc9 => ?_) | refine z_ifeqN (pc := 9) C 14 dX12_after_9 (by decide) (by omega) (fun hc9 => ?_) (fun hc9 => ?_) | refine z_if_eq (pc := 9) C 14 dX12_after_9 (by decide) (fun hc9 => ?_) (fun hc9 => ?_)
  · skip
    obtain ⟨t, rfl⟩ := oF_f hc9
    obtain ⟨hS1, hf1⟩ := id hO1
    obtain ⟨-, -, -, hk, L, h5, m1, m2, m3, m4, m5⟩ := id hS1
    have e0 := mtk_le t.1
    refine z_aload_n (pc := 14) C dX12_after_14 0 rfl ?_
    refine z_getf (pc := 15) C dX12_after_15 fX12_84 hM1 (by first | rfl | assumption) ?_
    refine z_top m1 ?_
    refine z_iconst (pc := 18) C dX12_after_18 (nI 3) (by decide) ?_
    first | refine z_icmpeqN (pc := 19) C 34 dX12_after_19 (by decide) (by omega) (by omega) (fun hc19 => ?_) (fun hc19 => ?_) | refine z_icmp_eq (pc := 19) C 34 dX12_after_19 (by decide) (fun hc19 => ?_) (fun hc19 => ?_)
    · skip
      have hw := mtk_3.mp hc19
      have f2 := f1
      have hM2 := hM1
      refine z_aload_n (pc := 34) C dX12_after_34 0 rfl ?_
      refine z_getf (pc := 35) C dX12_after_35 fX12_81 hM1 (by first | rfl | assumption) ?_
      refine z_top (m5 hw) ?_
      refine z_iload_n (pc := 38) C dX12_after_38 2 rfl ?_
      refine z_iload_n (pc := 39) C dX12_after_39 3 rfl ?_
      refine z_cS1 (pc := 40) mX12_in C [_, _, _] dX12_after_40 lX12_146 mtX12_in tX12_in rfl rfl (by decide) (Nat.le_of_ble_eq_true rfl) (Nat.zero_le _) (Nat.zero_le _) ?_
      rw [show decide (nI 0 ≤ nI (svl (fun i => B (t.2.1 + i)) (t.2.2 - t.2.1)) ∧ nI (svl (fun i => B (t.2.1 + i)) (t.2.2 - t.2.1)) ≤ nI up) = decide (sVal B t ≤ up) from by have hv : svl (fun i => B (t.2.1 + i)) (t.2.2 - t.2.1) < 1000 := sVal_lt hk hw; congr 1; rw [nI_leI (by omega) (by omega), nI_leI (by omega) (by omega)]; exact propext ⟨fun z => z.2, fun z => ⟨Nat.zero_le _, z⟩⟩]
      first | refine z_ifneB (pc := 43) C 55 dX12_after_43 (by decide) (fun hc43 => ?_) (fun hc43 => ?_) | refine z_ifneN (pc := 43) C 55 dX12_after_43 (by decide) (by omega) (fun hc43 => ?_) (fun hc43 => ?_) | refine z_if_ne (pc := 43) C 55 dX12_after_43 (by decide) (fun hc43 => ?_) (fun hc43 => ?_)
      · skip
        have es : sWh B n0 up t = .inl (sNx B n0 t) := by unfold sWh; rw [if_pos hw, if_pos (of_decide_eq_true hc43)]
        refine z_aload_n (pc := 55) C dX12_after_55 0 rfl ?_
        refine z_getf (pc := 56) C dX12_after_56 fX12_94 hM2 (by first | rfl | assumption) ?_
        rw [f2]
        first | refine z_ifeqB (pc := 59) C 64 dX12_after_59 (by decide) (fun hc59 => ?_) (fun hc59 => ?_) | refine z_ifeqN (pc := 59) C 64 dX12_after_59 (by decide) (by omega) (fun hc59 => ?_) (fun hc59 => ?_) | refine z_if_eq (pc := 59) C 64 dX12_after_59 (by decide) (fun hc59 => ?_) (fun hc59 => ?_)
        · skip
          refine z_aload_n (pc := 64) C dX12_after_64 0 rfl ?_
          refine z_getf (pc := 65) C dX12_after_65 fX12_81 hM2 (by first | rfl | assumption) ?_
          refine z_top (m5 hw) ?_
          refine z_istore (pc := 68) (lv' := [(4, _), (0, _), (1, _), (2, _), (3, _)]) C dX12_after_68 (by decide) rfl ?_
          refine z_aload_n (pc := 70) C dX12_after_70 1 rfl ?_
          refine z_cV0Q (pc := 71) mX12_goOn C [] dX12_after_71 lX12_115 mtX12_goOn (tX12_goOnQ hO1.1 (by rw [hw]; decide)) hM1 rfl rfl (by decide) (Nat.le_of_ble_eq_true rfl) (Nat.zero_le _) (Nat.zero_le _) ?_
          rintro h3 ⟨⟨v3, hS3, hV3⟩, F3⟩
          refine z_iload (pc := 74) C dX12_after_74 0 rfl ?_
          refine z_iret (pc := 76) C dX12_after_76 rfl (Nat.zero_le _) (Nat.zero_le _) ⟨_, rfl, ?_, rfl⟩
          rw [eAf, eAv, oB_inl, es]; exact ⟨rfl, ⟨v3, ⟨hS3, (hV3 13 (by decide)).trans hf1⟩, hV1.tr hV3.w⟩, F1.tr F3⟩
        · cases hc59
      · skip
        have es : sWh B n0 up t = .inr (4, t.2.1) := by unfold sWh; rw [if_pos hw, if_neg (of_decide_eq_false hc43)]
        refine z_aload_n (pc := 46) C dX12_after_46 0 rfl ?_
        refine z_iconst (pc := 47) C dX12_after_47 (nI 4) (by decide) ?_
        refine z_aload_n (pc := 48) C dX12_after_48 0 rfl ?_
        refine z_getf (pc := 49) C dX12_after_49 fX12_75 hM1 (by first | rfl | assumption) ?_
        refine z_top m2 ?_
        refine z_cV0Q (pc := 52) mX12_wrong C [_, _] dX12_after_52 lX12_121 mtX12_wrong (tX12_wrongO (f := 4) hO1 (fun t9 ht9 => by cases ht9; rfl)) hM1 rfl rfl (by decide) (Nat.le_of_ble_eq_true rfl) (Nat.zero_le _) (Nat.zero_le _) ?_
        rintro h2 ⟨⟨v2, hO2, hV2⟩, F2⟩
        have f2 := hO2.f
        have hM2 := hO2.m
        refine z_aload_n (pc := 55) C dX12_after_55 0 rfl ?_
        refine z_getf (pc := 56) C dX12_after_56 fX12_94 hM2 (by first | rfl | assumption) ?_
        rw [f2]
        first | refine z_ifeqB (pc := 59) C 64 dX12_after_59 (by decide) (fun hc59 => ?_) (fun hc59 => ?_) | refine z_ifeqN (pc := 59) C 64 dX12_after_59 (by decide) (by omega) (fun hc59 => ?_) (fun hc59 => ?_) | refine z_if_eq (pc := 59) C 64 dX12_after_59 (by decide) (fun hc59 => ?_) (fun hc59 => ?_)
        · cases hc59
        · skip
          refine z_iload_n (pc := 62) C dX12_after_62 2 rfl ?_
          refine z_iret (pc := 63) C dX12_after_63 rfl (Nat.zero_le _) (Nat.zero_le _) ⟨_, rfl, ?_, rfl⟩
          rw [eAf, eAv, oB_inl, es]; exact ⟨rfl, ⟨v2, hO2, hV1.tr hV2⟩, F1.tr F2⟩
    · skip
      have es : sWh B n0 up t = .inr (1, t.2.1) := by unfold sWh; rw [if_neg (fun z => hc19 (mtk_3.mpr z))]
      refine z_aload_n (pc := 22) C dX12_after_22 0 rfl ?_
      refine z_iconst (pc := 23) C dX12_after_23 (nI 1) (by decide) ?_
      refine z_aload_n (pc := 24) C dX12_after_24 0 rfl ?_
      refine z_getf (pc := 25) C dX12_after_25 fX12_75 hM1 (by first | rfl | assumption) ?_
      refine z_top m2 ?_
      refine z_cV0Q (pc := 28) mX12_wrong C [_, _] dX12_after_28 lX12_121 mtX12_wrong (tX12_wrongO (f := 1) hO1 (fun t9 ht9 => by cases ht9; rfl)) hM1 rfl rfl (by decide) (Nat.le_of_ble_eq_true rfl) (Nat.zero_le _) (Nat.zero_le _) ?_
      rintro h2 ⟨⟨v2, hO2, hV2⟩, F2⟩
      have f2 := hO2.f
      have hM2 := hO2.m
      refine z_goto (pc := 31) C 55 dX12_after_31 (by decide) ?_
      refine z_aload_n (pc := 55) C dX12_after_55 0 rfl ?_
      refine z_getf (pc := 56) C dX12_after_56 fX12_94 hM2 (by first | rfl | assumption) ?_
      rw [f2]
      first | refine z_ifeqB (pc := 59) C 64 dX12_after_59 (by decide) (fun hc59 => ?_) (fun hc59 => ?_) | refine z_ifeqN (pc := 59) C 64 dX12_after_59 (by decide) (by omega) (fun hc59 => ?_) (fun hc59 => ?_) | refine z_if_eq (pc := 59) C 64 dX12_after_59 (by decide) (fun hc59 => ?_) (fun hc59 => ?_)
      · cases hc59
      · skip
        refine z_iload_n (pc := 62) C dX12_after_62 2 rfl ?_
        refine z_iret (pc := 63) C dX12_after_63 rfl (Nat.zero_le _) (Nat.zero_le _) ⟨_, rfl, ?_, rfl⟩
        rw [eAf, eAv, oB_inl, es]; exact ⟨rfl, ⟨v2, hO2, hV1.tr hV2⟩, F1.tr F2⟩
  · skip
    obtain ⟨e, rfl⟩ := oF_t hc9
    refine z_iload_n (pc := 12) C dX12_after_12 2 rfl ?_
    refine z_iret (pc := 13) C dX12_after_13 rfl (Nat.zero_le _) (Nat.zero_le _) ⟨_, rfl, ?_, rfl⟩
    rw [eAf, eAv]; exact ⟨rfl, ⟨v1, hO1, hV1⟩, F1⟩

def oBg (B R : Nat → Nat) (n : Nat) (t : Nat × Nat × Nat) (i : Nat) (c : Bool) : TO := if sspl B t i then oP B n (if R 8 = 0 then oX (if c then .inl t else .inr (5, t.2.1)) 6 else (if c then .inl t else .inr (5, t.2.1))) else .inl t

set_option maxRecDepth 20000 in
set_option maxHeartbeats 1000000 in
theorem tX12_begins {h : ZH} {v : Nat → Int32} {B R : Nat → Nat} {n0 : Nat} {t : Nat × Nat × Nat} {i : Nat} {c : Bool} (hS : MS h v B n0 t) (hf : v 13 = zb false) (hR7 : h 1067 = some (zI 241 R)) (hR8 : R 8 ≤ 1) (hi : i < 20) : ZQ1 mX12_begins 6 [.ref 1063, .ref i, .int (zb c)] h (fun w hh => w = .int (zb (sspl B t i)) ∧ (∃ v', MO hh v' B n0 (oBg B R n0 t i c) ∧ rW v v') ∧ rF h hh) := by
  intro n
  have hM := hS.1
  have hO1 : MO h v B n0 (.inl t) := ⟨hS, hf⟩
  refine z_enter (lv := [(0, _), (1, _), (2, _)]) (by decide) (Nat.le_of_ble_eq_true rfl) rfl (fun X C => ?_)
  refine z_aload_n (pc := 0) C dX12_begins_0 0 rfl ?_
  refine z_aload_n (pc := 1) C dX12_begins_1 1 rfl ?_
  refine z_cV1 (pc := 2) mX12_isWord C [_] dX12_begins_2 lX12_111 mtX12_isWord (tX12_isWord (b0 := false) hS hf hi) hM rfl rfl (by decide) (Nat.le_of_ble_eq_true rfl) (Nat.zero_le _) (Nat.zero_le _) ?_
  first | refine z_ifneB (pc := 5) C 10 dX12_begins_5 (by decide) (fun hc5 => ?_) (fun hc5 => ?_) | refine z_ifneN (pc := 5) C 10 dX12_begins_5 (by decide) (by omega) (fun hc5 => ?_) (fun hc5 => ?_) | refine z_if_ne (pc := 5) C 10 dX12_begins_5 (by decide) (fun hc5 => ?_) (fun hc5 => ?_)
  · skip
    have e5 : sspl B t i = true := hc5
    refine z_iload_n (pc := 10) C dX12_begins_10 2 rfl ?_
    first | refine z_ifneB (pc := 11) C 23 dX12_begins_11 (by decide) (fun hc11 => ?_) (fun hc11 => ?_) | refine z_ifneN (pc := 11) C 23 dX12_begins_11 (by decide) (by omega) (fun hc11 => ?_) (fun hc11 => ?_) | refine z_if_ne (pc := 11) C 23 dX12_begins_11 (by decide) (fun hc11 => ?_) (fun hc11 => ?_)
    · skip
      have hO2 := hO1
      have hV2 := rW.rf v
      have F2 := rF.rf h
      have hM2 := hM
      have hR2 := hR7
      refine z_aload_n (pc := 23) C dX12_begins_23 0 rfl ?_
      refine z_getf (pc := 24) C dX12_begins_24 fX12_23 hM2 (by first | rfl | assumption) ?_
      refine z_bipush (pc := 27) C dX12_begins_27 (nI 8) (by decide) ?_
      first | refine z_ialdN (pc := 29) C dX12_begins_29 hR2 (by omega) (by decide) ?_ | refine z_ialdI (pc := 29) C dX12_begins_29 hR2 (by omega) (by decide) ?_
      first | refine z_ifneB (pc := 30) C 43 dX12_begins_30 (by decide) (fun hc30 => ?_) (fun hc30 => ?_) | refine z_ifneN (pc := 30) C 43 dX12_begins_30 (by decide) (by omega) (fun hc30 => ?_) (fun hc30 => ?_) | refine z_if_ne (pc := 30) C 43 dX12_begins_30 (by decide) (fun hc30 => ?_) (fun hc30 => ?_)
      · skip
        have hO3 := hO2
        have hM3 := hM2
        have e6 : ¬ R 8 = 0 := by omega
        refine z_aload_n (pc := 43) C dX12_begins_43 0 rfl ?_
        refine z_cV0Q (pc := 44) mX12_pass C [] dX12_begins_44 lX12_157 mtX12_pass (tX12_passO hO3 (fun t9 ht9 => by first | (cases ht9; rw [(of_decide_eq_true (show sspl B t i = true from hc5)).1]; decide) | cases ht9)) hM3 rfl rfl (by decide) (Nat.le_of_ble_eq_true rfl) (Nat.zero_le _) (Nat.zero_le _) ?_
        rintro h4 ⟨⟨v4, hO4, hV4⟩, F4⟩
        refine z_iconst (pc := 47) C dX12_begins_47 (zb true) (by decide) ?_
        refine z_zret (pc := 48) C dX12_begins_48 rfl (by first | exact zb_nar _ | rfl) (Nat.zero_le _) (Nat.zero_le _) ⟨_, rfl, ?_, rfl⟩
        rw [e5]; unfold oBg; rw [e5, hc11]; first | (rw [if_pos e6]; exact ⟨rfl, ⟨v4, hO4, (hV2.tr hV3).tr hV4⟩, (F2.tr F3).tr F4⟩) | (rw [if_neg e6]; exact ⟨rfl, ⟨v4, hO4, hV2.tr hV4⟩, F2.tr F4⟩)
      · skip
        have e6 : R 8 = 0 := hc30
        refine z_aload_n (pc := 33) C dX12_begins_33 0 rfl ?_
        refine z_bipush (pc := 34) C dX12_begins_34 (nI 6) (by decide) ?_
        refine z_aload_n (pc := 36) C dX12_begins_36 0 rfl ?_
        refine z_getf (pc := 37) C dX12_begins_37 fX12_75 hM2 (by first | rfl | assumption) ?_
        have m2 := hO2.at (t := t)
        refine z_cV0Q (pc := 40) mX12_wrong C [_, _] dX12_begins_40 lX12_121 mtX12_wrong (tX12_wrongO (f := 6) hO2 m2) hM2 rfl rfl (by decide) (Nat.le_of_ble_eq_true rfl) (Nat.zero_le _) (Nat.zero_le _) ?_
        rintro h3 ⟨⟨v3, hO3, hV3⟩, F3⟩
        have hM3 := hO3.m
        refine z_aload_n (pc := 43) C dX12_begins_43 0 rfl ?_
        refine z_cV0Q (pc := 44) mX12_pass C [] dX12_begins_44 lX12_157 mtX12_pass (tX12_passO hO3 (fun t9 ht9 => by first | (cases ht9; rw [(of_decide_eq_true (show sspl B t i = true from hc5)).1]; decide) | cases ht9)) hM3 rfl rfl (by decide) (Nat.le_of_ble_eq_true rfl) (Nat.zero_le _) (Nat.zero_le _) ?_
        rintro h4 ⟨⟨v4, hO4, hV4⟩, F4⟩
        refine z_iconst (pc := 47) C dX12_begins_47 (zb true) (by decide) ?_
        refine z_zret (pc := 48) C dX12_begins_48 rfl (by first | exact zb_nar _ | rfl) (Nat.zero_le _) (Nat.zero_le _) ⟨_, rfl, ?_, rfl⟩
        rw [e5]; unfold oBg; rw [e5, hc11]; first | (rw [if_pos e6]; exact ⟨rfl, ⟨v4, hO4, (hV2.tr hV3).tr hV4⟩, (F2.tr F3).tr F4⟩) | (rw [if_neg e6]; exact ⟨rfl, ⟨v4, hO4, hV2.tr hV4⟩, F2.tr F4⟩)
    · skip
      refine z_aload_n (pc := 14) C dX12_begins_14 0 rfl ?_
      refine z_iconst (pc := 15) C dX12_begins_15 (nI 5) (by decide) ?_
      refine z_aload_n (pc := 16) C dX12_begins_16 0 rfl ?_
      refine z_getf (pc := 17) C dX12_begins_17 fX12_75 hM (by first | rfl | assumption) ?_
      have m2 := hO1.at (t := t) t rfl
      refine z_top m2 ?_
      refine z_cV0Q (pc := 20) mX12_wrong C [_, _] dX12_begins_20 lX12_121 mtX12_wrong (tX12_wrongO (f := 5) hO1 (fun t9 ht9 => by cases ht9; rfl)) hM rfl rfl (by decide) (Nat.le_of_ble_eq_true rfl) (Nat.zero_le _) (Nat.zero_le _) ?_
      rintro h2 ⟨⟨v2, hO2, hV2⟩, F2⟩
      have hM2 := hO2.m
      have hR2 : h2 1067 = _ := (F2 1067 (by decide) (by decide)).trans hR7
      refine z_aload_n (pc := 23) C dX12_begins_23 0 rfl ?_
      refine z_getf (pc := 24) C dX12_begins_24 fX12_23 hM2 (by first | rfl | assumption) ?_
      refine z_bipush (pc := 27) C dX12_begins_27 (nI 8) (by decide) ?_
      first | refine z_ialdN (pc := 29) C dX12_begins_29 hR2 (by omega) (by decide) ?_ | refine z_ialdI (pc := 29) C dX12_begins_29 hR2 (by omega) (by decide) ?_
      first | refine z_ifneB (pc := 30) C 43 dX12_begins_30 (by decide) (fun hc30 => ?_) (fun hc30 => ?_) | refine z_ifneN (pc := 30) C 43 dX12_begins_30 (by decide) (by omega) (fun hc30 => ?_) (fun hc30 => ?_) | refine z_if_ne (pc := 30) C 43 dX12_begins_30 (by decide) (fun hc30 => ?_) (fun hc30 => ?_)
      · skip
        have hO3 := hO2
        have hM3 := hM2
        have e6 : ¬ R 8 = 0 := by omega
        refine z_aload_n (pc := 43) C dX12_begins_43 0 rfl ?_
        refine z_cV0Q (pc := 44) mX12_pass C [] dX12_begins_44 lX12_157 mtX12_pass (tX12_passO hO3 (fun t9 ht9 => by first | (cases ht9; rw [(of_decide_eq_true (show sspl B t i = true from hc5)).1]; decide) | cases ht9)) hM3 rfl rfl (by decide) (Nat.le_of_ble_eq_true rfl) (Nat.zero_le _) (Nat.zero_le _) ?_
        rintro h4 ⟨⟨v4, hO4, hV4⟩, F4⟩
        refine z_iconst (pc := 47) C dX12_begins_47 (zb true) (by decide) ?_
        refine z_zret (pc := 48) C dX12_begins_48 rfl (by first | exact zb_nar _ | rfl) (Nat.zero_le _) (Nat.zero_le _) ⟨_, rfl, ?_, rfl⟩
        rw [e5]; unfold oBg; rw [e5, hc11]; first | (rw [if_pos e6]; exact ⟨rfl, ⟨v4, hO4, (hV2.tr hV3).tr hV4⟩, (F2.tr F3).tr F4⟩) | (rw [if_neg e6]; exact ⟨rfl, ⟨v4, hO4, hV2.tr hV4⟩, F2.tr F4⟩)
      · skip
        have e6 : R 8 = 0 := hc30
        refine z_aload_n (pc := 33) C dX12_begins_33 0 rfl ?_
        refine z_bipush (pc := 34) C dX12_begins_34 (nI 6) (by decide) ?_
        refine z_aload_n (pc := 36) C dX12_begins_36 0 rfl ?_
        refine z_getf (pc := 37) C dX12_begins_37 fX12_75 hM2 (by first | rfl | assumption) ?_
        have m2 := hO2.at (t := t)
        refine z_cV0Q (pc := 40) mX12_wrong C [_, _] dX12_begins_40 lX12_121 mtX12_wrong (tX12_wrongO (f := 6) hO2 m2) hM2 rfl rfl (by decide) (Nat.le_of_ble_eq_true rfl) (Nat.zero_le _) (Nat.zero_le _) ?_
        rintro h3 ⟨⟨v3, hO3, hV3⟩, F3⟩
        have hM3 := hO3.m
        refine z_aload_n (pc := 43) C dX12_begins_43 0 rfl ?_
        refine z_cV0Q (pc := 44) mX12_pass C [] dX12_begins_44 lX12_157 mtX12_pass (tX12_passO hO3 (fun t9 ht9 => by first | (cases ht9; rw [(of_decide_eq_true (show sspl B t i = true from hc5)).1]; decide) | cases ht9)) hM3 rfl rfl (by decide) (Nat.le_of_ble_eq_true rfl) (Nat.zero_le _) (Nat.zero_le _) ?_
        rintro h4 ⟨⟨v4, hO4, hV4⟩, F4⟩
        refine z_iconst (pc := 47) C dX12_begins_47 (zb true) (by decide) ?_
        refine z_zret (pc := 48) C dX12_begins_48 rfl (by first | exact zb_nar _ | rfl) (Nat.zero_le _) (Nat.zero_le _) ⟨_, rfl, ?_, rfl⟩
        rw [e5]; unfold oBg; rw [e5, hc11]; first | (rw [if_pos e6]; exact ⟨rfl, ⟨v4, hO4, (hV2.tr hV3).tr hV4⟩, (F2.tr F3).tr F4⟩) | (rw [if_neg e6]; exact ⟨rfl, ⟨v4, hO4, hV2.tr hV4⟩, F2.tr F4⟩)
  · skip
    have e5 : sspl B t i = false := hc5
    refine z_iconst (pc := 8) C dX12_begins_8 (zb false) (by decide) ?_
    refine z_zret (pc := 9) C dX12_begins_9 rfl (by first | exact zb_nar _ | rfl) (Nat.zero_le _) (Nat.zero_le _) ⟨_, rfl, ?_, rfl⟩
    rw [e5]; unfold oBg; rw [e5]; exact ⟨rfl, ⟨v, hO1, rW.rf v⟩, rF.rf h⟩
