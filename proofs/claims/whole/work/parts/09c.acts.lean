set_option maxRecDepth 20000 in
set_option maxHeartbeats 1000000 in
theorem tX12_noteA {h : ZH} {v : Nat → Int32} {S U : Nat → Nat} {un : Nat} (hM : h 1063 = some (zO 8 (mfs v))) (hB : h 1070 = some (zI 40 S)) (hU : h 1071 = some (zI 640 U)) (h22 : v 22 = nI un) (hu : un < 16) : ZD mX12_note 1 [.ref 1063] h none (zup (zup h 1071 (zI 640 (ncpy S U 0 (40 * un) 40))) 1063 (zO 8 (mfs (upd v 22 (nI (un + 1)))))) := by
  intro n
  refine z_enter (lv := [(0, _)]) (by decide) (Nat.le_of_ble_eq_true rfl) rfl (fun X C => ?_)
  refine z_aload_n (pc := 0) C dX12_note_0 0 rfl ?_
  refine z_getf (pc := 1) C dX12_note_1 fX12_183 (by assumption) (by first | rfl | assumption) ?_
  rw [h22]
  refine z_bipush (pc := 4) C dX12_note_4 (nI 16) (by decide) ?_
  first | refine z_icmpneN (pc := 6) C 49 dX12_note_6 (by decide) (by omega) (by omega) (fun hc6 => ?_) (fun hc6 => ?_) | refine z_icmp_ne (pc := 6) C 49 dX12_note_6 (by decide) (fun hc6 => ?_) (fun hc6 => ?_)
  · skip
    refine z_aload_n (pc := 49) C dX12_note_49 0 rfl ?_
    refine z_getf (pc := 50) C dX12_note_50 fX12_32 (by assumption) (by first | rfl | assumption) ?_
    refine z_iconst (pc := 53) C dX12_note_53 (nI 0) (by decide) ?_
    refine z_aload_n (pc := 54) C dX12_note_54 0 rfl ?_
    refine z_getf (pc := 55) C dX12_note_55 fX12_35 (by assumption) (by first | rfl | assumption) ?_
    refine z_bipush (pc := 58) C dX12_note_58 (nI 40) (by decide) ?_
    refine z_aload_n (pc := 60) C dX12_note_60 0 rfl ?_
    refine z_getf (pc := 61) C dX12_note_61 fX12_183 (by assumption) (by first | rfl | assumption) ?_
    rw [h22]
    first | refine z_imulN (pc := 64) C dX12_note_64 ?_ | refine z_imul (pc := 64) C dX12_note_64 ?_
    refine z_bipush (pc := 65) C dX12_note_65 (nI 40) (by decide) ?_
    refine z_cS0 (pc := 67) mX12_copy C [_, _, _, _, _] dX12_note_67 lX12_176 mtX12_copy (tX12_copy hB hU (by decide) (by omega) (by omega) (by decide) (by decide)) rfl rfl (by decide) (Nat.le_of_ble_eq_true rfl) (Nat.zero_le _) (Nat.zero_le _) ?_
    refine z_aload_n (pc := 70) C dX12_note_70 0 rfl ?_
    refine z_dup (pc := 71) C dX12_note_71 rfl ?_
    refine z_getf (pc := 72) C dX12_note_72 fX12_183 ((zup_ne (by decide)).trans hM) (by first | rfl | assumption) ?_
    rw [h22]
    refine z_iconst (pc := 75) C dX12_note_75 (nI 1) (by decide) ?_
    first | refine z_iaddN (pc := 76) C dX12_note_76 ?_ | refine z_iadd (pc := 76) C dX12_note_76 ?_
    refine z_putf (pc := 77) (fs' := mfs (upd _ 22 _)) C dX12_note_77 gX12_183 ((zup_ne (by decide)).trans hM) (fun _ => ⟨rfl, rfl⟩) (by exact Nat.le_of_ble_eq_true rfl) (mfs_set _ 22 _ (by decide)) ?_
    refine z_vret (pc := 80) C dX12_note_80 rfl (Nat.zero_le _) (Nat.zero_le _) ⟨?_, ?_, rfl⟩
    · rfl
    · rfl
  · omega

set_option maxRecDepth 20000 in
set_option maxHeartbeats 1000000 in
theorem tX12_noteB {h : ZH} {v : Nat → Int32} {S U : Nat → Nat} (hM : h 1063 = some (zO 8 (mfs v))) (hB : h 1070 = some (zI 40 S)) (hU : h 1071 = some (zI 640 U)) (h22 : v 22 = nI 16) : ZD mX12_note 1 [.ref 1063] h none (zup (zup h 1071 (zI 640 (ncpy S (ssh U 600) 0 600 40))) 1063 (zO 8 (mfs (upd v 22 (nI 16))))) := by
  intro n
  refine z_enter (lv := [(0, _)]) (by decide) (Nat.le_of_ble_eq_true rfl) rfl (fun X C => ?_)
  refine z_aload_n (pc := 0) C dX12_note_0 0 rfl ?_
  refine z_getf (pc := 1) C dX12_note_1 fX12_183 (by assumption) (by first | rfl | assumption) ?_
  rw [h22]
  refine z_bipush (pc := 4) C dX12_note_4 (nI 16) (by decide) ?_
  first | refine z_icmpneN (pc := 6) C 49 dX12_note_6 (by decide) (by omega) (by omega) (fun hc6 => ?_) (fun hc6 => ?_) | refine z_icmp_ne (pc := 6) C 49 dX12_note_6 (by decide) (fun hc6 => ?_) (fun hc6 => ?_)
  · exact absurd rfl hc6
  · skip
    refine z_iconst (pc := 9) C dX12_note_9 (nI 0) (by decide) ?_
    refine z_istore_n (pc := 10) (lv' := [(1, _), (0, _)]) C dX12_note_10 (by decide) rfl ?_
    refine z_sub (lv' := [(0, _), (1, _)]) [1, 0] rfl ?_
    have lp11 : ∀ (f : Nat) (k : Nat), (k + f = 600) → Zc X mX12_note (zEnd X (fun r hh n' => r = none ∧ hh = (zup (zup h 1071 (zI 640 (ncpy S (ssh U 600) 0 600 40))) 1063 (zO 8 (mfs (upd v 22 (nI 16))))) ∧ n' = n) 0 0) 11 [(0, .ref 1063), (1, .int (nI k))] [] (zup h 1071 (zI 640 (ssh U k))) n 0 0 := by
      intro f
      induction f using Nat.strongRecOn with
      | _ f ih =>
        intro k hk
        refine z_iload_n (pc := 11) C dX12_note_11 1 rfl ?_
        refine z_sipush (pc := 12) C dX12_note_12 (nI 600) (by decide) ?_
        first | refine z_icmpgeN (pc := 15) C 39 dX12_note_15 (by decide) (by omega) (by omega) (fun hc15 => ?_) (fun hc15 => ?_) | refine z_icmp_ge (pc := 15) C 39 dX12_note_15 (by decide) (fun hc15 => ?_) (fun hc15 => ?_)
        · skip
          obtain rfl : k = 600 := (by omega)
          refine z_aload_n (pc := 39) C dX12_note_39 0 rfl ?_
          refine z_dup (pc := 40) C dX12_note_40 rfl ?_
          refine z_getf (pc := 41) C dX12_note_41 fX12_183 ((zup_ne (by decide)).trans hM) (by first | rfl | assumption) ?_
          rw [h22]
          refine z_iconst (pc := 44) C dX12_note_44 (nI 1) (by decide) ?_
          first | refine z_isubN (pc := 45) C dX12_note_45 (by omega) ?_ | refine z_isub (pc := 45) C dX12_note_45 ?_
          refine z_putf (pc := 46) (fs' := mfs (upd _ 22 _)) C dX12_note_46 gX12_183 ((zup_ne (by decide)).trans hM) (fun _ => ⟨rfl, rfl⟩) (by exact Nat.le_of_ble_eq_true rfl) (mfs_set _ 22 _ (by decide)) ?_
          refine z_aload_n (pc := 49) C dX12_note_49 0 rfl ?_
          refine z_getf (pc := 50) C dX12_note_50 fX12_32 (zup_same _ _ _) (by first | rfl | assumption) ?_
          refine z_iconst (pc := 53) C dX12_note_53 (nI 0) (by decide) ?_
          refine z_aload_n (pc := 54) C dX12_note_54 0 rfl ?_
          refine z_getf (pc := 55) C dX12_note_55 fX12_35 (zup_same _ _ _) (by first | rfl | assumption) ?_
          refine z_bipush (pc := 58) C dX12_note_58 (nI 40) (by decide) ?_
          refine z_aload_n (pc := 60) C dX12_note_60 0 rfl ?_
          refine z_getf (pc := 61) C dX12_note_61 fX12_183 (zup_same _ _ _) (by first | rfl | assumption) ?_
          rw [show upd v 22 (nI (16 - 1)) 22 = nI 15 from rfl]
          first | refine z_imulN (pc := 64) C dX12_note_64 ?_ | refine z_imul (pc := 64) C dX12_note_64 ?_
          refine z_bipush (pc := 65) C dX12_note_65 (nI 40) (by decide) ?_
          refine z_cS0 (pc := 67) mX12_copy C [_, _, _, _, _] dX12_note_67 lX12_176 mtX12_copy (tX12_copy (b := 1071) ((zup_ne (by decide)).trans ((zup_ne (by decide)).trans hB)) ((zup_ne (by decide)).trans (zup_same _ _ _)) (by decide) (by decide) (by decide) (by decide) (by decide)) rfl rfl (by decide) (Nat.le_of_ble_eq_true rfl) (Nat.zero_le _) (Nat.zero_le _) ?_
          refine z_aload_n (pc := 70) C dX12_note_70 0 rfl ?_
          refine z_dup (pc := 71) C dX12_note_71 rfl ?_
          refine z_getf (pc := 72) C dX12_note_72 fX12_183 ((zup_ne (by decide)).trans (zup_same _ _ _)) (by first | rfl | assumption) ?_
          rw [show upd v 22 (nI (16 - 1)) 22 = nI 15 from rfl]
          refine z_iconst (pc := 75) C dX12_note_75 (nI 1) (by decide) ?_
          first | refine z_iaddN (pc := 76) C dX12_note_76 ?_ | refine z_iadd (pc := 76) C dX12_note_76 ?_
          refine z_putf (pc := 77) (fs' := mfs (upd _ 22 _)) C dX12_note_77 gX12_183 ((zup_ne (by decide)).trans (zup_same _ _ _)) (fun _ => ⟨rfl, rfl⟩) (by exact Nat.le_of_ble_eq_true rfl) (mfs_set _ 22 _ (by decide)) ?_
          refine z_vret (pc := 80) C dX12_note_80 rfl (Nat.zero_le _) (Nat.zero_le _) ⟨?_, ?_, rfl⟩
          · rfl
          · rw [zup_comm _ _ _ (show 1063 ≠ 1071 by decide), zup_zup, zup_zup, upd_upd]
        · skip
          refine z_aload_n (pc := 18) C dX12_note_18 0 rfl ?_
          refine z_getf (pc := 19) C dX12_note_19 fX12_35 ((zup_ne (by decide)).trans hM) (by first | rfl | assumption) ?_
          refine z_iload_n (pc := 22) C dX12_note_22 1 rfl ?_
          refine z_aload_n (pc := 23) C dX12_note_23 0 rfl ?_
          refine z_getf (pc := 24) C dX12_note_24 fX12_35 ((zup_ne (by decide)).trans hM) (by first | rfl | assumption) ?_
          refine z_iload_n (pc := 27) C dX12_note_27 1 rfl ?_
          refine z_bipush (pc := 28) C dX12_note_28 (nI 40) (by decide) ?_
          first | refine z_iaddN (pc := 30) C dX12_note_30 ?_ | refine z_iadd (pc := 30) C dX12_note_30 ?_
          first | refine z_ialdN (pc := 31) C dX12_note_31 (zup_same _ _ _) (by omega) (by decide) ?_ | refine z_ialdI (pc := 31) C dX12_note_31 (zup_same _ _ _) (by omega) (by decide) ?_
          first | refine z_iastN (pc := 32) C dX12_note_32 (zup_same _ _ _) (by omega) (by decide) ?_ | refine z_iastI (pc := 32) C dX12_note_32 (zup_same _ _ _) (by omega) (by decide) ?_
          first | refine z_iincN (pc := 33) (lv' := [(1, _), (0, _)]) C 1 dX12_note_33 1 rfl (by decide) (by decide) rfl ?_ | refine z_iinc (pc := 33) (lv' := [(1, _), (0, _)]) C dX12_note_33 1 rfl _ rfl (by decide) rfl ?_
          refine z_goto (pc := 36) C 11 dX12_note_36 (by decide) ?_
          refine z_sub (lv' := [(0, _), (1, _)]) [1, 0] rfl ?_
          (refine z_hp (show _ = zup h 1071 (zI 640 (ssh U (k + 1))) from by rw [zup_zup, show ssh U k (k + 40) = U (k + 40) from if_neg (by omega), ssh_s]) ?_; exact ih (f - 1) (by omega) (k + 1) (by omega))
    (refine z_hp (show h = zup h 1071 (zI 640 (ssh U 0)) from by rw [ssh_0]; exact (zup_id hU).symm) ?_; exact lp11 600 0 (by omega))

theorem tX12_note {h : ZH} {v : Nat → Int32} {S U : Nat → Nat} {un : Nat} (hM : h 1063 = some (zO 8 (mfs v))) (hB : h 1070 = some (zI 40 S)) (hU : h 1071 = some (zI 640 U)) (h22 : v 22 = nI un) (hu : un ≤ 16) : ZD mX12_note 1 [.ref 1063] h none (zup (zup h 1071 (zI 640 (sNote U S un))) 1063 (zO 8 (mfs (upd v 22 (nI (min (un + 1) 16)))))) := by
  unfold sNote
  by_cases e : un = 16
  · subst e
    exact tX12_noteB hM hB hU h22
  · rw [if_neg e, Nat.min_eq_left (by omega)]
    exact tX12_noteA hM hB hU h22 (by omega)

set_option maxRecDepth 20000 in
set_option maxHeartbeats 1000000 in
theorem tX12_stepN {h : ZH} {v : Nat → Int32} {R S : Nat → Nat} {b : Bool} {m p : Int32} (hM : h 1063 = some (zO 8 (mfs v))) (hA : h 1066 = some (zI 241 R)) (hB : h 1070 = some (zI 40 S)) (hR : wfR R) (hS : wfS R S) (hF : v 14 = zb b) (hb : wfB b R) (hn : aStOk R S m p = false) : ZD mX12_step 6 [.ref 1063, .int m, .int p] h (some (.int (aStep R S m p).1)) (zup h 1063 (zO 8 (mfs (mv v (aStep R S m p).2)))) := by
  intro n
  obtain ⟨w1, w3, w4, w5, w0, wP, wM, wK, wX⟩ := id hR
  obtain ⟨wT, wL, wB⟩ := id hS
  refine z_enter (lv := [(0, _), (1, _), (2, _)]) (by decide) (Nat.le_of_ble_eq_true rfl) rfl (fun X C => ?_)
  refine z_aload_n (pc := 0) C dX12_step_0 0 rfl ?_
  refine z_cV0 (pc := 1) mX12_good C [] dX12_step_1 lX12_167 mtX12_good (tX12_good (by first | assumption | omega)) (by assumption) rfl rfl (by decide) (Nat.le_of_ble_eq_true rfl) (Nat.zero_le _) (Nat.zero_le _) ?_
  have hM1 : zup h 1063 (zO 8 (mfs (upd (upd v 0 0) 11 0))) 1063 = some (zO 8 (mfs (upd (upd v 0 0) 11 0))) := zup_same _ _ _
  have hA1 : zup h 1063 (zO 8 (mfs (upd (upd v 0 0) 11 0))) 1066 = some (zI 241 R) := (zup_ne (by decide)).trans hA
  have hB1 : zup h 1063 (zO 8 (mfs (upd (upd v 0 0) 11 0))) 1070 = some (zI 40 S) := (zup_ne (by decide)).trans hB
  have hF1 : upd (upd v 0 0) 11 0 14 = zb b := hF
  generalize hg : zup h 1063 (zO 8 (mfs (upd (upd v 0 0) 11 0))) = h1 at hM1 hA1 hB1 ⊢
  refine z_aload_n (pc := 4) C dX12_step_4 0 rfl ?_
  refine z_iload_n (pc := 5) C dX12_step_5 1 rfl ?_
  refine z_cV1 (pc := 6) mX12_isMan C [_] dX12_step_6 lX12_288 mtX12_isMan (tX12_isMan (by first | assumption | omega) (by first | assumption | omega) (by first | assumption | omega) (by first | assumption | omega)) (by assumption) rfl rfl (by decide) (Nat.le_of_ble_eq_true rfl) (Nat.zero_le _) (Nat.zero_le _) ?_
  rw [wfB_m hb m]
  first | refine z_ifeqB (pc := 9) C 20 dX12_step_9 (by decide) (fun hc9 => ?_) (fun hc9 => ?_) | refine z_ifeqN (pc := 9) C 20 dX12_step_9 (by decide) (by omega) (fun hc9 => ?_) (fun hc9 => ?_) | refine z_if_eq (pc := 9) C 20 dX12_step_9 (by decide) (fun hc9 => ?_) (fun hc9 => ?_)
  · skip
    refine z_aload_n (pc := 20) C dX12_step_20 0 rfl ?_
    refine z_iconst (pc := 21) C dX12_step_21 (nI 1) (by decide) ?_
    refine z_cV1 (pc := 22) mX12_no C [_] dX12_step_22 lX12_170 mtX12_no (tX12_no (by first | assumption | omega)) (by assumption) rfl rfl (by decide) (Nat.le_of_ble_eq_true rfl) (Nat.zero_le _) (Nat.zero_le _) ?_
    refine z_iret (pc := 25) C dX12_step_25 rfl (Nat.zero_le _) (Nat.zero_le _) ⟨?_, ?_, rfl⟩
    · simp [aStep, sMay, *]
    · first | exact mz0 hg (by simp [aStep, sMay, *]) | exact mz1 hg (by simp [aStep, sMay, *] <;> rfl)
  · skip
    refine z_aload_n (pc := 12) C dX12_step_12 0 rfl ?_
    refine z_iload_n (pc := 13) C dX12_step_13 2 rfl ?_
    refine z_cV1 (pc := 14) mX12_isPlace C [_] dX12_step_14 lX12_279 mtX12_isPlace (tX12_isPlace (by first | assumption | omega) (by first | assumption | omega) (by first | assumption | omega) (by first | assumption | omega)) (by assumption) rfl rfl (by decide) (Nat.le_of_ble_eq_true rfl) (Nat.zero_le _) (Nat.zero_le _) ?_
    rw [wfB_p hb p]
    first | refine z_ifneB (pc := 17) C 26 dX12_step_17 (by decide) (fun hc17 => ?_) (fun hc17 => ?_) | refine z_ifneN (pc := 17) C 26 dX12_step_17 (by decide) (by omega) (fun hc17 => ?_) (fun hc17 => ?_) | refine z_if_ne (pc := 17) C 26 dX12_step_17 (by decide) (fun hc17 => ?_) (fun hc17 => ?_)
    · skip
      obtain ⟨j, hj, rfl⟩ := zlt_of (by omega) hc9
      have pj := pn_nI (j := j) (by omega)
      obtain ⟨i, hi, rfl⟩ := zlt_of (by omega) hc17
      have pi := pn_nI (j := i) (by omega)
      have e1 : S (8 * j) < R 1 := wT j hj 0 (by omega)
      have e2 := wP _ e1
      refine z_aload_n (pc := 26) C dX12_step_26 0 rfl ?_
      refine z_getf (pc := 27) C dX12_step_27 fX12_32 (by assumption) (by first | rfl | assumption) ?_
      refine z_bipush (pc := 30) C dX12_step_30 (nI 8) (by decide) ?_
      refine z_iload_n (pc := 32) C dX12_step_32 1 rfl ?_
      first | refine z_imulN (pc := 33) C dX12_step_33 ?_ | refine z_imul (pc := 33) C dX12_step_33 ?_
      first | refine z_ialdN (pc := 34) C dX12_step_34 (by assumption) (by omega) (by decide) ?_ | refine z_ialdI (pc := 34) C dX12_step_34 (by assumption) (by omega) (by decide) ?_
      refine z_iload_n (pc := 35) C dX12_step_35 2 rfl ?_
      first | refine z_icmpeqN (pc := 36) C 69 dX12_step_36 (by decide) (by omega) (by omega) (fun hc36 => ?_) (fun hc36 => ?_) | refine z_icmp_eq (pc := 36) C 69 dX12_step_36 (by decide) (fun hc36 => ?_) (fun hc36 => ?_)
      · exact absurd hn (by simp [aStOk, sMay, *])
      · skip
        have e3 : ¬ i = S (8 * j) := fun z => hc36 z.symm
        refine z_aload_n (pc := 39) C dX12_step_39 0 rfl ?_
        refine z_getf (pc := 40) C dX12_step_40 fX12_20 (by assumption) (by first | rfl | assumption) ?_
        refine z_bipush (pc := 43) C dX12_step_43 (nI 23) (by decide) ?_
        refine z_aload_n (pc := 45) C dX12_step_45 0 rfl ?_
        refine z_getf (pc := 46) C dX12_step_46 fX12_32 (by assumption) (by first | rfl | assumption) ?_
        refine z_bipush (pc := 49) C dX12_step_49 (nI 8) (by decide) ?_
        refine z_iload_n (pc := 51) C dX12_step_51 1 rfl ?_
        first | refine z_imulN (pc := 52) C dX12_step_52 ?_ | refine z_imul (pc := 52) C dX12_step_52 ?_
        first | refine z_ialdN (pc := 53) C dX12_step_53 (by assumption) (by omega) (by decide) ?_ | refine z_ialdI (pc := 53) C dX12_step_53 (by assumption) (by omega) (by decide) ?_
        first | refine z_iaddN (pc := 54) C dX12_step_54 ?_ | refine z_iadd (pc := 54) C dX12_step_54 ?_
        first | refine z_ialdN (pc := 55) C dX12_step_55 (by assumption) (by omega) (by decide) ?_ | refine z_ialdI (pc := 55) C dX12_step_55 (by assumption) (by omega) (by decide) ?_
        refine z_iload_n (pc := 56) C dX12_step_56 2 rfl ?_
        refine z_cS1 (pc := 57) mX12_hasBit C [_, _] dX12_step_57 lX12_236 mtX12_hasBit (tX12_hasBit (by first | assumption | omega) (by first | assumption | omega)) rfl rfl (by decide) (Nat.le_of_ble_eq_true rfl) (Nat.zero_le _) (Nat.zero_le _) ?_
        first | refine z_ifneB (pc := 60) C 69 dX12_step_60 (by decide) (fun hc60 => ?_) (fun hc60 => ?_) | refine z_ifneN (pc := 60) C 69 dX12_step_60 (by decide) (by omega) (fun hc60 => ?_) (fun hc60 => ?_) | refine z_if_ne (pc := 60) C 69 dX12_step_60 (by decide) (fun hc60 => ?_) (fun hc60 => ?_)
        · exact absurd hn (by simp [aStOk, sMay, *])
        · skip
          refine z_aload_n (pc := 63) C dX12_step_63 0 rfl ?_
          refine z_iconst (pc := 64) C dX12_step_64 (nI 5) (by decide) ?_
          refine z_cV1 (pc := 65) mX12_no C [_] dX12_step_65 lX12_170 mtX12_no (tX12_no (by first | assumption | omega)) (by assumption) rfl rfl (by decide) (Nat.le_of_ble_eq_true rfl) (Nat.zero_le _) (Nat.zero_le _) ?_
          refine z_iret (pc := 68) C dX12_step_68 rfl (Nat.zero_le _) (Nat.zero_le _) ⟨?_, ?_, rfl⟩
          · simp [aStep, sMay, *]
          · first | exact mz0 hg (by simp [aStep, sMay, *]) | exact mz1 hg (by simp [aStep, sMay, *] <;> rfl)
    · skip
      refine z_aload_n (pc := 20) C dX12_step_20 0 rfl ?_
      refine z_iconst (pc := 21) C dX12_step_21 (nI 1) (by decide) ?_
      refine z_cV1 (pc := 22) mX12_no C [_] dX12_step_22 lX12_170 mtX12_no (tX12_no (by first | assumption | omega)) (by assumption) rfl rfl (by decide) (Nat.le_of_ble_eq_true rfl) (Nat.zero_le _) (Nat.zero_le _) ?_
      refine z_iret (pc := 25) C dX12_step_25 rfl (Nat.zero_le _) (Nat.zero_le _) ⟨?_, ?_, rfl⟩
      · simp [aStep, sMay, *]
      · first | exact mz0 hg (by simp [aStep, sMay, *]) | exact mz1 hg (by simp [aStep, sMay, *] <;> rfl)

set_option maxRecDepth 20000 in
set_option maxHeartbeats 1000000 in
theorem tX12_takeN {h : ZH} {v : Nat → Int32} {R S : Nat → Nat} {b : Bool} {k m : Int32} (hM : h 1063 = some (zO 8 (mfs v))) (hA : h 1066 = some (zI 241 R)) (hB : h 1070 = some (zI 40 S)) (hR : wfR R) (hS : wfS R S) (hF : v 14 = zb b) (hb : wfB b R) (hn : aTkOk R S k m = false) : ZD mX12_take 6 [.ref 1063, .int k, .int m] h (some (.int (aTake R S k m).1)) (zup h 1063 (zO 8 (mfs (mv v (aTake R S k m).2)))) := by
  intro n
  obtain ⟨w1, w3, w4, w5, w0, wP, wM, wK, wX⟩ := id hR
  obtain ⟨wT, wL, wB⟩ := id hS
  refine z_enter (lv := [(0, _), (1, _), (2, _)]) (by decide) (Nat.le_of_ble_eq_true rfl) rfl (fun X C => ?_)
  refine z_aload_n (pc := 0) C dX12_take_0 0 rfl ?_
  refine z_cV0 (pc := 1) mX12_good C [] dX12_take_1 lX12_167 mtX12_good (tX12_good (by first | assumption | omega)) (by assumption) rfl rfl (by decide) (Nat.le_of_ble_eq_true rfl) (Nat.zero_le _) (Nat.zero_le _) ?_
  have hM1 : zup h 1063 (zO 8 (mfs (upd (upd v 0 0) 11 0))) 1063 = some (zO 8 (mfs (upd (upd v 0 0) 11 0))) := zup_same _ _ _
  have hA1 : zup h 1063 (zO 8 (mfs (upd (upd v 0 0) 11 0))) 1066 = some (zI 241 R) := (zup_ne (by decide)).trans hA
  have hB1 : zup h 1063 (zO 8 (mfs (upd (upd v 0 0) 11 0))) 1070 = some (zI 40 S) := (zup_ne (by decide)).trans hB
  have hF1 : upd (upd v 0 0) 11 0 14 = zb b := hF
  generalize hg : zup h 1063 (zO 8 (mfs (upd (upd v 0 0) 11 0))) = h1 at hM1 hA1 hB1 ⊢
  refine z_aload_n (pc := 4) C dX12_take_4 0 rfl ?_
  refine z_iload_n (pc := 5) C dX12_take_5 1 rfl ?_
  refine z_cV1 (pc := 6) mX12_isKill C [_] dX12_take_6 lX12_300 mtX12_isKill (tX12_isKill (by first | assumption | omega) (by first | assumption | omega) (by first | assumption | omega) (by first | assumption | omega)) (by assumption) rfl rfl (by decide) (Nat.le_of_ble_eq_true rfl) (Nat.zero_le _) (Nat.zero_le _) ?_
  rw [wfB_k hb k]
  first | refine z_ifeqB (pc := 9) C 20 dX12_take_9 (by decide) (fun hc9 => ?_) (fun hc9 => ?_) | refine z_ifeqN (pc := 9) C 20 dX12_take_9 (by decide) (by omega) (fun hc9 => ?_) (fun hc9 => ?_) | refine z_if_eq (pc := 9) C 20 dX12_take_9 (by decide) (fun hc9 => ?_) (fun hc9 => ?_)
  · skip
    refine z_aload_n (pc := 20) C dX12_take_20 0 rfl ?_
    refine z_iconst (pc := 21) C dX12_take_21 (nI 1) (by decide) ?_
    refine z_cV1 (pc := 22) mX12_no C [_] dX12_take_22 lX12_170 mtX12_no (tX12_no (by first | assumption | omega)) (by assumption) rfl rfl (by decide) (Nat.le_of_ble_eq_true rfl) (Nat.zero_le _) (Nat.zero_le _) ?_
    refine z_iret (pc := 25) C dX12_take_25 rfl (Nat.zero_le _) (Nat.zero_le _) ⟨?_, ?_, rfl⟩
    · simp [aTake, *]
    · first | exact mz0 hg (by simp [aTake, *]) | exact mz1 hg (by simp [aTake, *] <;> rfl)
  · skip
    refine z_aload_n (pc := 12) C dX12_take_12 0 rfl ?_
    refine z_iload_n (pc := 13) C dX12_take_13 2 rfl ?_
    refine z_cV1 (pc := 14) mX12_isMan C [_] dX12_take_14 lX12_288 mtX12_isMan (tX12_isMan (by first | assumption | omega) (by first | assumption | omega) (by first | assumption | omega) (by first | assumption | omega)) (by assumption) rfl rfl (by decide) (Nat.le_of_ble_eq_true rfl) (Nat.zero_le _) (Nat.zero_le _) ?_
    rw [wfB_m hb m]
    first | refine z_ifneB (pc := 17) C 26 dX12_take_17 (by decide) (fun hc17 => ?_) (fun hc17 => ?_) | refine z_ifneN (pc := 17) C 26 dX12_take_17 (by decide) (by omega) (fun hc17 => ?_) (fun hc17 => ?_) | refine z_if_ne (pc := 17) C 26 dX12_take_17 (by decide) (fun hc17 => ?_) (fun hc17 => ?_)
    · skip
      obtain ⟨j, hj, rfl⟩ := zlt_of (by omega) hc9
      have pj := pn_nI (j := j) (by omega)
      obtain ⟨i, hi, rfl⟩ := zlt_of (by omega) hc17
      have pi := pn_nI (j := i) (by omega)
      have e1 := wL j hj
      refine z_aload_n (pc := 26) C dX12_take_26 0 rfl ?_
      refine z_getf (pc := 27) C dX12_take_27 fX12_32 (by assumption) (by first | rfl | assumption) ?_
      refine z_bipush (pc := 30) C dX12_take_30 (nI 32) (by decide) ?_
      refine z_iload_n (pc := 32) C dX12_take_32 1 rfl ?_
      first | refine z_iaddN (pc := 33) C dX12_take_33 ?_ | refine z_iadd (pc := 33) C dX12_take_33 ?_
      first | refine z_ialdN (pc := 34) C dX12_take_34 (by assumption) (by omega) (by decide) ?_ | refine z_ialdI (pc := 34) C dX12_take_34 (by assumption) (by omega) (by decide) ?_
      refine z_iload_n (pc := 35) C dX12_take_35 2 rfl ?_
      first | refine z_icmpneN (pc := 36) C 45 dX12_take_36 (by decide) (by omega) (by omega) (fun hc36 => ?_) (fun hc36 => ?_) | refine z_icmp_ne (pc := 36) C 45 dX12_take_36 (by decide) (fun hc36 => ?_) (fun hc36 => ?_)
      · exact absurd hn (by simp [aTkOk, *])
      · skip
        refine z_aload_n (pc := 39) C dX12_take_39 0 rfl ?_
        refine z_iconst (pc := 40) C dX12_take_40 (nI 5) (by decide) ?_
        refine z_cV1 (pc := 41) mX12_no C [_] dX12_take_41 lX12_170 mtX12_no (tX12_no (by first | assumption | omega)) (by assumption) rfl rfl (by decide) (Nat.le_of_ble_eq_true rfl) (Nat.zero_le _) (Nat.zero_le _) ?_
        refine z_iret (pc := 44) C dX12_take_44 rfl (Nat.zero_le _) (Nat.zero_le _) ⟨?_, ?_, rfl⟩
        · simp [aTake, *]
        · first | exact mz0 hg (by simp [aTake, *]) | exact mz1 hg (by simp [aTake, *] <;> rfl)
    · skip
      refine z_aload_n (pc := 20) C dX12_take_20 0 rfl ?_
      refine z_iconst (pc := 21) C dX12_take_21 (nI 1) (by decide) ?_
      refine z_cV1 (pc := 22) mX12_no C [_] dX12_take_22 lX12_170 mtX12_no (tX12_no (by first | assumption | omega)) (by assumption) rfl rfl (by decide) (Nat.le_of_ble_eq_true rfl) (Nat.zero_le _) (Nat.zero_le _) ?_
      refine z_iret (pc := 25) C dX12_take_25 rfl (Nat.zero_le _) (Nat.zero_le _) ⟨?_, ?_, rfl⟩
      · simp [aTake, *]
      · first | exact mz0 hg (by simp [aTake, *]) | exact mz1 hg (by simp [aTake, *] <;> rfl)

set_option maxRecDepth 20000 in
set_option maxHeartbeats 1000000 in
theorem tX12_lightN {h : ZH} {v : Nat → Int32} {R S : Nat → Nat} {b b9 : Bool} {p : Int32} (hM : h 1063 = some (zO 8 (mfs v))) (hA : h 1066 = some (zI 241 R)) (hB : h 1070 = some (zI 40 S)) (hR : wfR R) (hS : wfS R S) (hF : v 14 = zb b) (hb : wfB b R) (hn : aLiOk R S p b9 = false) : ZD mX12_light 6 [.ref 1063, .int p, .int (zb b9)] h (some (.int (zb (aLight R S p b9).1))) (zup h 1063 (zO 8 (mfs (mv v (aLight R S p b9).2)))) := by
  intro n
  obtain ⟨w1, w3, w4, w5, w0, wP, wM, wK, wX⟩ := id hR
  obtain ⟨wT, wL, wB⟩ := id hS
  refine z_enter (lv := [(0, _), (1, _), (2, _)]) (by decide) (Nat.le_of_ble_eq_true rfl) rfl (fun X C => ?_)
  refine z_aload_n (pc := 0) C dX12_light_0 0 rfl ?_
  refine z_cV0 (pc := 1) mX12_good C [] dX12_light_1 lX12_167 mtX12_good (tX12_good (by first | assumption | omega)) (by assumption) rfl rfl (by decide) (Nat.le_of_ble_eq_true rfl) (Nat.zero_le _) (Nat.zero_le _) ?_
  have hM1 : zup h 1063 (zO 8 (mfs (upd (upd v 0 0) 11 0))) 1063 = some (zO 8 (mfs (upd (upd v 0 0) 11 0))) := zup_same _ _ _
  have hA1 : zup h 1063 (zO 8 (mfs (upd (upd v 0 0) 11 0))) 1066 = some (zI 241 R) := (zup_ne (by decide)).trans hA
  have hB1 : zup h 1063 (zO 8 (mfs (upd (upd v 0 0) 11 0))) 1070 = some (zI 40 S) := (zup_ne (by decide)).trans hB
  have hF1 : upd (upd v 0 0) 11 0 14 = zb b := hF
  generalize hg : zup h 1063 (zO 8 (mfs (upd (upd v 0 0) 11 0))) = h1 at hM1 hA1 hB1 ⊢
  refine z_aload_n (pc := 4) C dX12_light_4 0 rfl ?_
  refine z_iload_n (pc := 5) C dX12_light_5 1 rfl ?_
  refine z_cV1 (pc := 6) mX12_isPlace C [_] dX12_light_6 lX12_279 mtX12_isPlace (tX12_isPlace (by first | assumption | omega) (by first | assumption | omega) (by first | assumption | omega) (by first | assumption | omega)) (by assumption) rfl rfl (by decide) (Nat.le_of_ble_eq_true rfl) (Nat.zero_le _) (Nat.zero_le _) ?_
  rw [wfB_p hb p]
  first | refine z_ifneB (pc := 9) C 18 dX12_light_9 (by decide) (fun hc9 => ?_) (fun hc9 => ?_) | refine z_ifneN (pc := 9) C 18 dX12_light_9 (by decide) (by omega) (fun hc9 => ?_) (fun hc9 => ?_) | refine z_if_ne (pc := 9) C 18 dX12_light_9 (by decide) (fun hc9 => ?_) (fun hc9 => ?_)
  · skip
    obtain ⟨j, hj, rfl⟩ := zlt_of (by omega) hc9
    have pj := pn_nI (j := j) (by omega)
    refine z_aload_n (pc := 18) C dX12_light_18 0 rfl ?_
    refine z_getf (pc := 19) C dX12_light_19 fX12_32 (by assumption) (by first | rfl | assumption) ?_
    refine z_bipush (pc := 22) C dX12_light_22 (nI 38) (by decide) ?_
    first | refine z_ialdN (pc := 24) C dX12_light_24 (by assumption) (by omega) (by decide) ?_ | refine z_ialdI (pc := 24) C dX12_light_24 (by assumption) (by omega) (by decide) ?_
    refine z_iload_n (pc := 25) C dX12_light_25 1 rfl ?_
    refine z_cS1 (pc := 26) mX12_hasBit C [_, _] dX12_light_26 lX12_236 mtX12_hasBit (tX12_hasBit (by first | assumption | omega) (by first | assumption | omega)) rfl rfl (by decide) (Nat.le_of_ble_eq_true rfl) (Nat.zero_le _) (Nat.zero_le _) ?_
    refine z_iload_n (pc := 29) C dX12_light_29 2 rfl ?_
    refine z_icmp_ne (pc := 30) C 39 dX12_light_30 (by decide) (fun hc30 => ?_) (fun hc30 => ?_)
    · exact absurd hn (by simp [aLiOk, *]; exact fun z => hc30 (by rw [z]))
    · skip
      have e5 := zb_inj hc30
      refine z_aload_n (pc := 33) C dX12_light_33 0 rfl ?_
      refine z_iconst (pc := 34) C dX12_light_34 (nI 5) (by decide) ?_
      refine z_cV1 (pc := 35) mX12_isNot C [_] dX12_light_35 lX12_417 mtX12_isNot (tX12_isNot (by first | assumption | omega)) (by assumption) rfl rfl (by decide) (Nat.le_of_ble_eq_true rfl) (Nat.zero_le _) (Nat.zero_le _) ?_
      refine z_zret (pc := 38) C dX12_light_38 rfl (by first | exact zb_nar _ | rfl) (Nat.zero_le _) (Nat.zero_le _) ⟨?_, ?_, rfl⟩
      · simp [aLight, *]
      · exact mz1 hg (by simp [aLight, *] <;> rfl)
  · skip
    refine z_aload_n (pc := 12) C dX12_light_12 0 rfl ?_
    refine z_iconst (pc := 13) C dX12_light_13 (nI 1) (by decide) ?_
    refine z_cV1 (pc := 14) mX12_isNot C [_] dX12_light_14 lX12_417 mtX12_isNot (tX12_isNot (by first | assumption | omega)) (by assumption) rfl rfl (by decide) (Nat.le_of_ble_eq_true rfl) (Nat.zero_le _) (Nat.zero_le _) ?_
    refine z_zret (pc := 17) C dX12_light_17 rfl (by first | exact zb_nar _ | rfl) (Nat.zero_le _) (Nat.zero_le _) ⟨?_, ?_, rfl⟩
    · simp [aLight, *]
    · exact mz1 hg (by simp [aLight, *] <;> rfl)

set_option maxRecDepth 20000 in
set_option maxHeartbeats 1000000 in
theorem tX12_stepY {h : ZH} {v : Nat → Int32} {R S U : Nat → Nat} {b : Bool} {un : Nat} {T : Nat → Nat} {m p : Nat} (hM : h 1063 = some (zO 8 (mfs v))) (hA : h 1066 = some (zI 241 R)) (hB : h 1070 = some (zI 40 S)) (hR : wfR R) (hS : wfS R S) (hF : v 14 = zb b) (hb : wfB b R) (hU : h 1071 = some (zI 640 U)) (h22 : v 22 = nI un) (hu : un ≤ 16) (hT : h 1073 = some (zI 40 T)) (hm : m < R 3) (hp : p < R 1) (hy : sMay R S m p = true) : ZD mX12_step 6 [.ref 1063, .int (nI m), .int (nI p)] h (some (.int (nI (sElse R (sst S m p) S)))) (zup (zup (zup (zup (zup h 1063 (zO 8 (mfs (mv v 0)))) 1071 (zI 640 (sNote U S un))) 1063 (zO 8 (mfs (upd (mv v 0) 22 (nI (min (un + 1) 16)))))) 1073 (zI 40 (ncpy S T 0 0 40))) 1070 (zI 40 (sst S m p))) := by
  intro n
  obtain ⟨w1, w3, w4, w5, w0, wP, wM, wK, wX⟩ := id hR
  obtain ⟨wT, wL, wB⟩ := id hS
  have e1 : S (8 * m) < R 1 := wT m hm 0 (by omega)
  have e2 := wP _ e1
  have W1 := wfS_st hR hS hm hp
  have W2 : wfS R (ncpy S T 0 0 40) := wfS_congr hR hS (fun x hx => ncpy_00 _ _ (by omega))
  refine z_enter (lv := [(0, _), (1, _), (2, _)]) (by decide) (Nat.le_of_ble_eq_true rfl) rfl (fun X C => ?_)
  refine z_aload_n (pc := 0) C dX12_step_0 0 rfl ?_
  refine z_cV0 (pc := 1) mX12_good C [] dX12_step_1 lX12_167 mtX12_good (tX12_good (by first | assumption | omega)) (by assumption) rfl rfl (by decide) (Nat.le_of_ble_eq_true rfl) (Nat.zero_le _) (Nat.zero_le _) ?_
  show Zc X _ _ _ _ _ (zup h 1063 (zO 8 (mfs (mv v 0)))) _ _ _
  have hM1 : (zup h 1063 (zO 8 (mfs (mv v 0)))) 1063 = _ := zup_same _ _ _
  have hA1 : (zup h 1063 (zO 8 (mfs (mv v 0)))) 1066 = _ := (zup_ne (by decide)).trans hA
  have hB1 : (zup h 1063 (zO 8 (mfs (mv v 0)))) 1070 = _ := (zup_ne (by decide)).trans hB
  have hU1 : (zup h 1063 (zO 8 (mfs (mv v 0)))) 1071 = _ := (zup_ne (by decide)).trans hU
  have hF1 : mv v 0 14 = zb b := hF
  have h221 : mv v 0 22 = nI un := h22
  have hM2 : (zup (zup (zup h 1063 (zO 8 (mfs (mv v 0)))) 1071 (zI 640 (sNote U S un))) 1063 (zO 8 (mfs (upd (mv v 0) 22 (nI (min (un + 1) 16)))))) 1063 = _ := zup_same _ _ _
  have hA2 : (zup (zup (zup h 1063 (zO 8 (mfs (mv v 0)))) 1071 (zI 640 (sNote U S un))) 1063 (zO 8 (mfs (upd (mv v 0) 22 (nI (min (un + 1) 16)))))) 1066 = _ := (zup_ne (by decide)).trans ((zup_ne (by decide)).trans hA1)
  have hB2 : (zup (zup (zup h 1063 (zO 8 (mfs (mv v 0)))) 1071 (zI 640 (sNote U S un))) 1063 (zO 8 (mfs (upd (mv v 0) 22 (nI (min (un + 1) 16)))))) 1070 = _ := (zup_ne (by decide)).trans ((zup_ne (by decide)).trans hB1)
  have hT2 : (zup (zup (zup h 1063 (zO 8 (mfs (mv v 0)))) 1071 (zI 640 (sNote U S un))) 1063 (zO 8 (mfs (upd (mv v 0) 22 (nI (min (un + 1) 16)))))) 1073 = some (zI 40 T) := (zup_ne (by decide)).trans ((zup_ne (by decide)).trans ((zup_ne (by decide)).trans hT))
  have hM3 : (zup (zup (zup (zup h 1063 (zO 8 (mfs (mv v 0)))) 1071 (zI 640 (sNote U S un))) 1063 (zO 8 (mfs (upd (mv v 0) 22 (nI (min (un + 1) 16)))))) 1073 (zI 40 (ncpy S T 0 0 40))) 1063 = _ := (zup_ne (by decide)).trans hM2
  have hB3 : (zup (zup (zup (zup h 1063 (zO 8 (mfs (mv v 0)))) 1071 (zI 640 (sNote U S un))) 1063 (zO 8 (mfs (upd (mv v 0) 22 (nI (min (un + 1) 16)))))) 1073 (zI 40 (ncpy S T 0 0 40))) 1070 = _ := (zup_ne (by decide)).trans hB2
  generalize hg3 : (zup (zup (zup (zup h 1063 (zO 8 (mfs (mv v 0)))) 1071 (zI 640 (sNote U S un))) 1063 (zO 8 (mfs (upd (mv v 0) 22 (nI (min (un + 1) 16)))))) 1073 (zI 40 (ncpy S T 0 0 40))) = h3 at hM3 hB3
  have hA3 : h3 1066 = some (zI 241 R) := by rw [← hg3]; exact (zup_ne (by decide)).trans hA2
  have hT3 : h3 1073 = some (zI 40 (ncpy S T 0 0 40)) := by rw [← hg3]; exact zup_same _ _ _
  have hM4 : zup h3 1070 (zI 40 (sst S m p)) 1063 = _ := (zup_ne (by decide)).trans hM3
  have hA4 : zup h3 1070 (zI 40 (sst S m p)) 1066 = _ := (zup_ne (by decide)).trans hA3
  have hT4 : zup h3 1070 (zI 40 (sst S m p)) 1073 = _ := (zup_ne (by decide)).trans hT3
  have hB4 : zup h3 1070 (zI 40 (sst S m p)) 1070 = _ := zup_same _ _ _
  have hM5 : ∀ c, zup h3 1070 c 1063 = _ := fun c => (zup_ne (by decide)).trans hM3
  refine z_aload_n (pc := 4) C dX12_step_4 0 rfl ?_
  refine z_iload_n (pc := 5) C dX12_step_5 1 rfl ?_
  refine z_cV1 (pc := 6) mX12_isMan C [_] dX12_step_6 lX12_288 mtX12_isMan (tX12_isMan (by first | assumption | omega) (by first | assumption | omega) (by first | assumption | omega) (by first | assumption | omega)) (by assumption) rfl rfl (by decide) (Nat.le_of_ble_eq_true rfl) (Nat.zero_le _) (Nat.zero_le _) ?_
  rw [wfB_m hb _]
  first | refine z_ifeqB (pc := 9) C 20 dX12_step_9 (by decide) (fun hc9 => ?_) (fun hc9 => ?_) | refine z_ifeqN (pc := 9) C 20 dX12_step_9 (by decide) (by omega) (fun hc9 => ?_) (fun hc9 => ?_) | refine z_if_eq (pc := 9) C 20 dX12_step_9 (by decide) (fun hc9 => ?_) (fun hc9 => ?_)
  · rw [zlt_nI (by omega), decide_eq_true hm] at hc9; cases hc9
  · skip
    refine z_aload_n (pc := 12) C dX12_step_12 0 rfl ?_
    refine z_iload_n (pc := 13) C dX12_step_13 2 rfl ?_
    refine z_cV1 (pc := 14) mX12_isPlace C [_] dX12_step_14 lX12_279 mtX12_isPlace (tX12_isPlace (by first | assumption | omega) (by first | assumption | omega) (by first | assumption | omega) (by first | assumption | omega)) (by assumption) rfl rfl (by decide) (Nat.le_of_ble_eq_true rfl) (Nat.zero_le _) (Nat.zero_le _) ?_
    rw [wfB_p hb _]
    first | refine z_ifneB (pc := 17) C 26 dX12_step_17 (by decide) (fun hc17 => ?_) (fun hc17 => ?_) | refine z_ifneN (pc := 17) C 26 dX12_step_17 (by decide) (by omega) (fun hc17 => ?_) (fun hc17 => ?_) | refine z_if_ne (pc := 17) C 26 dX12_step_17 (by decide) (fun hc17 => ?_) (fun hc17 => ?_)
    · skip
      refine z_aload_n (pc := 26) C dX12_step_26 0 rfl ?_
      refine z_getf (pc := 27) C dX12_step_27 fX12_32 (by assumption) (by first | rfl | assumption) ?_
      refine z_bipush (pc := 30) C dX12_step_30 (nI 8) (by decide) ?_
      refine z_iload_n (pc := 32) C dX12_step_32 1 rfl ?_
      first | refine z_imulN (pc := 33) C dX12_step_33 ?_ | refine z_imul (pc := 33) C dX12_step_33 ?_
      first | refine z_ialdN (pc := 34) C dX12_step_34 (by assumption) (by omega) (by decide) ?_ | refine z_ialdI (pc := 34) C dX12_step_34 (by assumption) (by omega) (by decide) ?_
      refine z_iload_n (pc := 35) C dX12_step_35 2 rfl ?_
      first | refine z_icmpeqN (pc := 36) C 69 dX12_step_36 (by decide) (by omega) (by omega) (fun hc36 => ?_) (fun hc36 => ?_) | refine z_icmp_eq (pc := 36) C 69 dX12_step_36 (by decide) (fun hc36 => ?_) (fun hc36 => ?_)
      · skip
        refine z_aload_n (pc := 69) C dX12_step_69 0 rfl ?_
        refine z_cV0 (pc := 70) mX12_note C [] dX12_step_70 lX12_414 mtX12_note (tX12_note hM1 hB1 hU1 h221 hu) hM1 rfl rfl (by decide) (Nat.le_of_ble_eq_true rfl) (Nat.zero_le _) (Nat.zero_le _) ?_
        refine z_aload_n (pc := 73) C dX12_step_73 0 rfl ?_
        refine z_getf (pc := 74) C dX12_step_74 fX12_32 hM2 (by first | rfl | assumption) ?_
        refine z_iconst (pc := 77) C dX12_step_77 (nI 0) (by decide) ?_
        refine z_aload_n (pc := 78) C dX12_step_78 0 rfl ?_
        refine z_getf (pc := 79) C dX12_step_79 fX12_41 hM2 (by first | rfl | assumption) ?_
        refine z_iconst (pc := 82) C dX12_step_82 (nI 0) (by decide) ?_
        refine z_bipush (pc := 83) C dX12_step_83 (nI 40) (by decide) ?_
        refine z_cS0 (pc := 85) mX12_copy C [_, _, _, _, _] dX12_step_85 lX12_176 mtX12_copy (hg3 ▸ tX12_copy hB2 hT2 (by decide) (by decide) (by decide) (by decide) (by decide)) rfl rfl (by decide) (Nat.le_of_ble_eq_true rfl) (Nat.zero_le _) (Nat.zero_le _) ?_
        refine z_aload_n (pc := 88) C dX12_step_88 0 rfl ?_
        refine z_getf (pc := 89) C dX12_step_89 fX12_32 (by assumption) (by first | rfl | assumption) ?_
        refine z_iload_n (pc := 92) C dX12_step_92 1 rfl ?_
        refine z_iload_n (pc := 93) C dX12_step_93 2 rfl ?_
        refine z_cS0 (pc := 94) mX12_stepOf C [_, _, _] dX12_step_94 lX12_252 mtX12_stepOf (tX12_stepOf hB3 (by omega)) rfl rfl (by decide) (Nat.le_of_ble_eq_true rfl) (Nat.zero_le _) (Nat.zero_le _) ?_
        refine z_aload_n (pc := 97) C dX12_step_97 0 rfl ?_
        refine z_getf (pc := 98) C dX12_step_98 fX12_32 (hM5 _) (by first | rfl | assumption) ?_
        refine z_bipush (pc := 101) C dX12_step_101 (nI 39) (by decide) ?_
        refine z_dup2 (pc := 103) C dX12_step_103 rfl rfl ?_
        first | refine z_ialdN (pc := 104) C dX12_step_104 (zup_same _ _ _) (by omega) (by decide) ?_ | refine z_ialdI (pc := 104) C dX12_step_104 (zup_same _ _ _) (by omega) (by decide) ?_
        refine z_iconst (pc := 105) C dX12_step_105 (nI 1) (by decide) ?_
        first | refine z_iaddN (pc := 106) C dX12_step_106 ?_ | refine z_iadd (pc := 106) C dX12_step_106 ?_
        first | refine z_iastN (pc := 107) C dX12_step_107 (zup_same _ _ _) (by omega) (by decide) ?_ | refine z_iastI (pc := 107) C dX12_step_107 (zup_same _ _ _) (by omega) (by decide) ?_
        refine z_hp (show _ = zup h3 1070 (zI 40 (sst S m p)) from by rw [zup_zup, sgo_k (by omega) (by decide)]; rfl) ?_
        refine z_iconst (pc := 108) C dX12_step_108 (nI 0) (by decide) ?_
        refine z_istore_n (pc := 109) (lv' := [(3, _), (0, _), (1, _), (2, _)]) C dX12_step_109 (by decide) rfl ?_
        refine z_iconst (pc := 110) C dX12_step_110 (nI 0) (by decide) ?_
        refine z_istore (pc := 111) (lv' := [(4, _), (3, _), (0, _), (1, _), (2, _)]) C dX12_step_111 (by decide) rfl ?_
        refine z_sub (lv' := [(0, _), (1, _), (2, _), (3, _), (4, _)]) [2, 3, 4, 1, 0] rfl ?_
        have lp113 : ∀ (f : Nat) (k acc : Nat), (k + f = R 4 ∧ acc = sbits (fun k => decide (sstd R (sst S m p) k ≠ sstd R S k)) k) → Zc X mX12_step (zEnd X (fun r hh n' => r = (some (.int (nI (sElse R (sst S m p) S)))) ∧ hh = (zup h3 1070 (zI 40 (sst S m p))) ∧ n' = n) 0 0) 113 [(0, .ref 1063), (1, .int (nI m)), (2, .int (nI p)), (3, .int (nI acc)), (4, .int (nI k))] [] (zup h3 1070 (zI 40 (sst S m p))) n 0 0 := by
          intro f
          induction f using Nat.strongRecOn with
          | _ f ih =>
            intro k acc hk
            obtain ⟨hk, he⟩ := hk
            refine z_iload (pc := 113) C dX12_step_113 4 rfl ?_
            refine z_aload_n (pc := 115) C dX12_step_115 0 rfl ?_
            refine z_getf (pc := 116) C dX12_step_116 fX12_20 (by assumption) (by first | rfl | assumption) ?_
            refine z_iconst (pc := 119) C dX12_step_119 (nI 4) (by decide) ?_
            first | refine z_ialdN (pc := 120) C dX12_step_120 (by assumption) (by omega) (by decide) ?_ | refine z_ialdI (pc := 120) C dX12_step_120 (by assumption) (by omega) (by decide) ?_
            first | refine z_icmpgeN (pc := 121) C 164 dX12_step_121 (by decide) (by omega) (by omega) (fun hc121 => ?_) (fun hc121 => ?_) | refine z_icmp_ge (pc := 121) C 164 dX12_step_121 (by decide) (fun hc121 => ?_) (fun hc121 => ?_)
            · skip
              refine z_iload_n (pc := 164) C dX12_step_164 3 rfl ?_
              refine z_iret (pc := 165) C dX12_step_165 rfl (Nat.zero_le _) (Nat.zero_le _) ⟨?_, ?_, rfl⟩
              · obtain rfl : f = 0 := (by omega); obtain rfl : k = R 4 := (by omega); rw [he] <;> rfl
              · rfl
            · skip
              refine z_iload_n (pc := 124) C dX12_step_124 3 rfl ?_
              refine z_aload_n (pc := 125) C dX12_step_125 0 rfl ?_
              refine z_aload_n (pc := 126) C dX12_step_126 0 rfl ?_
              refine z_getf (pc := 127) C dX12_step_127 fX12_32 (by assumption) (by first | rfl | assumption) ?_
              refine z_iload (pc := 130) C dX12_step_130 4 rfl ?_
              refine z_cV1 (pc := 132) mX12_standsOf C [_, _] dX12_step_132 lX12_269 mtX12_standsOf (tX12_standsOf hM4 hA4 hB4 hR W1 (by omega)) (by assumption) rfl rfl (by decide) (Nat.le_of_ble_eq_true rfl) (Nat.zero_le _) (Nat.zero_le _) ?_
              refine z_aload_n (pc := 135) C dX12_step_135 0 rfl ?_
              refine z_aload_n (pc := 136) C dX12_step_136 0 rfl ?_
              refine z_getf (pc := 137) C dX12_step_137 fX12_41 (by assumption) (by first | rfl | assumption) ?_
              refine z_iload (pc := 140) C dX12_step_140 4 rfl ?_
              refine z_cV1 (pc := 142) mX12_standsOf C [_, _] dX12_step_142 lX12_269 mtX12_standsOf (tX12_standsOf hM4 hA4 hT4 hR W2 (by omega)) (by assumption) rfl rfl (by decide) (Nat.le_of_ble_eq_true rfl) (Nat.zero_le _) (Nat.zero_le _) ?_
              have e4 : ∀ q, sstd R (sst S m p) k = some q → q < 2147483648 := fun q hq => by have := sstd_lt hR W1 (by omega) hq; omega
              have e5 : ∀ q, sstd R (ncpy S T 0 0 40) k = some q → q < 2147483648 := fun q hq => by have := sstd_lt hR W2 (by omega) hq; omega
              have e6 : sstd R (ncpy S T 0 0 40) k = sstd R S k := sstd_congr hR hS (fun x hx => ncpy_00 _ _ (by omega)) (by omega)
              refine z_icmp_eq (pc := 145) C 155 dX12_step_145 (by decide) (fun hc145 => ?_) (fun hc145 => ?_)
              · skip
                have e7 : (fun k => decide (sstd R (sst S m p) k ≠ sstd R S k)) k = false := decide_eq_false (fun z => z ((zo_inj e4 e5 hc145).trans e6))
                refine z_iconst (pc := 155) C dX12_step_155 (nI 0) (by decide) ?_
                first | refine z_iorN (pc := 156) C dX12_step_156 ?_ | refine z_ior (pc := 156) C dX12_step_156 ?_
                refine z_istore_n (pc := 157) (lv' := [(3, _), (0, _), (1, _), (2, _), (4, _)]) C dX12_step_157 (by decide) rfl ?_
                first | refine z_iincN (pc := 158) (lv' := [(4, _), (3, _), (0, _), (1, _), (2, _)]) C 1 dX12_step_158 4 rfl (by decide) (by decide) rfl ?_ | refine z_iinc (pc := 158) (lv' := [(4, _), (3, _), (0, _), (1, _), (2, _)]) C dX12_step_158 4 rfl _ rfl (by decide) rfl ?_
                refine z_goto (pc := 161) C 113 dX12_step_161 (by decide) ?_
                refine z_sub (lv' := [(0, _), (1, _), (2, _), (3, _), (4, _)]) [2, 3, 4, 1, 0] rfl ?_
                exact ih (f - 1) (by omega) (k + 1) _ ⟨by omega, by first | exact sbits_t he e7 | exact sbits_f he e7⟩
              · skip
                have e7 : (fun k => decide (sstd R (sst S m p) k ≠ sstd R S k)) k = true := decide_eq_true (fun z => hc145 (by rw [z, e6]))
                refine z_iconst (pc := 148) C dX12_step_148 (nI 1) (by decide) ?_
                refine z_iload (pc := 149) C dX12_step_149 4 rfl ?_
                first | refine z_ishlN (pc := 151) C dX12_step_151 (by omega) ?_ | refine z_ishl (pc := 151) C dX12_step_151 ?_
                refine z_goto (pc := 152) C 156 dX12_step_152 (by decide) ?_
                first | refine z_iorN (pc := 156) C dX12_step_156 ?_ | refine z_ior (pc := 156) C dX12_step_156 ?_
                refine z_istore_n (pc := 157) (lv' := [(3, _), (0, _), (1, _), (2, _), (4, _)]) C dX12_step_157 (by decide) rfl ?_
                first | refine z_iincN (pc := 158) (lv' := [(4, _), (3, _), (0, _), (1, _), (2, _)]) C 1 dX12_step_158 4 rfl (by decide) (by decide) rfl ?_ | refine z_iinc (pc := 158) (lv' := [(4, _), (3, _), (0, _), (1, _), (2, _)]) C dX12_step_158 4 rfl _ rfl (by decide) rfl ?_
                refine z_goto (pc := 161) C 113 dX12_step_161 (by decide) ?_
                refine z_sub (lv' := [(0, _), (1, _), (2, _), (3, _), (4, _)]) [2, 3, 4, 1, 0] rfl ?_
                exact ih (f - 1) (by omega) (k + 1) _ ⟨by omega, by first | exact sbits_t he e7 | exact sbits_f he e7⟩
        (subst hg3; exact lp113 (R 4) 0 0 ⟨by omega, rfl⟩)
      · skip
        refine z_aload_n (pc := 39) C dX12_step_39 0 rfl ?_
        refine z_getf (pc := 40) C dX12_step_40 fX12_20 (by assumption) (by first | rfl | assumption) ?_
        refine z_bipush (pc := 43) C dX12_step_43 (nI 23) (by decide) ?_
        refine z_aload_n (pc := 45) C dX12_step_45 0 rfl ?_
        refine z_getf (pc := 46) C dX12_step_46 fX12_32 (by assumption) (by first | rfl | assumption) ?_
        refine z_bipush (pc := 49) C dX12_step_49 (nI 8) (by decide) ?_
        refine z_iload_n (pc := 51) C dX12_step_51 1 rfl ?_
        first | refine z_imulN (pc := 52) C dX12_step_52 ?_ | refine z_imul (pc := 52) C dX12_step_52 ?_
        first | refine z_ialdN (pc := 53) C dX12_step_53 (by assumption) (by omega) (by decide) ?_ | refine z_ialdI (pc := 53) C dX12_step_53 (by assumption) (by omega) (by decide) ?_
        first | refine z_iaddN (pc := 54) C dX12_step_54 ?_ | refine z_iadd (pc := 54) C dX12_step_54 ?_
        first | refine z_ialdN (pc := 55) C dX12_step_55 (by assumption) (by omega) (by decide) ?_ | refine z_ialdI (pc := 55) C dX12_step_55 (by assumption) (by omega) (by decide) ?_
        refine z_iload_n (pc := 56) C dX12_step_56 2 rfl ?_
        refine z_cS1 (pc := 57) mX12_hasBit C [_, _] dX12_step_57 lX12_236 mtX12_hasBit (tX12_hasBit (by first | assumption | omega) (by first | assumption | omega)) rfl rfl (by decide) (Nat.le_of_ble_eq_true rfl) (Nat.zero_le _) (Nat.zero_le _) ?_
        first | refine z_ifneB (pc := 60) C 69 dX12_step_60 (by decide) (fun hc60 => ?_) (fun hc60 => ?_) | refine z_ifneN (pc := 60) C 69 dX12_step_60 (by decide) (by omega) (fun hc60 => ?_) (fun hc60 => ?_) | refine z_if_ne (pc := 60) C 69 dX12_step_60 (by decide) (fun hc60 => ?_) (fun hc60 => ?_)
        · skip
          refine z_aload_n (pc := 69) C dX12_step_69 0 rfl ?_
          refine z_cV0 (pc := 70) mX12_note C [] dX12_step_70 lX12_414 mtX12_note (tX12_note hM1 hB1 hU1 h221 hu) hM1 rfl rfl (by decide) (Nat.le_of_ble_eq_true rfl) (Nat.zero_le _) (Nat.zero_le _) ?_
          refine z_aload_n (pc := 73) C dX12_step_73 0 rfl ?_
          refine z_getf (pc := 74) C dX12_step_74 fX12_32 hM2 (by first | rfl | assumption) ?_
          refine z_iconst (pc := 77) C dX12_step_77 (nI 0) (by decide) ?_
          refine z_aload_n (pc := 78) C dX12_step_78 0 rfl ?_
          refine z_getf (pc := 79) C dX12_step_79 fX12_41 hM2 (by first | rfl | assumption) ?_
          refine z_iconst (pc := 82) C dX12_step_82 (nI 0) (by decide) ?_
          refine z_bipush (pc := 83) C dX12_step_83 (nI 40) (by decide) ?_
          refine z_cS0 (pc := 85) mX12_copy C [_, _, _, _, _] dX12_step_85 lX12_176 mtX12_copy (hg3 ▸ tX12_copy hB2 hT2 (by decide) (by decide) (by decide) (by decide) (by decide)) rfl rfl (by decide) (Nat.le_of_ble_eq_true rfl) (Nat.zero_le _) (Nat.zero_le _) ?_
          refine z_aload_n (pc := 88) C dX12_step_88 0 rfl ?_
          refine z_getf (pc := 89) C dX12_step_89 fX12_32 (by assumption) (by first | rfl | assumption) ?_
          refine z_iload_n (pc := 92) C dX12_step_92 1 rfl ?_
          refine z_iload_n (pc := 93) C dX12_step_93 2 rfl ?_
          refine z_cS0 (pc := 94) mX12_stepOf C [_, _, _] dX12_step_94 lX12_252 mtX12_stepOf (tX12_stepOf hB3 (by omega)) rfl rfl (by decide) (Nat.le_of_ble_eq_true rfl) (Nat.zero_le _) (Nat.zero_le _) ?_
          refine z_aload_n (pc := 97) C dX12_step_97 0 rfl ?_
          refine z_getf (pc := 98) C dX12_step_98 fX12_32 (hM5 _) (by first | rfl | assumption) ?_
          refine z_bipush (pc := 101) C dX12_step_101 (nI 39) (by decide) ?_
          refine z_dup2 (pc := 103) C dX12_step_103 rfl rfl ?_
          first | refine z_ialdN (pc := 104) C dX12_step_104 (zup_same _ _ _) (by omega) (by decide) ?_ | refine z_ialdI (pc := 104) C dX12_step_104 (zup_same _ _ _) (by omega) (by decide) ?_
          refine z_iconst (pc := 105) C dX12_step_105 (nI 1) (by decide) ?_
          first | refine z_iaddN (pc := 106) C dX12_step_106 ?_ | refine z_iadd (pc := 106) C dX12_step_106 ?_
          first | refine z_iastN (pc := 107) C dX12_step_107 (zup_same _ _ _) (by omega) (by decide) ?_ | refine z_iastI (pc := 107) C dX12_step_107 (zup_same _ _ _) (by omega) (by decide) ?_
          refine z_hp (show _ = zup h3 1070 (zI 40 (sst S m p)) from by rw [zup_zup, sgo_k (by omega) (by decide)]; rfl) ?_
          refine z_iconst (pc := 108) C dX12_step_108 (nI 0) (by decide) ?_
          refine z_istore_n (pc := 109) (lv' := [(3, _), (0, _), (1, _), (2, _)]) C dX12_step_109 (by decide) rfl ?_
          refine z_iconst (pc := 110) C dX12_step_110 (nI 0) (by decide) ?_
          refine z_istore (pc := 111) (lv' := [(4, _), (3, _), (0, _), (1, _), (2, _)]) C dX12_step_111 (by decide) rfl ?_
          refine z_sub (lv' := [(0, _), (1, _), (2, _), (3, _), (4, _)]) [2, 3, 4, 1, 0] rfl ?_
          have lp113 : ∀ (f : Nat) (k acc : Nat), (k + f = R 4 ∧ acc = sbits (fun k => decide (sstd R (sst S m p) k ≠ sstd R S k)) k) → Zc X mX12_step (zEnd X (fun r hh n' => r = (some (.int (nI (sElse R (sst S m p) S)))) ∧ hh = (zup h3 1070 (zI 40 (sst S m p))) ∧ n' = n) 0 0) 113 [(0, .ref 1063), (1, .int (nI m)), (2, .int (nI p)), (3, .int (nI acc)), (4, .int (nI k))] [] (zup h3 1070 (zI 40 (sst S m p))) n 0 0 := by
            intro f
            induction f using Nat.strongRecOn with
            | _ f ih =>
              intro k acc hk
              obtain ⟨hk, he⟩ := hk
              refine z_iload (pc := 113) C dX12_step_113 4 rfl ?_
              refine z_aload_n (pc := 115) C dX12_step_115 0 rfl ?_
              refine z_getf (pc := 116) C dX12_step_116 fX12_20 (by assumption) (by first | rfl | assumption) ?_
              refine z_iconst (pc := 119) C dX12_step_119 (nI 4) (by decide) ?_
              first | refine z_ialdN (pc := 120) C dX12_step_120 (by assumption) (by omega) (by decide) ?_ | refine z_ialdI (pc := 120) C dX12_step_120 (by assumption) (by omega) (by decide) ?_
              first | refine z_icmpgeN (pc := 121) C 164 dX12_step_121 (by decide) (by omega) (by omega) (fun hc121 => ?_) (fun hc121 => ?_) | refine z_icmp_ge (pc := 121) C 164 dX12_step_121 (by decide) (fun hc121 => ?_) (fun hc121 => ?_)
              · skip
                refine z_iload_n (pc := 164) C dX12_step_164 3 rfl ?_
                refine z_iret (pc := 165) C dX12_step_165 rfl (Nat.zero_le _) (Nat.zero_le _) ⟨?_, ?_, rfl⟩
                · obtain rfl : f = 0 := (by omega); obtain rfl : k = R 4 := (by omega); rw [he] <;> rfl
                · rfl
              · skip
                refine z_iload_n (pc := 124) C dX12_step_124 3 rfl ?_
                refine z_aload_n (pc := 125) C dX12_step_125 0 rfl ?_
                refine z_aload_n (pc := 126) C dX12_step_126 0 rfl ?_
                refine z_getf (pc := 127) C dX12_step_127 fX12_32 (by assumption) (by first | rfl | assumption) ?_
                refine z_iload (pc := 130) C dX12_step_130 4 rfl ?_
                refine z_cV1 (pc := 132) mX12_standsOf C [_, _] dX12_step_132 lX12_269 mtX12_standsOf (tX12_standsOf hM4 hA4 hB4 hR W1 (by omega)) (by assumption) rfl rfl (by decide) (Nat.le_of_ble_eq_true rfl) (Nat.zero_le _) (Nat.zero_le _) ?_
                refine z_aload_n (pc := 135) C dX12_step_135 0 rfl ?_
                refine z_aload_n (pc := 136) C dX12_step_136 0 rfl ?_
                refine z_getf (pc := 137) C dX12_step_137 fX12_41 (by assumption) (by first | rfl | assumption) ?_
                refine z_iload (pc := 140) C dX12_step_140 4 rfl ?_
                refine z_cV1 (pc := 142) mX12_standsOf C [_, _] dX12_step_142 lX12_269 mtX12_standsOf (tX12_standsOf hM4 hA4 hT4 hR W2 (by omega)) (by assumption) rfl rfl (by decide) (Nat.le_of_ble_eq_true rfl) (Nat.zero_le _) (Nat.zero_le _) ?_
                have e4 : ∀ q, sstd R (sst S m p) k = some q → q < 2147483648 := fun q hq => by have := sstd_lt hR W1 (by omega) hq; omega
                have e5 : ∀ q, sstd R (ncpy S T 0 0 40) k = some q → q < 2147483648 := fun q hq => by have := sstd_lt hR W2 (by omega) hq; omega
                have e6 : sstd R (ncpy S T 0 0 40) k = sstd R S k := sstd_congr hR hS (fun x hx => ncpy_00 _ _ (by omega)) (by omega)
                refine z_icmp_eq (pc := 145) C 155 dX12_step_145 (by decide) (fun hc145 => ?_) (fun hc145 => ?_)
                · skip
                  have e7 : (fun k => decide (sstd R (sst S m p) k ≠ sstd R S k)) k = false := decide_eq_false (fun z => z ((zo_inj e4 e5 hc145).trans e6))
                  refine z_iconst (pc := 155) C dX12_step_155 (nI 0) (by decide) ?_
                  first | refine z_iorN (pc := 156) C dX12_step_156 ?_ | refine z_ior (pc := 156) C dX12_step_156 ?_
                  refine z_istore_n (pc := 157) (lv' := [(3, _), (0, _), (1, _), (2, _), (4, _)]) C dX12_step_157 (by decide) rfl ?_
                  first | refine z_iincN (pc := 158) (lv' := [(4, _), (3, _), (0, _), (1, _), (2, _)]) C 1 dX12_step_158 4 rfl (by decide) (by decide) rfl ?_ | refine z_iinc (pc := 158) (lv' := [(4, _), (3, _), (0, _), (1, _), (2, _)]) C dX12_step_158 4 rfl _ rfl (by decide) rfl ?_
                  refine z_goto (pc := 161) C 113 dX12_step_161 (by decide) ?_
                  refine z_sub (lv' := [(0, _), (1, _), (2, _), (3, _), (4, _)]) [2, 3, 4, 1, 0] rfl ?_
                  exact ih (f - 1) (by omega) (k + 1) _ ⟨by omega, by first | exact sbits_t he e7 | exact sbits_f he e7⟩
                · skip
                  have e7 : (fun k => decide (sstd R (sst S m p) k ≠ sstd R S k)) k = true := decide_eq_true (fun z => hc145 (by rw [z, e6]))
                  refine z_iconst (pc := 148) C dX12_step_148 (nI 1) (by decide) ?_
                  refine z_iload (pc := 149) C dX12_step_149 4 rfl ?_
                  first | refine z_ishlN (pc := 151) C dX12_step_151 (by omega) ?_ | refine z_ishl (pc := 151) C dX12_step_151 ?_
                  refine z_goto (pc := 152) C 156 dX12_step_152 (by decide) ?_
                  first | refine z_iorN (pc := 156) C dX12_step_156 ?_ | refine z_ior (pc := 156) C dX12_step_156 ?_
                  refine z_istore_n (pc := 157) (lv' := [(3, _), (0, _), (1, _), (2, _), (4, _)]) C dX12_step_157 (by decide) rfl ?_
                  first | refine z_iincN (pc := 158) (lv' := [(4, _), (3, _), (0, _), (1, _), (2, _)]) C 1 dX12_step_158 4 rfl (by decide) (by decide) rfl ?_ | refine z_iinc (pc := 158) (lv' := [(4, _), (3, _), (0, _), (1, _), (2, _)]) C dX12_step_158 4 rfl _ rfl (by decide) rfl ?_
                  refine z_goto (pc := 161) C 113 dX12_step_161 (by decide) ?_
                  refine z_sub (lv' := [(0, _), (1, _), (2, _), (3, _), (4, _)]) [2, 3, 4, 1, 0] rfl ?_
                  exact ih (f - 1) (by omega) (k + 1) _ ⟨by omega, by first | exact sbits_t he e7 | exact sbits_f he e7⟩
          (subst hg3; exact lp113 (R 4) 0 0 ⟨by omega, rfl⟩)
        · exact absurd hy (by simp [sMay, hc60]; exact fun z => hc36 z.symm)
    · rw [zlt_nI (by omega), decide_eq_true hp] at hc17; cases hc17

set_option maxRecDepth 20000 in
set_option maxHeartbeats 1000000 in
theorem tX12_takeY {h : ZH} {v : Nat → Int32} {R S U : Nat → Nat} {b : Bool} {un : Nat} {k m : Nat} (hM : h 1063 = some (zO 8 (mfs v))) (hA : h 1066 = some (zI 241 R)) (hB : h 1070 = some (zI 40 S)) (hR : wfR R) (hS : wfS R S) (hF : v 14 = zb b) (hb : wfB b R) (hU : h 1071 = some (zI 640 U)) (h22 : v 22 = nI un) (hu : un ≤ 16) (hk : k < R 4) (hm : m < R 3) (hy : S (32 + k) ≠ m) : ZD mX12_take 6 [.ref 1063, .int (nI k), .int (nI m)] h (some (.int (zo (sstd R (nup S (32 + k) m) k)))) (zup (zup (zup (zup h 1063 (zO 8 (mfs (mv v 0)))) 1071 (zI 640 (sNote U S un))) 1063 (zO 8 (mfs (upd (mv v 0) 22 (nI (min (un + 1) 16)))))) 1070 (zI 40 (nup S (32 + k) m))) := by
  intro n
  obtain ⟨w1, w3, w4, w5, w0, wP, wM, wK, wX⟩ := id hR
  obtain ⟨wT, wL, wB⟩ := id hS
  have e1 := wL k hk
  have W1 := wfS_tk hR hS hk hm
  refine z_enter (lv := [(0, _), (1, _), (2, _)]) (by decide) (Nat.le_of_ble_eq_true rfl) rfl (fun X C => ?_)
  refine z_aload_n (pc := 0) C dX12_take_0 0 rfl ?_
  refine z_cV0 (pc := 1) mX12_good C [] dX12_take_1 lX12_167 mtX12_good (tX12_good (by first | assumption | omega)) (by assumption) rfl rfl (by decide) (Nat.le_of_ble_eq_true rfl) (Nat.zero_le _) (Nat.zero_le _) ?_
  show Zc X _ _ _ _ _ (zup h 1063 (zO 8 (mfs (mv v 0)))) _ _ _
  have hM1 : (zup h 1063 (zO 8 (mfs (mv v 0)))) 1063 = _ := zup_same _ _ _
  have hA1 : (zup h 1063 (zO 8 (mfs (mv v 0)))) 1066 = _ := (zup_ne (by decide)).trans hA
  have hB1 : (zup h 1063 (zO 8 (mfs (mv v 0)))) 1070 = _ := (zup_ne (by decide)).trans hB
  have hU1 : (zup h 1063 (zO 8 (mfs (mv v 0)))) 1071 = _ := (zup_ne (by decide)).trans hU
  have hF1 : mv v 0 14 = zb b := hF
  have h221 : mv v 0 22 = nI un := h22
  have hM2 : (zup (zup (zup h 1063 (zO 8 (mfs (mv v 0)))) 1071 (zI 640 (sNote U S un))) 1063 (zO 8 (mfs (upd (mv v 0) 22 (nI (min (un + 1) 16)))))) 1063 = _ := zup_same _ _ _
  have hA2 : (zup (zup (zup h 1063 (zO 8 (mfs (mv v 0)))) 1071 (zI 640 (sNote U S un))) 1063 (zO 8 (mfs (upd (mv v 0) 22 (nI (min (un + 1) 16)))))) 1066 = _ := (zup_ne (by decide)).trans ((zup_ne (by decide)).trans hA1)
  have hB2 : (zup (zup (zup h 1063 (zO 8 (mfs (mv v 0)))) 1071 (zI 640 (sNote U S un))) 1063 (zO 8 (mfs (upd (mv v 0) 22 (nI (min (un + 1) 16)))))) 1070 = _ := (zup_ne (by decide)).trans ((zup_ne (by decide)).trans hB1)
  have hM4 : zup (zup (zup (zup h 1063 (zO 8 (mfs (mv v 0)))) 1071 (zI 640 (sNote U S un))) 1063 (zO 8 (mfs (upd (mv v 0) 22 (nI (min (un + 1) 16)))))) 1070 (zI 40 (nup S (32 + k) m)) 1063 = _ := (zup_ne (by decide)).trans hM2
  have hA4 : zup (zup (zup (zup h 1063 (zO 8 (mfs (mv v 0)))) 1071 (zI 640 (sNote U S un))) 1063 (zO 8 (mfs (upd (mv v 0) 22 (nI (min (un + 1) 16)))))) 1070 (zI 40 (nup S (32 + k) m)) 1066 = _ := (zup_ne (by decide)).trans hA2
  have hB4 : zup (zup (zup (zup h 1063 (zO 8 (mfs (mv v 0)))) 1071 (zI 640 (sNote U S un))) 1063 (zO 8 (mfs (upd (mv v 0) 22 (nI (min (un + 1) 16)))))) 1070 (zI 40 (nup S (32 + k) m)) 1070 = _ := zup_same _ _ _
  refine z_aload_n (pc := 4) C dX12_take_4 0 rfl ?_
  refine z_iload_n (pc := 5) C dX12_take_5 1 rfl ?_
  refine z_cV1 (pc := 6) mX12_isKill C [_] dX12_take_6 lX12_300 mtX12_isKill (tX12_isKill (by first | assumption | omega) (by first | assumption | omega) (by first | assumption | omega) (by first | assumption | omega)) (by assumption) rfl rfl (by decide) (Nat.le_of_ble_eq_true rfl) (Nat.zero_le _) (Nat.zero_le _) ?_
  rw [wfB_k hb _]
  first | refine z_ifeqB (pc := 9) C 20 dX12_take_9 (by decide) (fun hc9 => ?_) (fun hc9 => ?_) | refine z_ifeqN (pc := 9) C 20 dX12_take_9 (by decide) (by omega) (fun hc9 => ?_) (fun hc9 => ?_) | refine z_if_eq (pc := 9) C 20 dX12_take_9 (by decide) (fun hc9 => ?_) (fun hc9 => ?_)
  · rw [zlt_nI (by omega), decide_eq_true hk] at hc9; cases hc9
  · skip
    refine z_aload_n (pc := 12) C dX12_take_12 0 rfl ?_
    refine z_iload_n (pc := 13) C dX12_take_13 2 rfl ?_
    refine z_cV1 (pc := 14) mX12_isMan C [_] dX12_take_14 lX12_288 mtX12_isMan (tX12_isMan (by first | assumption | omega) (by first | assumption | omega) (by first | assumption | omega) (by first | assumption | omega)) (by assumption) rfl rfl (by decide) (Nat.le_of_ble_eq_true rfl) (Nat.zero_le _) (Nat.zero_le _) ?_
    rw [wfB_m hb _]
    first | refine z_ifneB (pc := 17) C 26 dX12_take_17 (by decide) (fun hc17 => ?_) (fun hc17 => ?_) | refine z_ifneN (pc := 17) C 26 dX12_take_17 (by decide) (by omega) (fun hc17 => ?_) (fun hc17 => ?_) | refine z_if_ne (pc := 17) C 26 dX12_take_17 (by decide) (fun hc17 => ?_) (fun hc17 => ?_)
    · skip
      refine z_aload_n (pc := 26) C dX12_take_26 0 rfl ?_
      refine z_getf (pc := 27) C dX12_take_27 fX12_32 (by assumption) (by first | rfl | assumption) ?_
      refine z_bipush (pc := 30) C dX12_take_30 (nI 32) (by decide) ?_
      refine z_iload_n (pc := 32) C dX12_take_32 1 rfl ?_
      first | refine z_iaddN (pc := 33) C dX12_take_33 ?_ | refine z_iadd (pc := 33) C dX12_take_33 ?_
      first | refine z_ialdN (pc := 34) C dX12_take_34 (by assumption) (by omega) (by decide) ?_ | refine z_ialdI (pc := 34) C dX12_take_34 (by assumption) (by omega) (by decide) ?_
      refine z_iload_n (pc := 35) C dX12_take_35 2 rfl ?_
      first | refine z_icmpneN (pc := 36) C 45 dX12_take_36 (by decide) (by omega) (by omega) (fun hc36 => ?_) (fun hc36 => ?_) | refine z_icmp_ne (pc := 36) C 45 dX12_take_36 (by decide) (fun hc36 => ?_) (fun hc36 => ?_)
      · skip
        refine z_aload_n (pc := 45) C dX12_take_45 0 rfl ?_
        refine z_cV0 (pc := 46) mX12_note C [] dX12_take_46 lX12_414 mtX12_note (tX12_note hM1 hB1 hU1 h221 hu) hM1 rfl rfl (by decide) (Nat.le_of_ble_eq_true rfl) (Nat.zero_le _) (Nat.zero_le _) ?_
        refine z_aload_n (pc := 49) C dX12_take_49 0 rfl ?_
        refine z_getf (pc := 50) C dX12_take_50 fX12_32 (by assumption) (by first | rfl | assumption) ?_
        refine z_bipush (pc := 53) C dX12_take_53 (nI 32) (by decide) ?_
        refine z_iload_n (pc := 55) C dX12_take_55 1 rfl ?_
        first | refine z_iaddN (pc := 56) C dX12_take_56 ?_ | refine z_iadd (pc := 56) C dX12_take_56 ?_
        refine z_iload_n (pc := 57) C dX12_take_57 2 rfl ?_
        first | refine z_iastN (pc := 58) C dX12_take_58 (by assumption) (by omega) (by decide) ?_ | refine z_iastI (pc := 58) C dX12_take_58 (by assumption) (by omega) (by decide) ?_
        refine z_aload_n (pc := 59) C dX12_take_59 0 rfl ?_
        refine z_aload_n (pc := 60) C dX12_take_60 0 rfl ?_
        refine z_getf (pc := 61) C dX12_take_61 fX12_32 (by assumption) (by first | rfl | assumption) ?_
        refine z_iload_n (pc := 64) C dX12_take_64 1 rfl ?_
        refine z_cV1 (pc := 65) mX12_standsOf C [_, _] dX12_take_65 lX12_269 mtX12_standsOf (tX12_standsOf hM4 hA4 hB4 hR W1 hk) (by assumption) rfl rfl (by decide) (Nat.le_of_ble_eq_true rfl) (Nat.zero_le _) (Nat.zero_le _) ?_
        refine z_iret (pc := 68) C dX12_take_68 rfl (Nat.zero_le _) (Nat.zero_le _) ⟨?_, ?_, rfl⟩
        · first | rfl | simp_all
        · rfl
      · exact absurd hc36 hy
    · rw [zlt_nI (by omega), decide_eq_true hm] at hc17; cases hc17

set_option maxRecDepth 20000 in
set_option maxHeartbeats 1000000 in
theorem tX12_lightY {h : ZH} {v : Nat → Int32} {R S U : Nat → Nat} {b : Bool} {un : Nat} {b9 : Bool} {p : Nat} (hM : h 1063 = some (zO 8 (mfs v))) (hA : h 1066 = some (zI 241 R)) (hB : h 1070 = some (zI 40 S)) (hR : wfR R) (hS : wfS R S) (hF : v 14 = zb b) (hb : wfB b R) (hU : h 1071 = some (zI 640 U)) (h22 : v 22 = nI un) (hu : un ≤ 16) (hp : p < R 1) (hy : (S 38).testBit p ≠ b9) : ZD mX12_light 6 [.ref 1063, .int (nI p), .int (zb b9)] h (some (.int (zb true))) (zup (zup (zup (zup h 1063 (zO 8 (mfs (mv v 0)))) 1071 (zI 640 (sNote U S un))) 1063 (zO 8 (mfs (upd (mv v 0) 22 (nI (min (un + 1) 16)))))) 1070 (zI 40 (nup S 38 (S 38 ^^^ 1 <<< p)))) := by
  intro n
  obtain ⟨w1, w3, w4, w5, w0, wP, wM, wK, wX⟩ := id hR
  obtain ⟨wT, wL, wB⟩ := id hS
  refine z_enter (lv := [(0, _), (1, _), (2, _)]) (by decide) (Nat.le_of_ble_eq_true rfl) rfl (fun X C => ?_)
  refine z_aload_n (pc := 0) C dX12_light_0 0 rfl ?_
  refine z_cV0 (pc := 1) mX12_good C [] dX12_light_1 lX12_167 mtX12_good (tX12_good (by first | assumption | omega)) (by assumption) rfl rfl (by decide) (Nat.le_of_ble_eq_true rfl) (Nat.zero_le _) (Nat.zero_le _) ?_
  show Zc X _ _ _ _ _ (zup h 1063 (zO 8 (mfs (mv v 0)))) _ _ _
  have hM1 : (zup h 1063 (zO 8 (mfs (mv v 0)))) 1063 = _ := zup_same _ _ _
  have hA1 : (zup h 1063 (zO 8 (mfs (mv v 0)))) 1066 = _ := (zup_ne (by decide)).trans hA
  have hB1 : (zup h 1063 (zO 8 (mfs (mv v 0)))) 1070 = _ := (zup_ne (by decide)).trans hB
  have hU1 : (zup h 1063 (zO 8 (mfs (mv v 0)))) 1071 = _ := (zup_ne (by decide)).trans hU
  have hF1 : mv v 0 14 = zb b := hF
  have h221 : mv v 0 22 = nI un := h22
  have hM2 : (zup (zup (zup h 1063 (zO 8 (mfs (mv v 0)))) 1071 (zI 640 (sNote U S un))) 1063 (zO 8 (mfs (upd (mv v 0) 22 (nI (min (un + 1) 16)))))) 1063 = _ := zup_same _ _ _
  have hA2 : (zup (zup (zup h 1063 (zO 8 (mfs (mv v 0)))) 1071 (zI 640 (sNote U S un))) 1063 (zO 8 (mfs (upd (mv v 0) 22 (nI (min (un + 1) 16)))))) 1066 = _ := (zup_ne (by decide)).trans ((zup_ne (by decide)).trans hA1)
  have hB2 : (zup (zup (zup h 1063 (zO 8 (mfs (mv v 0)))) 1071 (zI 640 (sNote U S un))) 1063 (zO 8 (mfs (upd (mv v 0) 22 (nI (min (un + 1) 16)))))) 1070 = _ := (zup_ne (by decide)).trans ((zup_ne (by decide)).trans hB1)
  refine z_aload_n (pc := 4) C dX12_light_4 0 rfl ?_
  refine z_iload_n (pc := 5) C dX12_light_5 1 rfl ?_
  refine z_cV1 (pc := 6) mX12_isPlace C [_] dX12_light_6 lX12_279 mtX12_isPlace (tX12_isPlace (by first | assumption | omega) (by first | assumption | omega) (by first | assumption | omega) (by first | assumption | omega)) (by assumption) rfl rfl (by decide) (Nat.le_of_ble_eq_true rfl) (Nat.zero_le _) (Nat.zero_le _) ?_
  rw [wfB_p hb _]
  first | refine z_ifneB (pc := 9) C 18 dX12_light_9 (by decide) (fun hc9 => ?_) (fun hc9 => ?_) | refine z_ifneN (pc := 9) C 18 dX12_light_9 (by decide) (by omega) (fun hc9 => ?_) (fun hc9 => ?_) | refine z_if_ne (pc := 9) C 18 dX12_light_9 (by decide) (fun hc9 => ?_) (fun hc9 => ?_)
  · skip
    refine z_aload_n (pc := 18) C dX12_light_18 0 rfl ?_
    refine z_getf (pc := 19) C dX12_light_19 fX12_32 (by assumption) (by first | rfl | assumption) ?_
    refine z_bipush (pc := 22) C dX12_light_22 (nI 38) (by decide) ?_
    first | refine z_ialdN (pc := 24) C dX12_light_24 (by assumption) (by omega) (by decide) ?_ | refine z_ialdI (pc := 24) C dX12_light_24 (by assumption) (by omega) (by decide) ?_
    refine z_iload_n (pc := 25) C dX12_light_25 1 rfl ?_
    refine z_cS1 (pc := 26) mX12_hasBit C [_, _] dX12_light_26 lX12_236 mtX12_hasBit (tX12_hasBit (by first | assumption | omega) (by first | assumption | omega)) rfl rfl (by decide) (Nat.le_of_ble_eq_true rfl) (Nat.zero_le _) (Nat.zero_le _) ?_
    refine z_iload_n (pc := 29) C dX12_light_29 2 rfl ?_
    refine z_icmp_ne (pc := 30) C 39 dX12_light_30 (by decide) (fun hc30 => ?_) (fun hc30 => ?_)
    · skip
      refine z_aload_n (pc := 39) C dX12_light_39 0 rfl ?_
      refine z_cV0 (pc := 40) mX12_note C [] dX12_light_40 lX12_414 mtX12_note (tX12_note hM1 hB1 hU1 h221 hu) hM1 rfl rfl (by decide) (Nat.le_of_ble_eq_true rfl) (Nat.zero_le _) (Nat.zero_le _) ?_
      refine z_aload_n (pc := 43) C dX12_light_43 0 rfl ?_
      refine z_getf (pc := 44) C dX12_light_44 fX12_32 (by assumption) (by first | rfl | assumption) ?_
      refine z_bipush (pc := 47) C dX12_light_47 (nI 38) (by decide) ?_
      refine z_dup2 (pc := 49) C dX12_light_49 rfl rfl ?_
      first | refine z_ialdN (pc := 50) C dX12_light_50 (by assumption) (by omega) (by decide) ?_ | refine z_ialdI (pc := 50) C dX12_light_50 (by assumption) (by omega) (by decide) ?_
      refine z_iconst (pc := 51) C dX12_light_51 (nI 1) (by decide) ?_
      refine z_iload_n (pc := 52) C dX12_light_52 1 rfl ?_
      first | refine z_ishlN (pc := 53) C dX12_light_53 (by omega) ?_ | refine z_ishl (pc := 53) C dX12_light_53 ?_
      first | refine z_ixorN (pc := 54) C dX12_light_54 ?_ | refine z_ixor (pc := 54) C dX12_light_54 ?_
      first | refine z_iastN (pc := 55) C dX12_light_55 (by assumption) (by omega) (by decide) ?_ | refine z_iastI (pc := 55) C dX12_light_55 (by assumption) (by omega) (by decide) ?_
      refine z_iconst (pc := 56) C dX12_light_56 (zb true) (by decide) ?_
      refine z_zret (pc := 57) C dX12_light_57 rfl (by first | exact zb_nar _ | rfl) (Nat.zero_le _) (Nat.zero_le _) ⟨?_, ?_, rfl⟩
      · first | rfl | simp_all
      · rfl
    · exact absurd (zb_inj hc30) hy
  · rw [zlt_nI (by omega), decide_eq_true hp] at hc9; cases hc9

set_option maxRecDepth 20000 in
set_option maxHeartbeats 1000000 in
theorem tX12_undoN {h : ZH} {v : Nat → Int32} (hM : h 1063 = some (zO 8 (mfs v))) (h22 : v 22 = nI 0) : ZD mX12_undo 6 [.ref 1063] h (some (.int (zb false))) (zup h 1063 (zO 8 (mfs (mv v 6)))) := by
  intro n
  refine z_enter (lv := [(0, _)]) (by decide) (Nat.le_of_ble_eq_true rfl) rfl (fun X C => ?_)
  refine z_aload_n (pc := 0) C dX12_undo_0 0 rfl ?_
  refine z_cV0 (pc := 1) mX12_good C [] dX12_undo_1 lX12_167 mtX12_good (tX12_good (by first | assumption | omega)) (by assumption) rfl rfl (by decide) (Nat.le_of_ble_eq_true rfl) (Nat.zero_le _) (Nat.zero_le _) ?_
  show Zc X _ _ _ _ _ (zup h 1063 (zO 8 (mfs (mv v 0)))) _ _ _
  have hM1 : (zup h 1063 (zO 8 (mfs (mv v 0)))) 1063 = _ := zup_same _ _ _
  refine z_aload_n (pc := 4) C dX12_undo_4 0 rfl ?_
  refine z_getf (pc := 5) C dX12_undo_5 fX12_183 (by assumption) (by first | rfl | assumption) ?_
  rw [show mv v 0 22 = nI 0 from h22]
  first | refine z_ifneB (pc := 8) C 18 dX12_undo_8 (by decide) (fun hc8 => ?_) (fun hc8 => ?_) | refine z_ifneN (pc := 8) C 18 dX12_undo_8 (by decide) (by omega) (fun hc8 => ?_) (fun hc8 => ?_) | refine z_if_ne (pc := 8) C 18 dX12_undo_8 (by decide) (fun hc8 => ?_) (fun hc8 => ?_)
  · exact absurd hc8 (by decide)
  · skip
    refine z_aload_n (pc := 11) C dX12_undo_11 0 rfl ?_
    refine z_bipush (pc := 12) C dX12_undo_12 (nI 6) (by decide) ?_
    refine z_cV1 (pc := 14) mX12_isNot C [_] dX12_undo_14 lX12_417 mtX12_isNot (tX12_isNot (by first | assumption | omega)) (by assumption) rfl rfl (by decide) (Nat.le_of_ble_eq_true rfl) (Nat.zero_le _) (Nat.zero_le _) ?_
    refine z_zret (pc := 17) C dX12_undo_17 rfl (by first | exact zb_nar _ | rfl) (Nat.zero_le _) (Nat.zero_le _) ⟨?_, ?_, rfl⟩
    · first | rfl | simp_all
    · rw [zup_zup]; unfold mv; rw [upd_upd]; rfl

set_option maxRecDepth 20000 in
set_option maxHeartbeats 1000000 in
theorem tX12_undoY {h : ZH} {v : Nat → Int32} {S U : Nat → Nat} {un : Nat} (hM : h 1063 = some (zO 8 (mfs v))) (hB : h 1070 = some (zI 40 S)) (hU : h 1071 = some (zI 640 U)) (h22 : v 22 = nI un) (hu : 0 < un ∧ un ≤ 16) : ZD mX12_undo 6 [.ref 1063] h (some (.int (zb true))) (zup (zup h 1063 (zO 8 (mfs (upd (mv v 0) 22 (nI (un - 1)))))) 1070 (zI 40 (ncpy U S (40 * (un - 1)) 0 40))) := by
  intro n
  refine z_enter (lv := [(0, _)]) (by decide) (Nat.le_of_ble_eq_true rfl) rfl (fun X C => ?_)
  refine z_aload_n (pc := 0) C dX12_undo_0 0 rfl ?_
  refine z_cV0 (pc := 1) mX12_good C [] dX12_undo_1 lX12_167 mtX12_good (tX12_good (by first | assumption | omega)) (by assumption) rfl rfl (by decide) (Nat.le_of_ble_eq_true rfl) (Nat.zero_le _) (Nat.zero_le _) ?_
  show Zc X _ _ _ _ _ (zup h 1063 (zO 8 (mfs (mv v 0)))) _ _ _
  have hM1 : (zup h 1063 (zO 8 (mfs (mv v 0)))) 1063 = _ := zup_same _ _ _
  have h221 : mv v 0 22 = nI un := h22
  refine z_aload_n (pc := 4) C dX12_undo_4 0 rfl ?_
  refine z_getf (pc := 5) C dX12_undo_5 fX12_183 (by assumption) (by first | rfl | assumption) ?_
  rw [h221]
  first | refine z_ifneB (pc := 8) C 18 dX12_undo_8 (by decide) (fun hc8 => ?_) (fun hc8 => ?_) | refine z_ifneN (pc := 8) C 18 dX12_undo_8 (by decide) (by omega) (fun hc8 => ?_) (fun hc8 => ?_) | refine z_if_ne (pc := 8) C 18 dX12_undo_8 (by decide) (fun hc8 => ?_) (fun hc8 => ?_)
  · skip
    refine z_aload_n (pc := 18) C dX12_undo_18 0 rfl ?_
    refine z_dup (pc := 19) C dX12_undo_19 rfl ?_
    refine z_getf (pc := 20) C dX12_undo_20 fX12_183 (by assumption) (by first | rfl | assumption) ?_
    rw [h221]
    refine z_iconst (pc := 23) C dX12_undo_23 (nI 1) (by decide) ?_
    first | refine z_isubN (pc := 24) C dX12_undo_24 (by omega) ?_ | refine z_isub (pc := 24) C dX12_undo_24 ?_
    refine z_putf (pc := 25) (fs' := mfs (upd _ 22 _)) C dX12_undo_25 gX12_183 (by assumption) (fun _ => ⟨rfl, rfl⟩) (by exact Nat.le_of_ble_eq_true rfl) (mfs_set _ 22 _ (by decide)) ?_
    rw [zup_zup]
    have hM2 : zup h 1063 (zO 8 (mfs (upd (mv v 0) 22 (nI (un - 1))))) 1063 = _ := zup_same _ _ _
    refine z_aload_n (pc := 28) C dX12_undo_28 0 rfl ?_
    refine z_getf (pc := 29) C dX12_undo_29 fX12_35 (by assumption) (by first | rfl | assumption) ?_
    refine z_bipush (pc := 32) C dX12_undo_32 (nI 40) (by decide) ?_
    refine z_aload_n (pc := 34) C dX12_undo_34 0 rfl ?_
    refine z_getf (pc := 35) C dX12_undo_35 fX12_183 (by assumption) (by first | rfl | assumption) ?_
    rw [show upd (mv v 0) 22 (nI (un - 1)) 22 = nI (un - 1) from rfl]
    first | refine z_imulN (pc := 38) C dX12_undo_38 ?_ | refine z_imul (pc := 38) C dX12_undo_38 ?_
    refine z_aload_n (pc := 39) C dX12_undo_39 0 rfl ?_
    refine z_getf (pc := 40) C dX12_undo_40 fX12_32 (by assumption) (by first | rfl | assumption) ?_
    refine z_iconst (pc := 43) C dX12_undo_43 (nI 0) (by decide) ?_
    refine z_bipush (pc := 44) C dX12_undo_44 (nI 40) (by decide) ?_
    refine z_cS0 (pc := 46) mX12_copy C [_, _, _, _, _] dX12_undo_46 lX12_176 mtX12_copy (tX12_copy ((zup_ne (by decide)).trans hU) ((zup_ne (by decide)).trans hB) (by decide) (by omega) (by decide) (by decide) (by decide)) rfl rfl (by decide) (Nat.le_of_ble_eq_true rfl) (Nat.zero_le _) (Nat.zero_le _) ?_
    refine z_iconst (pc := 49) C dX12_undo_49 (zb true) (by decide) ?_
    refine z_zret (pc := 50) C dX12_undo_50 rfl (by first | exact zb_nar _ | rfl) (Nat.zero_le _) (Nat.zero_le _) ⟨?_, ?_, rfl⟩
    · first | rfl | simp_all
    · rfl
  · omega

set_option maxRecDepth 20000 in
set_option maxHeartbeats 1000000 in
theorem tX12_imageN {h : ZH} {v : Nat → Int32} {R : Nat → Nat} {b : Bool} {c : Nat} (hM : h 1063 = some (zO 8 (mfs v))) (hF : v 14 = zb b) (hb : wfB b R) (h23 : v 23 = nI c) (hc : c ≤ 3) (hn : ¬ (0 < R 1 ∧ c < 3)) : ZD mX12_image 6 [.ref 1063] h (some (.int (-1))) (zup h 1063 (zO 8 (mfs (mv v (if 0 < R 1 then 3 else 1))))) := by
  intro n
  refine z_enter (lv := [(0, _)]) (by decide) (Nat.le_of_ble_eq_true rfl) rfl (fun X C => ?_)
  refine z_aload_n (pc := 0) C dX12_image_0 0 rfl ?_
  refine z_cV0 (pc := 1) mX12_good C [] dX12_image_1 lX12_167 mtX12_good (tX12_good (by first | assumption | omega)) (by assumption) rfl rfl (by decide) (Nat.le_of_ble_eq_true rfl) (Nat.zero_le _) (Nat.zero_le _) ?_
  show Zc X _ _ _ _ _ (zup h 1063 (zO 8 (mfs (mv v 0)))) _ _ _
  have hM1 : (zup h 1063 (zO 8 (mfs (mv v 0)))) 1063 = _ := zup_same _ _ _
  refine z_aload_n (pc := 4) C dX12_image_4 0 rfl ?_
  refine z_getf (pc := 5) C dX12_image_5 fX12_180 (by assumption) (by first | rfl | assumption) ?_
  rw [show mv v 0 14 = zb b from hF, hb.1]
  first | refine z_ifneB (pc := 8) C 17 dX12_image_8 (by decide) (fun hc8 => ?_) (fun hc8 => ?_) | refine z_ifneN (pc := 8) C 17 dX12_image_8 (by decide) (by omega) (fun hc8 => ?_) (fun hc8 => ?_) | refine z_if_ne (pc := 8) C 17 dX12_image_8 (by decide) (fun hc8 => ?_) (fun hc8 => ?_)
  · skip
    have e0 : 0 < R 1 := of_decide_eq_true hc8
    refine z_aload_n (pc := 17) C dX12_image_17 0 rfl ?_
    refine z_getf (pc := 18) C dX12_image_18 fX12_186 (by assumption) (by first | rfl | assumption) ?_
    rw [show mv v 0 23 = nI c from h23]
    refine z_iconst (pc := 21) C dX12_image_21 (nI 3) (by decide) ?_
    first | refine z_icmpneN (pc := 22) C 31 dX12_image_22 (by decide) (by omega) (by omega) (fun hc22 => ?_) (fun hc22 => ?_) | refine z_icmp_ne (pc := 22) C 31 dX12_image_22 (by decide) (fun hc22 => ?_) (fun hc22 => ?_)
    · exact absurd ⟨e0, by omega⟩ hn
    · skip
      refine z_aload_n (pc := 25) C dX12_image_25 0 rfl ?_
      refine z_iconst (pc := 26) C dX12_image_26 (nI 3) (by decide) ?_
      refine z_cV1 (pc := 27) mX12_no C [_] dX12_image_27 lX12_170 mtX12_no (tX12_no (by first | assumption | omega)) (by assumption) rfl rfl (by decide) (Nat.le_of_ble_eq_true rfl) (Nat.zero_le _) (Nat.zero_le _) ?_
      refine z_iret (pc := 30) C dX12_image_30 rfl (Nat.zero_le _) (Nat.zero_le _) ⟨?_, ?_, rfl⟩
      · first | rfl | simp_all
      · rw [zup_zup]; simp only [e0, if_true, if_false]; unfold mv; rw [upd_upd]; rfl
  · skip
    have e0 : ¬ 0 < R 1 := of_decide_eq_false hc8
    refine z_aload_n (pc := 11) C dX12_image_11 0 rfl ?_
    refine z_iconst (pc := 12) C dX12_image_12 (nI 1) (by decide) ?_
    refine z_cV1 (pc := 13) mX12_no C [_] dX12_image_13 lX12_170 mtX12_no (tX12_no (by first | assumption | omega)) (by assumption) rfl rfl (by decide) (Nat.le_of_ble_eq_true rfl) (Nat.zero_le _) (Nat.zero_le _) ?_
    refine z_iret (pc := 16) C dX12_image_16 rfl (Nat.zero_le _) (Nat.zero_le _) ⟨?_, ?_, rfl⟩
    · first | rfl | simp_all
    · rw [zup_zup]; simp only [e0, if_true, if_false]; unfold mv; rw [upd_upd]; rfl

set_option maxRecDepth 20000 in
set_option maxHeartbeats 1000000 in
theorem tX12_imageY {h : ZH} {v : Nat → Int32} {R S I : Nat → Nat} {b : Bool} {c : Nat} (hM : h 1063 = some (zO 8 (mfs v))) (hB : h 1070 = some (zI 40 S)) (hF : v 14 = zb b) (hb : wfB b R) (hKp : h 1072 = some (zI 120 I)) (h23 : v 23 = nI c) (h0 : 0 < R 1) (hc : c < 3) : ZD mX12_image 6 [.ref 1063] h (some (.int (nI c))) (zup (zup h 1072 (zI 120 (ncpy S I 0 (40 * c) 40))) 1063 (zO 8 (mfs (upd (mv v 0) 23 (nI (c + 1)))))) := by
  intro n
  refine z_enter (lv := [(0, _)]) (by decide) (Nat.le_of_ble_eq_true rfl) rfl (fun X C => ?_)
  refine z_aload_n (pc := 0) C dX12_image_0 0 rfl ?_
  refine z_cV0 (pc := 1) mX12_good C [] dX12_image_1 lX12_167 mtX12_good (tX12_good (by first | assumption | omega)) (by assumption) rfl rfl (by decide) (Nat.le_of_ble_eq_true rfl) (Nat.zero_le _) (Nat.zero_le _) ?_
  show Zc X _ _ _ _ _ (zup h 1063 (zO 8 (mfs (mv v 0)))) _ _ _
  have hM1 : (zup h 1063 (zO 8 (mfs (mv v 0)))) 1063 = _ := zup_same _ _ _
  have h231 : mv v 0 23 = nI c := h23
  refine z_aload_n (pc := 4) C dX12_image_4 0 rfl ?_
  refine z_getf (pc := 5) C dX12_image_5 fX12_180 (by assumption) (by first | rfl | assumption) ?_
  rw [show mv v 0 14 = zb b from hF, hb.1]
  first | refine z_ifneB (pc := 8) C 17 dX12_image_8 (by decide) (fun hc8 => ?_) (fun hc8 => ?_) | refine z_ifneN (pc := 8) C 17 dX12_image_8 (by decide) (by omega) (fun hc8 => ?_) (fun hc8 => ?_) | refine z_if_ne (pc := 8) C 17 dX12_image_8 (by decide) (fun hc8 => ?_) (fun hc8 => ?_)
  · skip
    refine z_aload_n (pc := 17) C dX12_image_17 0 rfl ?_
    refine z_getf (pc := 18) C dX12_image_18 fX12_186 (by assumption) (by first | rfl | assumption) ?_
    rw [h231]
    refine z_iconst (pc := 21) C dX12_image_21 (nI 3) (by decide) ?_
    first | refine z_icmpneN (pc := 22) C 31 dX12_image_22 (by decide) (by omega) (by omega) (fun hc22 => ?_) (fun hc22 => ?_) | refine z_icmp_ne (pc := 22) C 31 dX12_image_22 (by decide) (fun hc22 => ?_) (fun hc22 => ?_)
    · skip
      refine z_aload_n (pc := 31) C dX12_image_31 0 rfl ?_
      refine z_getf (pc := 32) C dX12_image_32 fX12_32 (by assumption) (by first | rfl | assumption) ?_
      refine z_iconst (pc := 35) C dX12_image_35 (nI 0) (by decide) ?_
      refine z_aload_n (pc := 36) C dX12_image_36 0 rfl ?_
      refine z_getf (pc := 37) C dX12_image_37 fX12_38 (by assumption) (by first | rfl | assumption) ?_
      refine z_bipush (pc := 40) C dX12_image_40 (nI 40) (by decide) ?_
      refine z_aload_n (pc := 42) C dX12_image_42 0 rfl ?_
      refine z_getf (pc := 43) C dX12_image_43 fX12_186 (by assumption) (by first | rfl | assumption) ?_
      rw [h231]
      first | refine z_imulN (pc := 46) C dX12_image_46 ?_ | refine z_imul (pc := 46) C dX12_image_46 ?_
      refine z_bipush (pc := 47) C dX12_image_47 (nI 40) (by decide) ?_
      refine z_cS0 (pc := 49) mX12_copy C [_, _, _, _, _] dX12_image_49 lX12_176 mtX12_copy (tX12_copy ((zup_ne (by decide)).trans hB) ((zup_ne (by decide)).trans hKp) (by decide) (by decide) (by omega) (by decide) (by decide)) rfl rfl (by decide) (Nat.le_of_ble_eq_true rfl) (Nat.zero_le _) (Nat.zero_le _) ?_
      refine z_aload_n (pc := 52) C dX12_image_52 0 rfl ?_
      refine z_dup (pc := 53) C dX12_image_53 rfl ?_
      refine z_getf (pc := 54) C dX12_image_54 fX12_186 ((zup_ne (by decide)).trans hM1) (by first | rfl | assumption) ?_
      rw [h231]
      refine z_iconst (pc := 57) C dX12_image_57 (nI 1) (by decide) ?_
      first | refine z_iaddN (pc := 58) C dX12_image_58 ?_ | refine z_iadd (pc := 58) C dX12_image_58 ?_
      refine z_putf (pc := 59) (fs' := mfs (upd _ 23 _)) C dX12_image_59 gX12_186 ((zup_ne (by decide)).trans hM1) (fun _ => ⟨rfl, rfl⟩) (by exact Nat.le_of_ble_eq_true rfl) (mfs_set _ 23 _ (by decide)) ?_
      refine z_aload_n (pc := 62) C dX12_image_62 0 rfl ?_
      refine z_getf (pc := 63) C dX12_image_63 fX12_186 (zup_same _ _ _) (by first | rfl | assumption) ?_
      rw [show upd (mv v 0) 23 (nI (c + 1)) 23 = nI (c + 1) from rfl]
      refine z_iconst (pc := 66) C dX12_image_66 (nI 1) (by decide) ?_
      first | refine z_isubN (pc := 67) C dX12_image_67 (by omega) ?_ | refine z_isub (pc := 67) C dX12_image_67 ?_
      refine z_iret (pc := 68) C dX12_image_68 rfl (Nat.zero_le _) (Nat.zero_le _) ⟨?_, ?_, rfl⟩
      · rfl
      · rw [zup_comm h _ _ (show 1063 ≠ 1072 by decide), zup_zup]
    · omega
  · exact absurd h0 (of_decide_eq_false hc8)

set_option maxRecDepth 20000 in
set_option maxHeartbeats 1000000 in
theorem tX12_backN {h : ZH} {v : Nat → Int32} {c : Nat} {w : Int32} (hM : h 1063 = some (zO 8 (mfs v))) (h23 : v 23 = nI c) (hc : c ≤ 3) (hn : zlt w c = false) : ZD mX12_back 6 [.ref 1063, .int w] h (some (.int (zb false))) (zup h 1063 (zO 8 (mfs (mv v 1)))) := by
  intro n
  refine z_enter (lv := [(0, _), (1, _)]) (by decide) (Nat.le_of_ble_eq_true rfl) rfl (fun X C => ?_)
  refine z_aload_n (pc := 0) C dX12_back_0 0 rfl ?_
  refine z_cV0 (pc := 1) mX12_good C [] dX12_back_1 lX12_167 mtX12_good (tX12_good (by first | assumption | omega)) (by assumption) rfl rfl (by decide) (Nat.le_of_ble_eq_true rfl) (Nat.zero_le _) (Nat.zero_le _) ?_
  show Zc X _ _ _ _ _ (zup h 1063 (zO 8 (mfs (mv v 0)))) _ _ _
  have hM1 : (zup h 1063 (zO 8 (mfs (mv v 0)))) 1063 = _ := zup_same _ _ _
  refine z_iload_n (pc := 4) C dX12_back_4 1 rfl ?_
  refine z_iconst (pc := 5) C dX12_back_5 (nI 0) (by decide) ?_
  refine z_aload_n (pc := 6) C dX12_back_6 0 rfl ?_
  refine z_getf (pc := 7) C dX12_back_7 fX12_186 (by assumption) (by first | rfl | assumption) ?_
  rw [show mv v 0 23 = nI c from h23]
  refine z_iconst (pc := 10) C dX12_back_10 (nI 1) (by decide) ?_
  refine z_isub (pc := 11) C dX12_back_11 ?_
  refine z_cS1 (pc := 12) mX12_in C [_, _, _] dX12_back_12 lX12_146 mtX12_in tX12_in rfl rfl (by decide) (Nat.le_of_ble_eq_true rfl) (Nat.zero_le _) (Nat.zero_le _) ?_
  rw [zlt_le w (by omega)]
  first | refine z_ifneB (pc := 15) C 24 dX12_back_15 (by decide) (fun hc15 => ?_) (fun hc15 => ?_) | refine z_ifneN (pc := 15) C 24 dX12_back_15 (by decide) (by omega) (fun hc15 => ?_) (fun hc15 => ?_) | refine z_if_ne (pc := 15) C 24 dX12_back_15 (by decide) (fun hc15 => ?_) (fun hc15 => ?_)
  · exact absurd (hc15.symm.trans hn) (by decide)
  · skip
    refine z_aload_n (pc := 18) C dX12_back_18 0 rfl ?_
    refine z_iconst (pc := 19) C dX12_back_19 (nI 1) (by decide) ?_
    refine z_cV1 (pc := 20) mX12_isNot C [_] dX12_back_20 lX12_417 mtX12_isNot (tX12_isNot (by first | assumption | omega)) (by assumption) rfl rfl (by decide) (Nat.le_of_ble_eq_true rfl) (Nat.zero_le _) (Nat.zero_le _) ?_
    refine z_zret (pc := 23) C dX12_back_23 rfl (by first | exact zb_nar _ | rfl) (Nat.zero_le _) (Nat.zero_le _) ⟨?_, ?_, rfl⟩
    · first | rfl | simp_all
    · rw [zup_zup]; unfold mv; rw [upd_upd]; rfl

set_option maxRecDepth 20000 in
set_option maxHeartbeats 1000000 in
theorem tX12_backY {h : ZH} {v : Nat → Int32} {S I : Nat → Nat} {c j : Nat} (hM : h 1063 = some (zO 8 (mfs v))) (hB : h 1070 = some (zI 40 S)) (hKp : h 1072 = some (zI 120 I)) (h23 : v 23 = nI c) (hc : c ≤ 3) (hj : j < c) : ZD mX12_back 6 [.ref 1063, .int (nI j)] h (some (.int (zb true))) (zup (zup h 1070 (zI 40 (ncpy I S (40 * j) 0 40))) 1063 (zO 8 (mfs (upd (mv v 0) 22 (nI 0))))) := by
  intro n
  refine z_enter (lv := [(0, _), (1, _)]) (by decide) (Nat.le_of_ble_eq_true rfl) rfl (fun X C => ?_)
  refine z_aload_n (pc := 0) C dX12_back_0 0 rfl ?_
  refine z_cV0 (pc := 1) mX12_good C [] dX12_back_1 lX12_167 mtX12_good (tX12_good (by first | assumption | omega)) (by assumption) rfl rfl (by decide) (Nat.le_of_ble_eq_true rfl) (Nat.zero_le _) (Nat.zero_le _) ?_
  show Zc X _ _ _ _ _ (zup h 1063 (zO 8 (mfs (mv v 0)))) _ _ _
  have hM1 : (zup h 1063 (zO 8 (mfs (mv v 0)))) 1063 = _ := zup_same _ _ _
  refine z_iload_n (pc := 4) C dX12_back_4 1 rfl ?_
  refine z_iconst (pc := 5) C dX12_back_5 (nI 0) (by decide) ?_
  refine z_aload_n (pc := 6) C dX12_back_6 0 rfl ?_
  refine z_getf (pc := 7) C dX12_back_7 fX12_186 (by assumption) (by first | rfl | assumption) ?_
  rw [show mv v 0 23 = nI c from h23]
  refine z_iconst (pc := 10) C dX12_back_10 (nI 1) (by decide) ?_
  refine z_isub (pc := 11) C dX12_back_11 ?_
  refine z_cS1 (pc := 12) mX12_in C [_, _, _] dX12_back_12 lX12_146 mtX12_in tX12_in rfl rfl (by decide) (Nat.le_of_ble_eq_true rfl) (Nat.zero_le _) (Nat.zero_le _) ?_
  rw [zlt_le _ (by omega), zlt_nI (by omega)]
  first | refine z_ifneB (pc := 15) C 24 dX12_back_15 (by decide) (fun hc15 => ?_) (fun hc15 => ?_) | refine z_ifneN (pc := 15) C 24 dX12_back_15 (by decide) (by omega) (fun hc15 => ?_) (fun hc15 => ?_) | refine z_if_ne (pc := 15) C 24 dX12_back_15 (by decide) (fun hc15 => ?_) (fun hc15 => ?_)
  · skip
    refine z_aload_n (pc := 24) C dX12_back_24 0 rfl ?_
    refine z_getf (pc := 25) C dX12_back_25 fX12_38 (by assumption) (by first | rfl | assumption) ?_
    refine z_bipush (pc := 28) C dX12_back_28 (nI 40) (by decide) ?_
    refine z_iload_n (pc := 30) C dX12_back_30 1 rfl ?_
    first | refine z_imulN (pc := 31) C dX12_back_31 ?_ | refine z_imul (pc := 31) C dX12_back_31 ?_
    refine z_aload_n (pc := 32) C dX12_back_32 0 rfl ?_
    refine z_getf (pc := 33) C dX12_back_33 fX12_32 (by assumption) (by first | rfl | assumption) ?_
    refine z_iconst (pc := 36) C dX12_back_36 (nI 0) (by decide) ?_
    refine z_bipush (pc := 37) C dX12_back_37 (nI 40) (by decide) ?_
    refine z_cS0 (pc := 39) mX12_copy C [_, _, _, _, _] dX12_back_39 lX12_176 mtX12_copy (tX12_copy ((zup_ne (by decide)).trans hKp) ((zup_ne (by decide)).trans hB) (by decide) (by omega) (by decide) (by decide) (by decide)) rfl rfl (by decide) (Nat.le_of_ble_eq_true rfl) (Nat.zero_le _) (Nat.zero_le _) ?_
    refine z_aload_n (pc := 42) C dX12_back_42 0 rfl ?_
    refine z_iconst (pc := 43) C dX12_back_43 (nI 0) (by decide) ?_
    refine z_putf (pc := 44) (fs' := mfs (upd _ 22 _)) C dX12_back_44 gX12_183 ((zup_ne (by decide)).trans hM1) (fun _ => ⟨rfl, rfl⟩) (by exact Nat.le_of_ble_eq_true rfl) (mfs_set _ 22 _ (by decide)) ?_
    refine z_iconst (pc := 47) C dX12_back_47 (zb true) (by decide) ?_
    refine z_zret (pc := 48) C dX12_back_48 rfl (by first | exact zb_nar _ | rfl) (Nat.zero_le _) (Nat.zero_le _) ⟨?_, ?_, rfl⟩
    · first | rfl | simp_all
    · rw [zup_comm h _ _ (show 1063 ≠ 1070 by decide), zup_zup]
  · exact absurd hj (of_decide_eq_false hc15)
