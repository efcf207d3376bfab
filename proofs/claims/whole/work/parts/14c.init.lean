set_option maxRecDepth 20000 in
set_option maxHeartbeats 1000000 in
theorem tX9_init {h : ZH}  (hM : h 1019 = some (zO 6 dfX9)) : ZMet mX9_init 2 [.ref 1019] h 1020 12 99 (fun r hh n' => r = none ∧ (hh 1019 = some (zO 6 [.ref 1020, .int (nI 0), .int (nI 0)]) ∧ hh 1020 = some (zO 3 [.ref 1021, .ref 1030, .int (nI 0), .int (nI 0), .ref 1031]) ∧ hh 1030 = some (zI 6 zer) ∧ hh 1031 = some (zI 32 zer) ∧ ∀ a, a ≠ 1019 → a < 1020 ∨ 1020 + 12 ≤ a → hh a = h a) ∧ n' = 1020 + 12) := by
  refine z_enter (lv := [(0, _)]) (by decide) (Nat.le_of_ble_eq_true rfl) rfl (fun X C => ?_)
  refine z_aload_n (pc := 0) C dX9_init_0 0 rfl ?_
  refine z_objInit (pc := 1) C dX9_init_1 lX9_3 zw_o_i zw_o_c (by decide) (Nat.le_of_ble_eq_true rfl) ?_
  refine z_aload_n (pc := 4) C dX9_init_4 0 rfl ?_
  refine z_new (pc := 5) (ci := 3) C tyX5 (fs := dfX5) dX9_init_5 rfl inRX5 tyX5_ok cX9_9 ciRX5 mbX5_init.2.1 dfX5_ok (by decide) (by decide) ?_
  refine z_norm (n' := 1021) (cs' := 1) (sl' := 5) rfl rfl rfl ?_
  refine z_dup (pc := 8) C dX9_init_8 rfl ?_
  refine z_new (pc := 9) (ci := 5) C tyX8 (fs := dfX8) dX9_init_9 rfl inRX8 tyX8_ok cX9_11 ciRX8 mbX8_init.2.1 dfX8_ok (by decide) (by decide) ?_
  refine z_norm (n' := 1022) (cs' := 2) (sl' := 14) rfl rfl rfl ?_
  refine z_dup (pc := 12) C dX9_init_12 rfl ?_
  refine z_cIN (pc := 13) mX8_init C [] (k := 8) (mc := 8) (ms := 47) dX9_init_13 lX9_13 mtX8_init rfl (tX8_init (s := 1021) (n := 1022) (zup_same _ _ _) (by decide)) rfl rfl (by decide) (Nat.le_of_ble_eq_true rfl) (by decide) ?_
  rintro ha ⟨a0, a1, a2, a3, a4, a5, a6, a7, a8, Fa⟩
  refine z_norm (n' := 1030) (cs' := 10) (sl' := 61) rfl rfl rfl ?_
  refine z_cI (pc := 16) mX5_init C [_] (k := 2) (mc := 2) (ms := 38) dX9_init_16 lX9_14 mtX5_init rfl (tX5_init (s := 1020) (n := 1030) (t := 1021) ((Fa _ (by decide) (by decide)).trans ((zup_ne (by decide)).trans (zup_same _ _ _))) (by decide)) rfl rfl (by decide) (Nat.le_of_ble_eq_true rfl) (by decide) ?_
  rintro hb ⟨b0, b1, b2, Fb⟩
  refine z_norm (n' := 1032) (cs' := 12) (sl' := 99) rfl rfl rfl ?_
  refine z_putF (pc := 19) (fs' := [_, _, _]) C dX9_init_19 gX9_17 rfl ((Fb _ (by decide) (by decide)).trans ((Fa _ (by decide) (by decide)).trans ((zup_ne (by decide)).trans ((zup_ne (by decide)).trans hM)))) (fun _ => ⟨rfl, rfl⟩) (by exact Nat.le_of_ble_eq_true rfl) (by rfl) ?_
  refine z_vret (pc := 22) C dX9_init_22 rfl (by decide) (by decide) ⟨rfl, ?_, rfl⟩
  exact ⟨(zup_same _ _ _), ((zup_ne (by decide)).trans b0), ((zup_ne (by decide)).trans b1), ((zup_ne (by decide)).trans b2), fun a q1 q2 => (zup_ne (by omega)).trans ((Fb _ (by omega) (by omega)).trans ((Fa _ (by omega) (by omega)).trans ((zup_ne (by omega)).trans ((zup_ne (by omega)).trans (rfl)))))⟩

set_option maxRecDepth 20000 in
set_option maxHeartbeats 1000000 in
theorem tX4_init {h : ZH}  (hM : h 1001 = some (zO 2 dfX4)) : ZMet mX4_init 5 [.ref 1001] h 1002 17 1091 (fun r hh n' => r = none ∧ (hh 1001 = some (zO 2 (rdf (nI 0) (nI 0) 0 1007)) ∧ hh 1002 = some (zO 4 (tpf 0 (nI 0) (nI 0) (nI 0) 0 (nI 0) (nI 0))) ∧ hh 1003 = some (zI 900 zer) ∧ (∃ c so nu, NT hh zer c so nu ∧ NT8 c so nu) ∧ DrS hh 1007 1017 1018 1008 ∧ ∀ a, a ≠ 1001 → a < 1002 ∨ 1002 + 17 ≤ a → hh a = h a) ∧ n' = 1002 + 17) := by
  refine z_enter (lv := [(0, _)]) (by decide) (Nat.le_of_ble_eq_true rfl) rfl (fun X C => ?_)
  refine z_aload_n (pc := 0) C dX4_init_0 0 rfl ?_
  refine z_objInit (pc := 1) C dX4_init_1 lX4_3 zw_o_i zw_o_c (by decide) (Nat.le_of_ble_eq_true rfl) ?_
  refine z_aload_n (pc := 4) C dX4_init_4 0 rfl ?_
  refine z_new (pc := 5) (ci := 4) C tyX7 (fs := dfX7) dX4_init_5 rfl inRX7 tyX7_ok cX4_9 ciRX7 mbX7_init.2.1 dfX7_ok (by decide) (by decide) ?_
  refine z_norm (n' := 1003) (cs' := 1) (sl' := 8) rfl rfl rfl ?_
  refine z_dup (pc := 8) C dX4_init_8 rfl ?_
  refine z_cIN (pc := 9) mX7_init C [] (k := 1) (mc := 1) (ms := 900) dX4_init_9 lX4_11 mtX7_init rfl (tX7_init (s := 1002) (n := 1003) (zup_same _ _ _) (by decide)) rfl rfl (by decide) (Nat.le_of_ble_eq_true rfl) (by decide) ?_
  rintro hz ⟨z0, z1, Fz⟩
  refine z_norm (n' := 1004) (cs' := 2) (sl' := 908) rfl rfl rfl ?_
  refine z_putF (pc := 12) (fs' := [_, _, _, _, _, _, _, _]) C dX4_init_12 gX4_12 rfl ((Fz _ (by decide) (by decide)).trans ((zup_ne (by decide)).trans hM)) (fun _ => ⟨rfl, rfl⟩) (by exact Nat.le_of_ble_eq_true rfl) (by rfl) ?_
  refine z_aload_n (pc := 15) C dX4_init_15 0 rfl ?_
  refine z_bipush (pc := 16) C dX4_init_16 (nI 28) (by decide) ?_
  refine z_newl (pc := 18) C (N := 28) dX4_init_18 ac_long (by decide) (by decide) (by decide) (by decide) (by decide) ?_
  refine z_norm (n' := 1005) (cs' := 3) (sl' := 936) rfl rfl rfl ?_
  refine z_putF (pc := 20) (fs' := [_, _, _, _, _, _, _, _]) C dX4_init_20 gX4_18 rfl ((zup_ne (by decide)).trans (zup_same _ _ _)) (fun _ => ⟨rfl, rfl⟩) (by exact Nat.le_of_ble_eq_true rfl) (by rfl) ?_
  refine z_aload_n (pc := 23) C dX4_init_23 0 rfl ?_
  refine z_bipush (pc := 24) C dX4_init_24 (nI 28) (by decide) ?_
  refine z_newa (pc := 26) C (N := 28) dX4_init_26 ac_int (by decide) (by decide) (by decide) (by decide) (by decide) ?_
  refine z_norm (n' := 1006) (cs' := 4) (sl' := 964) rfl rfl rfl ?_
  refine z_putF (pc := 28) (fs' := [_, _, _, _, _, _, _, _]) C dX4_init_28 gX4_22 rfl ((zup_ne (by decide)).trans (zup_same _ _ _)) (fun _ => ⟨rfl, rfl⟩) (by exact Nat.le_of_ble_eq_true rfl) (by rfl) ?_
  refine z_aload_n (pc := 31) C dX4_init_31 0 rfl ?_
  refine z_bipush (pc := 32) C dX4_init_32 (nI 28) (by decide) ?_
  refine z_newa (pc := 34) C (N := 28) dX4_init_34 ac_int (by decide) (by decide) (by decide) (by decide) (by decide) ?_
  refine z_norm (n' := 1007) (cs' := 5) (sl' := 992) rfl rfl rfl ?_
  refine z_putF (pc := 36) (fs' := [_, _, _, _, _, _, _, _]) C dX4_init_36 gX4_26 rfl ((zup_ne (by decide)).trans (zup_same _ _ _)) (fun _ => ⟨rfl, rfl⟩) (by exact Nat.le_of_ble_eq_true rfl) (by rfl) ?_
  refine z_aload_n (pc := 39) C dX4_init_39 0 rfl ?_
  refine z_new (pc := 40) (ci := 3) C tyX5 (fs := dfX5) dX4_init_40 rfl inRX5 tyX5_ok cX4_29 ciRX5 mbX5_init.2.1 dfX5_ok (by decide) (by decide) ?_
  refine z_norm (n' := 1008) (cs' := 6) (sl' := 997) rfl rfl rfl ?_
  refine z_dup (pc := 43) C dX4_init_43 rfl ?_
  refine z_new (pc := 44) (ci := 5) C tyX8 (fs := dfX8) dX4_init_44 rfl inRX8 tyX8_ok cX4_31 ciRX8 mbX8_init.2.1 dfX8_ok (by decide) (by decide) ?_
  refine z_norm (n' := 1009) (cs' := 7) (sl' := 1006) rfl rfl rfl ?_
  refine z_dup (pc := 47) C dX4_init_47 rfl ?_
  refine z_cIN (pc := 48) mX8_init C [] (k := 8) (mc := 8) (ms := 47) dX4_init_48 lX4_33 mtX8_init rfl (tX8_init (s := 1008) (n := 1009) (zup_same _ _ _) (by decide)) rfl rfl (by decide) (Nat.le_of_ble_eq_true rfl) (by decide) ?_
  rintro ha ⟨a0, a1, a2, a3, a4, a5, a6, a7, a8, Fa⟩
  refine z_norm (n' := 1017) (cs' := 15) (sl' := 1053) rfl rfl rfl ?_
  refine z_cI (pc := 51) mX5_init C [_] (k := 2) (mc := 2) (ms := 38) dX4_init_51 lX4_34 mtX5_init rfl (tX5_init (s := 1007) (n := 1017) (t := 1008) ((Fa _ (by decide) (by decide)).trans ((zup_ne (by decide)).trans (zup_same _ _ _))) (by decide)) rfl rfl (by decide) (Nat.le_of_ble_eq_true rfl) (by decide) ?_
  rintro hb ⟨b0, b1, b2, Fb⟩
  refine z_norm (n' := 1019) (cs' := 17) (sl' := 1091) rfl rfl rfl ?_
  refine z_putf (pc := 54) (fs' := [_, _, _, _, _, _, _, _]) C dX4_init_54 gX4_37 ((Fb _ (by decide) (by decide)).trans ((Fa _ (by decide) (by decide)).trans ((zup_ne (by decide)).trans ((zup_ne (by decide)).trans (zup_same _ _ _))))) (fun _ => ⟨rfl, rfl⟩) (by exact Nat.le_of_ble_eq_true rfl) (by rfl) ?_
  generalize eh : zup hb 1001 (zO 2 _) = h4
  have F4 : ∀ a, a ≠ 1001 → h4 a = hb a := fun a q => by rw [← eh]; exact zup_ne q
  have m1 : h4 1001 = some (zO 2 (rdf (nI 0) (nI 0) 0 1007)) := by rw [← eh]; exact zup_same _ _ _
  have m2 : h4 1002 = some (zO 4 (tpf 0 (nI 0) (nI 0) (nI 0) 0 (nI 0) (nI 0))) := by rw [← eh]; exact ((zup_ne (by decide)).trans ((Fb _ (by decide) (by decide)).trans ((Fa _ (by decide) (by decide)).trans ((zup_ne (by decide)).trans ((zup_ne (by decide)).trans ((zup_ne (by decide)).trans ((zup_ne (by decide)).trans ((zup_ne (by decide)).trans ((zup_ne (by decide)).trans ((zup_ne (by decide)).trans ((zup_ne (by decide)).trans ((zup_ne (by decide)).trans z0))))))))))))
  have m3 : h4 1003 = some (zI 900 zer) := by rw [← eh]; exact ((zup_ne (by decide)).trans ((Fb _ (by decide) (by decide)).trans ((Fa _ (by decide) (by decide)).trans ((zup_ne (by decide)).trans ((zup_ne (by decide)).trans ((zup_ne (by decide)).trans ((zup_ne (by decide)).trans ((zup_ne (by decide)).trans ((zup_ne (by decide)).trans ((zup_ne (by decide)).trans ((zup_ne (by decide)).trans ((zup_ne (by decide)).trans z1))))))))))))
  have m4 : h4 1004 = some (zL 28 (fun i => lN (zer i))) := by rw [← eh]; exact ((zup_ne (by decide)).trans ((Fb _ (by decide) (by decide)).trans ((Fa _ (by decide) (by decide)).trans ((zup_ne (by decide)).trans ((zup_ne (by decide)).trans ((zup_ne (by decide)).trans ((zup_ne (by decide)).trans ((zup_ne (by decide)).trans ((zup_ne (by decide)).trans ((zup_ne (by decide)).trans (zup_same _ _ _)))))))))))
  have m5 : h4 1005 = some (zI 28 zer) := by rw [← eh]; exact ((zup_ne (by decide)).trans ((Fb _ (by decide) (by decide)).trans ((Fa _ (by decide) (by decide)).trans ((zup_ne (by decide)).trans ((zup_ne (by decide)).trans ((zup_ne (by decide)).trans ((zup_ne (by decide)).trans ((zup_ne (by decide)).trans (zup_same _ _ _)))))))))
  have m6 : h4 1006 = some (zI 28 zer) := by rw [← eh]; exact ((zup_ne (by decide)).trans ((Fb _ (by decide) (by decide)).trans ((Fa _ (by decide) (by decide)).trans ((zup_ne (by decide)).trans ((zup_ne (by decide)).trans ((zup_ne (by decide)).trans (zup_same _ _ _)))))))
  have m7 : h4 1007 = some (zO 3 [.ref 1008, .ref 1017, .int (nI 0), .int (nI 0), .ref 1018]) := by rw [← eh]; exact ((zup_ne (by decide)).trans b0)
  have m8 : h4 1008 = some (zO 5 [.ref 1009, .ref 1010, .ref 1011, .ref 1012, .ref 1013, .ref 1014, .ref 1015, .ref 1016, .int (nI 0)]) := by rw [← eh]; exact ((zup_ne (by decide)).trans ((Fb _ (by decide) (by decide)).trans a0))
  have m9 : h4 1009 = some (zI 8 zer) := by rw [← eh]; exact ((zup_ne (by decide)).trans ((Fb _ (by decide) (by decide)).trans a1))
  have m10 : h4 1010 = some (zI 7 zer) := by rw [← eh]; exact ((zup_ne (by decide)).trans ((Fb _ (by decide) (by decide)).trans a2))
  have m11 : h4 1011 = some (zI 7 zer) := by rw [← eh]; exact ((zup_ne (by decide)).trans ((Fb _ (by decide) (by decide)).trans a3))
  have m12 : h4 1012 = some (zI 4 zer) := by rw [← eh]; exact ((zup_ne (by decide)).trans ((Fb _ (by decide) (by decide)).trans a4))
  have m13 : h4 1013 = some (zI 6 zer) := by rw [← eh]; exact ((zup_ne (by decide)).trans ((Fb _ (by decide) (by decide)).trans a5))
  have m14 : h4 1014 = some (zI 6 zer) := by rw [← eh]; exact ((zup_ne (by decide)).trans ((Fb _ (by decide) (by decide)).trans a6))
  have m15 : h4 1015 = some (zI 6 zer) := by rw [← eh]; exact ((zup_ne (by decide)).trans ((Fb _ (by decide) (by decide)).trans a7))
  have m16 : h4 1016 = some (zI 3 zer) := by rw [← eh]; exact ((zup_ne (by decide)).trans ((Fb _ (by decide) (by decide)).trans a8))
  have m17 : h4 1017 = some (zI 6 zer) := by rw [← eh]; exact ((zup_ne (by decide)).trans b1)
  have m18 : h4 1018 = some (zI 32 zer) := by rw [← eh]; exact ((zup_ne (by decide)).trans b2)
  have G4 : ∀ a, a ≠ 1001 → a < 1002 ∨ 1019 ≤ a → h4 a = h a := fun a q1 q2 => by rw [← eh]; exact (zup_ne (by omega)).trans ((Fb _ (by omega) (by omega)).trans ((Fa _ (by omega) (by omega)).trans ((zup_ne (by omega)).trans ((zup_ne (by omega)).trans ((zup_ne (by omega)).trans ((zup_ne (by omega)).trans ((zup_ne (by omega)).trans ((zup_ne (by omega)).trans ((zup_ne (by omega)).trans ((zup_ne (by omega)).trans ((zup_ne (by omega)).trans ((Fz _ (by omega) (by omega)).trans ((zup_ne (by omega)).trans (rfl))))))))))))))
  refine z_iconst (pc := 57) C dX4_init_57 (nI 0) (by decide) ?_
  refine z_istore_n (pc := 58) (lv' := [(1, _), (0, _)]) C dX4_init_58 (by decide) rfl ?_
  refine z_sub (lv' := [(0, _), (1, _)]) [1, 0] rfl ?_
  have lp59 : ∀ (f : Nat) (i : Nat) (h5 : ZH) (c : Nat → Nat), (i + f = 8 ∧ NT h5 zer c zer zer ∧ (∀ j, j < i → c j = kCd j) ∧ ∀ a, a < 1004 ∨ 1006 < a → h5 a = h4 a) → Zc X mX4_init (zEnd X (fun r hh n' => r = none ∧ (hh 1001 = some (zO 2 (rdf (nI 0) (nI 0) 0 1007)) ∧ hh 1002 = some (zO 4 (tpf 0 (nI 0) (nI 0) (nI 0) 0 (nI 0) (nI 0))) ∧ hh 1003 = some (zI 900 zer) ∧ (∃ c so nu, NT hh zer c so nu ∧ NT8 c so nu) ∧ DrS hh 1007 1017 1018 1008 ∧ ∀ a, a ≠ 1001 → a < 1002 ∨ 1002 + 17 ≤ a → hh a = h a) ∧ n' = 1002 + 17) 17 1091) 59 [(0, .ref 1001), (1, .int (nI i))] [] h5 1019 17 1091 := by
    intro f
    induction f using Nat.strongRecOn with
    | _ f ih =>
      intro i h5 c hk
      obtain ⟨hk, ⟨n4, n5, n6⟩, hq, F5⟩ := hk
      have m5 := (F5 1001 (by decide)).trans m1
      refine z_iload_n (pc := 59) C dX4_init_59 1 rfl ?_
      refine z_bipush (pc := 60) C dX4_init_60 (nI 8) (by decide) ?_
      first | refine z_icmpgeN (pc := 62) C 84 dX4_init_62 (by decide) (by omega) (by omega) (fun hc62 => ?_) (fun hc62 => ?_) | refine z_icmp_ge (pc := 62) C 84 dX4_init_62 (by decide) (fun hc62 => ?_) (fun hc62 => ?_)
      · skip
        refine z_vret (pc := 84) C dX4_init_84 rfl (by decide) (by decide) ⟨rfl, ?_, rfl⟩
        have T : ∀ a, a < 1004 ∨ 1006 < a → h5 a = h4 a := F5
        exact ⟨m5, (T _ (by decide)).trans m2, (T _ (by decide)).trans m3, ⟨c, zer, zer, ⟨n4, n5, n6⟩, fun j hj => ⟨hq j (by omega), rfl, rfl⟩⟩, ⟨zer, zer, zer, zer, zer, zer, zer, zer, zer, zer, nI 0, nI 0, nI 0, (T _ (by decide)).trans m8, (T _ (by decide)).trans m9, (T _ (by decide)).trans m10, (T _ (by decide)).trans m11, (T _ (by decide)).trans m12, (T _ (by decide)).trans m13, (T _ (by decide)).trans m14, (T _ (by decide)).trans m15, (T _ (by decide)).trans m16, (T _ (by decide)).trans m7, (T _ (by decide)).trans m17, (T _ (by decide)).trans m18⟩, fun a q1 q2 => (T a (by omega)).trans (G4 a q1 (by omega))⟩
      · skip
        refine z_aload_n (pc := 65) C dX4_init_65 0 rfl ?_
        refine z_getf (pc := 66) C dX4_init_66 fX4_18 m5 (by first | rfl | assumption) ?_
        refine z_iload_n (pc := 69) C dX4_init_69 1 rfl ?_
        refine z_iload_n (pc := 70) C dX4_init_70 1 rfl ?_
        refine z_cS1 (pc := 71) mX4_lineWord C [_] dX4_init_71 lX4_41 mtX4_lineWord (tX4_lineWord (by omega)) rfl rfl (by decide) (Nat.le_of_ble_eq_true rfl) (by decide) (by decide) ?_
        refine z_cS1 (pc := 74) mX7_codeOf C [_] dX4_init_74 lX4_45 mtX7_codeOf (tX7_codeOf (by omega)) rfl rfl (by decide) (Nat.le_of_ble_eq_true rfl) (by decide) (by decide) ?_
        refine z_lastN (pc := 77) C dX4_init_77 n4 (by omega) (by decide) ?_
        rw [nup_lN]
        first | refine z_iincN (pc := 78) (lv' := [(1, _), (0, _)]) C 1 dX4_init_78 1 rfl (by decide) (by decide) rfl ?_ | refine z_iinc (pc := 78) (lv' := [(1, _), (0, _)]) C dX4_init_78 1 rfl _ rfl (by decide) rfl ?_
        refine z_goto (pc := 81) C 59 dX4_init_81 (by decide) ?_
        refine z_sub (lv' := [(0, _), (1, _)]) [1, 0] rfl ?_
        exact ih (f - 1) (by omega) (i + 1) _ (nup c i (kCd i)) ⟨by omega, ⟨zup_same _ _ _, (zup_ne (by decide)).trans n5, (zup_ne (by decide)).trans n6⟩, fun j hj => (by by_cases q : j = i; (subst q; exact nup_same _ _ _); (rw [nup_ne q]; exact hq j (by omega))), fun a q => (zup_ne (by omega)).trans (F5 a q)⟩
  exact lp59 8 0 h4 zer ⟨rfl, ⟨m4, m5, m6⟩, fun j hj => by omega, fun _ _ => rfl⟩
