theorem Inv_0 {h1 h2 hh : ZH} {f : Nat → Int64} (hk : kst h1) (hm : mst h2) (T1 : ∀ a, a < 1063 → h2 a = h1 a) (T2 : ∀ a, a < 1078 → hh a = h2 a) (ho : hh 1078 = some (zL 1 f)) : Inv hh := by
  have T : ∀ a, 1000 ≤ a → a < 1063 → hh a = h1 a := fun a q1 q2 => (T2 a (by omega)).trans (T1 a q2)
  have V : ∀ a, 1063 ≤ a → a < 1078 → hh a = h2 a := fun a q1 q2 => T2 a q2
  obtain ⟨c1000, c1001, c1002, c1003, c1019, c1020, c1030, c1031, c1032, c1033, c1034, c1035, c1036, c1037, c1039, c1040, c1041, c1042, c1043, c1044, c1045, c1046, c1047, c1048, c1049, c1050, c1051, c1052, c1053, c1054, c1055, c1056, c1057, c1058, c1059, c1060, c1061, c1062, ⟨nc, nso, nnu, nN, n8⟩, nD, ⟨fI, c1038, f38⟩⟩ := hk
  obtain ⟨m1063, m1064, m1065, m1066, m1067, m1068, m1069, m1070, m1071, m1072, m1073, m1074, m1075, m1076, m1077⟩ := hm
  have hTl : Tld hh 1039 zer := ⟨zer, zer, zer, zer, zer, zer, zer, zer, ((T 1039 (by decide) (by decide)).trans c1039), ((T 1040 (by decide) (by decide)).trans c1040), ((T 1041 (by decide) (by decide)).trans c1041), ((T 1042 (by decide) (by decide)).trans c1042), ((T 1043 (by decide) (by decide)).trans c1043), ((T 1044 (by decide) (by decide)).trans c1044), ((T 1045 (by decide) (by decide)).trans c1045), ((T 1046 (by decide) (by decide)).trans c1046), ((T 1047 (by decide) (by decide)).trans c1047), fun _ _ _ => rfl, fun _ _ => rfl, fun _ _ => rfl, fun _ _ => rfl, fun _ _ => rfl, fun _ _ => rfl, fun _ _ => rfl, fun _ _ => rfl⟩
  refine ⟨1048, 1049, 1050, 1039, 1007, 1017, 1018, 1008, 0, 0, 0, 0, nI 0, nI 0, nI 0, zer, zer, zer, zer, zer, zer, zer, zer, zer, mv0, false, ((T 1000 (by decide) (by decide)).trans c1000), ⟨Or.inr ⟨rfl, rfl, rfl, rfl⟩, Or.inl ⟨rfl, rfl, rfl, rfl⟩, by decide⟩, ⟨⟨_, _, _, ((T 1001 (by decide) (by decide)).trans c1001)⟩, ⟨_, _, _, _, _, _, ((T 1002 (by decide) (by decide)).trans c1002)⟩, ((T 1003 (by decide) (by decide)).trans c1003), ⟨nc, nso, nnu, nN.on (fun a q1 q2 => T a (by omega) (by omega)), n8⟩⟩, DrS.on (Or.inl ⟨rfl, rfl, rfl, rfl⟩) nD (fun a q => T a (by unfold drA at q; omega) (by unfold drA at q; omega)), ⟨hTl, zer, zer, ((T 1048 (by decide) (by decide)).trans c1048), ((T 1049 (by decide) (by decide)).trans c1049), ((T 1050 (by decide) (by decide)).trans c1050), fun _ _ => rfl, fun _ _ => rfl⟩, ⟨hTl, zer, zer, ((T 1051 (by decide) (by decide)).trans c1051), ((T 1052 (by decide) (by decide)).trans c1052), ((T 1053 (by decide) (by decide)).trans c1053), fun _ _ => rfl, fun _ _ => rfl⟩, ⟨⟨_, _, ((T 1019 (by decide) (by decide)).trans c1019)⟩, ⟨1021, nI 0, nI 0, zer, zer, ((T 1020 (by decide) (by decide)).trans c1020), ((T 1030 (by decide) (by decide)).trans c1030), ((T 1031 (by decide) (by decide)).trans c1031)⟩⟩, ⟨((T 1032 (by decide) (by decide)).trans c1032), _, ((T 1033 (by decide) (by decide)).trans c1033)⟩, ⟨((T 1034 (by decide) (by decide)).trans c1034), ((T 1035 (by decide) (by decide)).trans c1035), ((T 1036 (by decide) (by decide)).trans c1036), ((T 1037 (by decide) (by decide)).trans c1037)⟩, ⟨⟨fI, (T 1038 (by decide) (by decide)).trans c1038, f38⟩, fun j hj => ?_, fun j hj => by omega⟩, ((V 1063 (by decide) (by decide)).trans m1063), ⟨((V 1064 (by decide) (by decide)).trans m1064), ⟨_, ((V 1065 (by decide) (by decide)).trans m1065)⟩, ((V 1066 (by decide) (by decide)).trans m1066), ⟨_, ((V 1067 (by decide) (by decide)).trans m1067)⟩, ((V 1068 (by decide) (by decide)).trans m1068), ⟨_, ((V 1069 (by decide) (by decide)).trans m1069)⟩, ((V 1070 (by decide) (by decide)).trans m1070), ((V 1071 (by decide) (by decide)).trans m1071), ((V 1072 (by decide) (by decide)).trans m1072)⟩, ⟨⟨_, ((V 1073 (by decide) (by decide)).trans m1073)⟩, ⟨_, ((V 1074 (by decide) (by decide)).trans m1074)⟩, ⟨_, ((V 1075 (by decide) (by decide)).trans m1075)⟩, ⟨_, ((V 1076 (by decide) (by decide)).trans m1076)⟩, ⟨_, ((V 1077 (by decide) (by decide)).trans m1077)⟩⟩, ⟨f, ho⟩, ⟨rfl, rfl, rfl, rfl, rfl, rfl, fun q => absurd q (by decide)⟩, ⟨rfl, fun _ => ⟨rfl, rfl, rfl⟩⟩, RX_0.2.1, RX_0.2.2.1, RX_0.2.2.1, ⟨by decide, fun j hj => by omega⟩, ⟨by decide, by decide, by decide⟩, fun j hj => by omega, Chn.z _ _ _ _ _ _ _, fun _ => ⟨fun _ _ => rfl, rfl, rfl, rfl⟩⟩
  obtain rfl | rfl | rfl : j = 0 ∨ j = 1 ∨ j = 2 := by omega
  · exact ⟨1039, nI 0, nI 0, zer, zer, ((T 1054 (by decide) (by decide)).trans c1054), ((T 1055 (by decide) (by decide)).trans c1055), ((T 1056 (by decide) (by decide)).trans c1056)⟩
  · exact ⟨1039, nI 0, nI 0, zer, zer, ((T 1057 (by decide) (by decide)).trans c1057), ((T 1058 (by decide) (by decide)).trans c1058), ((T 1059 (by decide) (by decide)).trans c1059)⟩
  · exact ⟨1039, nI 0, nI 0, zer, zer, ((T 1060 (by decide) (by decide)).trans c1060), ((T 1061 (by decide) (by decide)).trans c1061), ((T 1062 (by decide) (by decide)).trans c1062)⟩
theorem lw_head {X : ZX} {nm : String} {Q : State → Prop} {L : Nat} {xs : Nat → Int32} (C : zOk X (mLw nm) 20 601024 7293034) (SX : zScr X L xs) (hL : L ≤ 3072) (hLed : LedRow X nm Q) (hEnd : ∀ (h : ZH) (n cs sl i : Nat), cs ≤ 601024 → sl ≤ 7293034 → Zc X (mLw nm) Q 2026 (lvL i) [] h n cs sl) : Zc X (mLw nm) Q 0 [(0, .ref 999)] [] (fun _ => none) 1000 0 0 := by
  refine z_new (pc := 0) (ci := 7) C tyX11 (fs := dfX11) dL_law_0 rfl inRX11 tyX11_ok cL_8 ciRX11 mbX11_init.2.1 dfX11_ok (by decide) (by decide) ?_
  refine z_norm (n' := 1001) (cs' := 1) (sl' := 11) rfl rfl rfl ?_
  refine z_dup (pc := 3) C dL_law_3 rfl ?_
  refine z_cI (pc := 4) mX11_init C [] (k := 62) (mc := 62) (ms := 1533) dL_law_4 lL_15 mtX11_init rfl (tX11_init (zup_same _ _ _)) rfl rfl (by decide) (Nat.le_of_ble_eq_true rfl) (by decide) ?_
  rintro h1 ⟨hk, F1⟩
  refine z_norm (n' := 1063) (cs' := 63) (sl' := 1544) rfl rfl rfl ?_
  refine z_astore_n (pc := 7) (lv' := [(1, _), (0, _)]) C dL_law_7 (show 1 < 7 by decide) rfl ?_
  refine z_new (pc := 8) (ci := 8) C tyX12 (fs := dfX12) dL_law_8 rfl inRX12 tyX12_ok cL_16 ciRX12 mbX12_init.2.1 dfX12_ok (by decide) (by decide) ?_
  refine z_norm (n' := 1064) (cs' := 64) (sl' := 1577) rfl rfl rfl ?_
  refine z_dup (pc := 11) C dL_law_11 rfl ?_
  refine z_cI (pc := 12) mX12_init C [] (k := 14) (mc := 14) (ms := 2598) dL_law_12 lL_18 mtX12_init rfl (tX12_init (zup_same _ _ _)) rfl rfl (by decide) (Nat.le_of_ble_eq_true rfl) (by decide) ?_
  rintro h2 ⟨hm, F2⟩
  refine z_norm (n' := 1078) (cs' := 78) (sl' := 4175) rfl rfl rfl ?_
  refine z_astore_n (pc := 15) (lv' := [(2, _), (1, _), (0, _)]) C dL_law_15 (show 2 < 7 by decide) rfl ?_
  refine z_iconst (pc := 16) C dL_law_16 (nI 1) (by decide) ?_
  refine z_newl (pc := 17) C (N := 1) dL_law_17 ac_long (by decide) (by decide) (by decide) (by decide) (by decide) ?_
  refine z_norm (n' := 1079) (cs' := 79) (sl' := 4176) rfl rfl rfl ?_
  refine z_astore_n (pc := 19) (lv' := [(3, _), (2, _), (1, _), (0, _)]) C dL_law_19 (show 3 < 7 by decide) rfl ?_
  refine z_iconst (pc := 20) C dL_law_20 (nI 0) (by decide) ?_
  refine z_istore (pc := 21) (lv' := [(4, _), (3, _), (2, _), (1, _), (0, _)]) C dL_law_21 (show 4 < 7 by decide) rfl ?_
  refine z_sub (lv' := lvL 0) [4, 3, 2, 1, 0] rfl ?_
  have hI : Inv (zup h2 1078 (zL 1 (fun _ => 0))) := Inv_0 hk hm (fun a q => (F2 a (by omega) (by omega)).trans (zup_ne (by omega))) (fun a q => zup_ne (by omega)) (zup_same _ _ _)
  by_cases h6 : 6 ≤ L
  · exact lw_loop C SX hL h6 hLed hEnd L 0 1079 79 4176 _ (by omega) (by omega) (by omega) hI
  · refine z_iload (pc := 23) C dL_law_23 4 rfl ?_
    refine z_aload_n (pc := 25) C dL_law_25 0 rfl ?_
    refine z_slen (pc := 26) C SX dL_law_26 ?_
    refine z_bipush (pc := 27) C dL_law_27 (nI 6) (by decide) ?_
    refine z_isub (pc := 29) C dL_law_29 ?_
    have e : nI L - nI 6 < nI 0 := by
      obtain rfl | rfl | rfl | rfl | rfl | rfl : L = 0 ∨ L = 1 ∨ L = 2 ∨ L = 3 ∨ L = 4 ∨ L = 5 := by omega
      all_goals decide
    exact z_icmp_gt (pc := 30) C 2026 dL_law_30 (by decide) (fun _ => hEnd _ _ _ _ _ (by decide) (by decide)) (fun q => absurd e q)
