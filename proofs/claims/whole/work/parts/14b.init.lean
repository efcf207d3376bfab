section ZNORM
variable {X : ZX} {M : ZM} {Q : State → Prop} {pc : Nat} {lv : List (Nat × Value)} {st : List Value} {h : ZH} {n cs sl d RC RS d' idx na : Nat}
theorem z_norm {n' cs' sl' : Nat} (e1 : n = n') (e2 : cs = cs') (e3 : sl = sl') (K : Zc X M Q pc lv st h n' cs' sl') : Zc X M Q pc lv st h n cs sl := by
  subst e1 e2 e3
  exact K
theorem z_cI (M' : ZM) (C : zOk X M d RC RS) {a : Nat} (as : List Value) {rest : List Value} {k mc ms : Nat} (D : decode M.2.1 pc = .ok (.invokespecial idx, 3)) (L : Cond.methodLink M.1.cls idx M'.1 ∈ zWS) (F : zMtI M' na) (hrt : M'.2.2.2 = none) {P : ZH → Prop} (hm : ZMet M' d' (.ref a :: as) h n mc ms (fun r hh n' => r = none ∧ P hh ∧ n' = n + k)) (hs : st = as.reverse ++ .ref a :: rest) (hn : as.length = na) (hd : d' + 1 ≤ d) (hc : (rest.map fun v => v.category).sum ≤ 8) (hf : cs + mc ≤ RC ∧ sl + ms ≤ RS) (K : ∀ hh, P hh → Zc X M Q (pc + 3) lv rest hh (n + k) (cs + mc) (sl + ms)) : Zc X M Q pc lv st h n cs sl :=
  z_callI C D L F hrt hm hs hn hd hc hf (fun r hh n' hp => by obtain ⟨rfl, hp, rfl⟩ := hp; exact K hh hp)
theorem z_cIN (M' : ZM) (C : zOk X M d RC RS) {a : Nat} (as : List Value) {rest : List Value} {k mc ms : Nat} (D : decode M.2.1 pc = .ok (.invokespecial idx, 3)) (L : Cond.methodLinkNest M.1.cls idx M'.1 RX11 ∈ zNW) (F : zMtI M' na) (hrt : M'.2.2.2 = none) {P : ZH → Prop} (hm : ZMet M' d' (.ref a :: as) h n mc ms (fun r hh n' => r = none ∧ P hh ∧ n' = n + k)) (hs : st = as.reverse ++ .ref a :: rest) (hn : as.length = na) (hd : d' + 1 ≤ d) (hc : (rest.map fun v => v.category).sum ≤ 8) (hf : cs + mc ≤ RC ∧ sl + ms ≤ RS) (K : ∀ hh, P hh → Zc X M Q (pc + 3) lv rest hh (n + k) (cs + mc) (sl + ms)) : Zc X M Q pc lv st h n cs sl :=
  z_callIN C D L F hrt hm hs hn hd hc hf (fun r hh n' hp => by obtain ⟨rfl, hp, rfl⟩ := hp; exact K hh hp)
end ZNORM

abbrev dfX1 : List Value := [.null]
theorem dfX1_ok : ∀ am : Nat → Nat, ∀ j, j < 1 → defaultValue (tyX1 j) = vp_V (dfX1.map (zv am)) j := by
  intro am j hj
  obtain rfl : j = 0 := by omega
  all_goals rfl

abbrev dfX3 : List Value := [.int 0, .null, .null, .null, .int 0]
theorem dfX3_ok : ∀ am : Nat → Nat, ∀ j, j < 5 → defaultValue (tyX3 j) = vp_V (dfX3.map (zv am)) j := by
  intro am j hj
  obtain rfl | rfl | rfl | rfl | rfl : j = 0 ∨ j = 1 ∨ j = 2 ∨ j = 3 ∨ j = 4 := by omega
  all_goals rfl

abbrev dfX4 : List Value := [.null, .int 0, .int 0, .null, .null, .null, .int 0, .null]
theorem dfX4_ok : ∀ am : Nat → Nat, ∀ j, j < 8 → defaultValue (tyX4 j) = vp_V (dfX4.map (zv am)) j := by
  intro am j hj
  obtain rfl | rfl | rfl | rfl | rfl | rfl | rfl | rfl : j = 0 ∨ j = 1 ∨ j = 2 ∨ j = 3 ∨ j = 4 ∨ j = 5 ∨ j = 6 ∨ j = 7 := by omega
  all_goals rfl

abbrev dfX5 : List Value := [.null, .null, .int 0, .int 0, .null]
theorem dfX5_ok : ∀ am : Nat → Nat, ∀ j, j < 5 → defaultValue (tyX5 j) = vp_V (dfX5.map (zv am)) j := by
  intro am j hj
  obtain rfl | rfl | rfl | rfl | rfl : j = 0 ∨ j = 1 ∨ j = 2 ∨ j = 3 ∨ j = 4 := by omega
  all_goals rfl

abbrev dfX7 : List Value := [.int 0, .int 0, .int 0, .int 0, .long 0, .null, .int 0, .int 0]
theorem dfX7_ok : ∀ am : Nat → Nat, ∀ j, j < 8 → defaultValue (tyX7 j) = vp_V (dfX7.map (zv am)) j := by
  intro am j hj
  obtain rfl | rfl | rfl | rfl | rfl | rfl | rfl | rfl : j = 0 ∨ j = 1 ∨ j = 2 ∨ j = 3 ∨ j = 4 ∨ j = 5 ∨ j = 6 ∨ j = 7 := by omega
  all_goals rfl

abbrev dfX8 : List Value := [.null, .null, .null, .null, .null, .null, .null, .null, .int 0]
theorem dfX8_ok : ∀ am : Nat → Nat, ∀ j, j < 9 → defaultValue (tyX8 j) = vp_V (dfX8.map (zv am)) j := by
  intro am j hj
  obtain rfl | rfl | rfl | rfl | rfl | rfl | rfl | rfl | rfl : j = 0 ∨ j = 1 ∨ j = 2 ∨ j = 3 ∨ j = 4 ∨ j = 5 ∨ j = 6 ∨ j = 7 ∨ j = 8 := by omega
  all_goals rfl

abbrev dfX9 : List Value := [.null, .int 0, .int 0]
theorem dfX9_ok : ∀ am : Nat → Nat, ∀ j, j < 3 → defaultValue (tyX9 j) = vp_V (dfX9.map (zv am)) j := by
  intro am j hj
  obtain rfl | rfl | rfl : j = 0 ∨ j = 1 ∨ j = 2 := by omega
  all_goals rfl

abbrev dfX11 : List Value := [.null, .null, .null, .null, .null, .null, .null, .int 0, .int 0, .int 0, .int 0]
theorem dfX11_ok : ∀ am : Nat → Nat, ∀ j, j < 11 → defaultValue (tyX11 j) = vp_V (dfX11.map (zv am)) j := by
  intro am j hj
  obtain rfl | rfl | rfl | rfl | rfl | rfl | rfl | rfl | rfl | rfl | rfl : j = 0 ∨ j = 1 ∨ j = 2 ∨ j = 3 ∨ j = 4 ∨ j = 5 ∨ j = 6 ∨ j = 7 ∨ j = 8 ∨ j = 9 ∨ j = 10 := by omega
  all_goals rfl

abbrev dfX12 : List Value := [.int 0, .null, .int 0, .int 0, .int 0, .int 0, .int 0, .int 0, .int 0, .int 0, .int 0, .int 0, .null, .int 0, .int 0, .null, .null, .null, .null, .null, .null, .null, .int 0, .int 0, .null, .null, .null, .int 0, .null, .null, .int 0, .int 0, .int 0]
theorem dfX12_ok : ∀ am : Nat → Nat, ∀ j, j < 33 → defaultValue (tyX12 j) = vp_V (dfX12.map (zv am)) j := by
  intro am j hj
  obtain rfl | rfl | rfl | rfl | rfl | rfl | rfl | rfl | rfl | rfl | rfl | rfl | rfl | rfl | rfl | rfl | rfl | rfl | rfl | rfl | rfl | rfl | rfl | rfl | rfl | rfl | rfl | rfl | rfl | rfl | rfl | rfl | rfl : j = 0 ∨ j = 1 ∨ j = 2 ∨ j = 3 ∨ j = 4 ∨ j = 5 ∨ j = 6 ∨ j = 7 ∨ j = 8 ∨ j = 9 ∨ j = 10 ∨ j = 11 ∨ j = 12 ∨ j = 13 ∨ j = 14 ∨ j = 15 ∨ j = 16 ∨ j = 17 ∨ j = 18 ∨ j = 19 ∨ j = 20 ∨ j = 21 ∨ j = 22 ∨ j = 23 ∨ j = 24 ∨ j = 25 ∨ j = 26 ∨ j = 27 ∨ j = 28 ∨ j = 29 ∨ j = 30 ∨ j = 31 ∨ j = 32 := by omega
  all_goals rfl

set_option maxRecDepth 20000 in
set_option maxHeartbeats 1000000 in
theorem tX1_init {h : ZH} {s n : Nat} (hM : h s = some (zO 0 dfX1)) (hn : s < n) : ZMet mX1_init 1 [.ref s] h n 1 4 (fun r hh n' => r = none ∧ (hh s = some (zO 0 [.ref n]) ∧ hh n = some (zI 4 zer) ∧ ∀ a, a ≠ s → a < n ∨ n + 1 ≤ a → hh a = h a) ∧ n' = n + 1) := by
  refine z_enter (lv := [(0, _)]) (by decide) (Nat.le_of_ble_eq_true rfl) rfl (fun X C => ?_)
  refine z_aload_n (pc := 0) C dX1_init_0 0 rfl ?_
  refine z_objInit (pc := 1) C dX1_init_1 lX1_3 zw_o_i zw_o_c (by decide) (Nat.le_of_ble_eq_true rfl) ?_
  refine z_aload_n (pc := 4) C dX1_init_4 0 rfl ?_
  refine z_iconst (pc := 5) C dX1_init_5 (nI 4) (by decide) ?_
  refine z_newa (pc := 6) C (N := 4) dX1_init_6 ac_int (by decide) (by decide) (by decide) (by decide) (by decide) ?_
  refine z_norm (n' := (n + 1)) (cs' := 1) (sl' := 4) rfl rfl rfl ?_
  refine z_putF (pc := 8) (fs' := [_]) C dX1_init_8 gX1_9 rfl ((zup_ne (by omega)).trans hM) (fun _ => ⟨rfl, rfl⟩) (by exact Nat.le_of_ble_eq_true rfl) (by rfl) ?_
  refine z_vret (pc := 11) C dX1_init_11 rfl (by decide) (by decide) ⟨rfl, ?_, rfl⟩
  exact ⟨(zup_same _ _ _), ((zup_ne (by omega)).trans (zup_same _ _ _)), fun a q1 q2 => (zup_ne (by omega)).trans ((zup_ne (by omega)).trans (rfl))⟩

set_option maxRecDepth 20000 in
set_option maxHeartbeats 1000000 in
theorem tX3_init {h : ZH} {s n : Nat} (hM : h s = some (zO 1 dfX3)) (hn : s < n) : ZMet mX3_init 1 [.ref s] h n 3 48 (fun r hh n' => r = none ∧ (hh s = some (zO 1 [.int (nI 0), .ref n, .ref (n + 1), .ref (n + 2), .int (nI 0)]) ∧ hh n = some (zI 16 zer) ∧ hh (n + 1) = some (zI 16 zer) ∧ hh (n + 2) = some (zI 16 zer) ∧ ∀ a, a ≠ s → a < n ∨ n + 3 ≤ a → hh a = h a) ∧ n' = n + 3) := by
  refine z_enter (lv := [(0, _)]) (by decide) (Nat.le_of_ble_eq_true rfl) rfl (fun X C => ?_)
  refine z_aload_n (pc := 0) C dX3_init_0 0 rfl ?_
  refine z_objInit (pc := 1) C dX3_init_1 lX3_1 zw_o_i zw_o_c (by decide) (Nat.le_of_ble_eq_true rfl) ?_
  refine z_aload_n (pc := 4) C dX3_init_4 0 rfl ?_
  refine z_bipush (pc := 5) C dX3_init_5 (nI 16) (by decide) ?_
  refine z_newa (pc := 7) C (N := 16) dX3_init_7 ac_int (by decide) (by decide) (by decide) (by decide) (by decide) ?_
  refine z_norm (n' := (n + 1)) (cs' := 1) (sl' := 16) rfl rfl rfl ?_
  refine z_putF (pc := 9) (fs' := [_, _, _, _, _]) C dX3_init_9 gX3_9 rfl ((zup_ne (by omega)).trans hM) (fun _ => ⟨rfl, rfl⟩) (by exact Nat.le_of_ble_eq_true rfl) (by rfl) ?_
  refine z_aload_n (pc := 12) C dX3_init_12 0 rfl ?_
  refine z_bipush (pc := 13) C dX3_init_13 (nI 16) (by decide) ?_
  refine z_newa (pc := 15) C (N := 16) dX3_init_15 ac_int (by decide) (by decide) (by decide) (by decide) (by decide) ?_
  refine z_norm (n' := (n + 2)) (cs' := 2) (sl' := 32) rfl rfl rfl ?_
  refine z_putF (pc := 17) (fs' := [_, _, _, _, _]) C dX3_init_17 gX3_13 rfl ((zup_ne (by omega)).trans (zup_same _ _ _)) (fun _ => ⟨rfl, rfl⟩) (by exact Nat.le_of_ble_eq_true rfl) (by rfl) ?_
  refine z_aload_n (pc := 20) C dX3_init_20 0 rfl ?_
  refine z_bipush (pc := 21) C dX3_init_21 (nI 16) (by decide) ?_
  refine z_newa (pc := 23) C (N := 16) dX3_init_23 ac_int (by decide) (by decide) (by decide) (by decide) (by decide) ?_
  refine z_norm (n' := (n + 3)) (cs' := 3) (sl' := 48) rfl rfl rfl ?_
  refine z_putF (pc := 25) (fs' := [_, _, _, _, _]) C dX3_init_25 gX3_16 rfl ((zup_ne (by omega)).trans (zup_same _ _ _)) (fun _ => ⟨rfl, rfl⟩) (by exact Nat.le_of_ble_eq_true rfl) (by rfl) ?_
  refine z_vret (pc := 28) C dX3_init_28 rfl (by decide) (by decide) ⟨rfl, ?_, rfl⟩
  exact ⟨(zup_same _ _ _), ((zup_ne (by omega)).trans ((zup_ne (by omega)).trans ((zup_ne (by omega)).trans ((zup_ne (by omega)).trans ((zup_ne (by omega)).trans (zup_same _ _ _)))))), ((zup_ne (by omega)).trans ((zup_ne (by omega)).trans ((zup_ne (by omega)).trans (zup_same _ _ _)))), ((zup_ne (by omega)).trans (zup_same _ _ _)), fun a q1 q2 => (zup_ne (by omega)).trans ((zup_ne (by omega)).trans ((zup_ne (by omega)).trans ((zup_ne (by omega)).trans ((zup_ne (by omega)).trans ((zup_ne (by omega)).trans (rfl))))))⟩

set_option maxRecDepth 20000 in
set_option maxHeartbeats 1000000 in
theorem tX5_init {h : ZH} {s n t : Nat} (hM : h s = some (zO 3 dfX5)) (hn : s < n) : ZMet mX5_init 1 [.ref s, .ref t] h n 2 38 (fun r hh n' => r = none ∧ (hh s = some (zO 3 [.ref t, .ref n, .int (nI 0), .int (nI 0), .ref (n + 1)]) ∧ hh n = some (zI 6 zer) ∧ hh (n + 1) = some (zI 32 zer) ∧ ∀ a, a ≠ s → a < n ∨ n + 2 ≤ a → hh a = h a) ∧ n' = n + 2) := by
  refine z_enter (lv := [(0, _), (1, _)]) (by decide) (Nat.le_of_ble_eq_true rfl) rfl (fun X C => ?_)
  refine z_aload_n (pc := 0) C dX5_init_0 0 rfl ?_
  refine z_objInit (pc := 1) C dX5_init_1 lX5_3 zw_o_i zw_o_c (by decide) (Nat.le_of_ble_eq_true rfl) ?_
  refine z_aload_n (pc := 4) C dX5_init_4 0 rfl ?_
  refine z_bipush (pc := 5) C dX5_init_5 (nI 6) (by decide) ?_
  refine z_newa (pc := 7) C (N := 6) dX5_init_7 ac_int (by decide) (by decide) (by decide) (by decide) (by decide) ?_
  refine z_norm (n' := (n + 1)) (cs' := 1) (sl' := 6) rfl rfl rfl ?_
  refine z_putF (pc := 9) (fs' := [_, _, _, _, _]) C dX5_init_9 gX5_9 rfl ((zup_ne (by omega)).trans hM) (fun _ => ⟨rfl, rfl⟩) (by exact Nat.le_of_ble_eq_true rfl) (by rfl) ?_
  refine z_aload_n (pc := 12) C dX5_init_12 0 rfl ?_
  refine z_bipush (pc := 13) C dX5_init_13 (nI 32) (by decide) ?_
  refine z_newa (pc := 15) C (N := 32) dX5_init_15 ac_int (by decide) (by decide) (by decide) (by decide) (by decide) ?_
  refine z_norm (n' := (n + 2)) (cs' := 2) (sl' := 38) rfl rfl rfl ?_
  refine z_putF (pc := 17) (fs' := [_, _, _, _, _]) C dX5_init_17 gX5_15 rfl ((zup_ne (by omega)).trans (zup_same _ _ _)) (fun _ => ⟨rfl, rfl⟩) (by exact Nat.le_of_ble_eq_true rfl) (by rfl) ?_
  refine z_aload_n (pc := 20) C dX5_init_20 0 rfl ?_
  refine z_aload_n (pc := 21) C dX5_init_21 1 rfl ?_
  refine z_putf (pc := 22) (fs' := [_, _, _, _, _]) C dX5_init_22 gX5_18 (zup_same _ _ _) (fun _ => ⟨rfl, rfl⟩) (by exact Nat.le_of_ble_eq_true rfl) (by rfl) ?_
  refine z_vret (pc := 25) C dX5_init_25 rfl (by decide) (by decide) ⟨rfl, ?_, rfl⟩
  exact ⟨(zup_same _ _ _), ((zup_ne (by omega)).trans ((zup_ne (by omega)).trans ((zup_ne (by omega)).trans ((zup_ne (by omega)).trans (zup_same _ _ _))))), ((zup_ne (by omega)).trans ((zup_ne (by omega)).trans (zup_same _ _ _))), fun a q1 q2 => (zup_ne (by omega)).trans ((zup_ne (by omega)).trans ((zup_ne (by omega)).trans ((zup_ne (by omega)).trans ((zup_ne (by omega)).trans (rfl)))))⟩

set_option maxRecDepth 20000 in
set_option maxHeartbeats 1000000 in
theorem tX7_init {h : ZH} {s n : Nat} (hM : h s = some (zO 4 dfX7)) (hn : s < n) : ZMet mX7_init 1 [.ref s] h n 1 900 (fun r hh n' => r = none ∧ (hh s = some (zO 4 [.int (nI 0), .int (nI 0), .int (nI 0), .int (nI 0), .long 0, .ref n, .int (nI 0), .int (nI 0)]) ∧ hh n = some (zI 900 zer) ∧ ∀ a, a ≠ s → a < n ∨ n + 1 ≤ a → hh a = h a) ∧ n' = n + 1) := by
  refine z_enter (lv := [(0, _)]) (by decide) (Nat.le_of_ble_eq_true rfl) rfl (fun X C => ?_)
  refine z_aload_n (pc := 0) C dX7_init_0 0 rfl ?_
  refine z_objInit (pc := 1) C dX7_init_1 lX7_3 zw_o_i zw_o_c (by decide) (Nat.le_of_ble_eq_true rfl) ?_
  refine z_aload_n (pc := 4) C dX7_init_4 0 rfl ?_
  refine z_sipush (pc := 5) C dX7_init_5 (nI 900) (by decide) ?_
  refine z_newa (pc := 8) C (N := 900) dX7_init_8 ac_int (by decide) (by decide) (by decide) (by decide) (by decide) ?_
  refine z_norm (n' := (n + 1)) (cs' := 1) (sl' := 900) rfl rfl rfl ?_
  refine z_putF (pc := 10) (fs' := [_, _, _, _, _, _, _, _]) C dX7_init_10 gX7_9 rfl ((zup_ne (by omega)).trans hM) (fun _ => ⟨rfl, rfl⟩) (by exact Nat.le_of_ble_eq_true rfl) (by rfl) ?_
  refine z_vret (pc := 13) C dX7_init_13 rfl (by decide) (by decide) ⟨rfl, ?_, rfl⟩
  exact ⟨(zup_same _ _ _), ((zup_ne (by omega)).trans (zup_same _ _ _)), fun a q1 q2 => (zup_ne (by omega)).trans ((zup_ne (by omega)).trans (rfl))⟩

set_option maxRecDepth 20000 in
set_option maxHeartbeats 1000000 in
theorem tX8_init {h : ZH} {s n : Nat} (hM : h s = some (zO 5 dfX8)) (hn : s < n) : ZMet mX8_init 1 [.ref s] h n 8 47 (fun r hh n' => r = none ∧ (hh s = some (zO 5 [.ref n, .ref (n + 1), .ref (n + 2), .ref (n + 3), .ref (n + 4), .ref (n + 5), .ref (n + 6), .ref (n + 7), .int (nI 0)]) ∧ hh n = some (zI 8 zer) ∧ hh (n + 1) = some (zI 7 zer) ∧ hh (n + 2) = some (zI 7 zer) ∧ hh (n + 3) = some (zI 4 zer) ∧ hh (n + 4) = some (zI 6 zer) ∧ hh (n + 5) = some (zI 6 zer) ∧ hh (n + 6) = some (zI 6 zer) ∧ hh (n + 7) = some (zI 3 zer) ∧ ∀ a, a ≠ s → a < n ∨ n + 8 ≤ a → hh a = h a) ∧ n' = n + 8) := by
  refine z_enter (lv := [(0, _)]) (by decide) (Nat.le_of_ble_eq_true rfl) rfl (fun X C => ?_)
  refine z_aload_n (pc := 0) C dX8_init_0 0 rfl ?_
  refine z_objInit (pc := 1) C dX8_init_1 lX8_3 zw_o_i zw_o_c (by decide) (Nat.le_of_ble_eq_true rfl) ?_
  refine z_aload_n (pc := 4) C dX8_init_4 0 rfl ?_
  refine z_bipush (pc := 5) C dX8_init_5 (nI 8) (by decide) ?_
  refine z_newa (pc := 7) C (N := 8) dX8_init_7 ac_int (by decide) (by decide) (by decide) (by decide) (by decide) ?_
  refine z_norm (n' := (n + 1)) (cs' := 1) (sl' := 8) rfl rfl rfl ?_
  refine z_putF (pc := 9) (fs' := [_, _, _, _, _, _, _, _, _]) C dX8_init_9 gX8_9 rfl ((zup_ne (by omega)).trans hM) (fun _ => ⟨rfl, rfl⟩) (by exact Nat.le_of_ble_eq_true rfl) (by rfl) ?_
  refine z_aload_n (pc := 12) C dX8_init_12 0 rfl ?_
  refine z_bipush (pc := 13) C dX8_init_13 (nI 7) (by decide) ?_
  refine z_newa (pc := 15) C (N := 7) dX8_init_15 ac_int (by decide) (by decide) (by decide) (by decide) (by decide) ?_
  refine z_norm (n' := (n + 2)) (cs' := 2) (sl' := 15) rfl rfl rfl ?_
  refine z_putF (pc := 17) (fs' := [_, _, _, _, _, _, _, _, _]) C dX8_init_17 gX8_15 rfl ((zup_ne (by omega)).trans (zup_same _ _ _)) (fun _ => ⟨rfl, rfl⟩) (by exact Nat.le_of_ble_eq_true rfl) (by rfl) ?_
  refine z_aload_n (pc := 20) C dX8_init_20 0 rfl ?_
  refine z_bipush (pc := 21) C dX8_init_21 (nI 7) (by decide) ?_
  refine z_newa (pc := 23) C (N := 7) dX8_init_23 ac_int (by decide) (by decide) (by decide) (by decide) (by decide) ?_
  refine z_norm (n' := (n + 3)) (cs' := 3) (sl' := 22) rfl rfl rfl ?_
  refine z_putF (pc := 25) (fs' := [_, _, _, _, _, _, _, _, _]) C dX8_init_25 gX8_18 rfl ((zup_ne (by omega)).trans (zup_same _ _ _)) (fun _ => ⟨rfl, rfl⟩) (by exact Nat.le_of_ble_eq_true rfl) (by rfl) ?_
  refine z_aload_n (pc := 28) C dX8_init_28 0 rfl ?_
  refine z_iconst (pc := 29) C dX8_init_29 (nI 4) (by decide) ?_
  refine z_newa (pc := 30) C (N := 4) dX8_init_30 ac_int (by decide) (by decide) (by decide) (by decide) (by decide) ?_
  refine z_norm (n' := (n + 4)) (cs' := 4) (sl' := 26) rfl rfl rfl ?_
  refine z_putF (pc := 32) (fs' := [_, _, _, _, _, _, _, _, _]) C dX8_init_32 gX8_21 rfl ((zup_ne (by omega)).trans (zup_same _ _ _)) (fun _ => ⟨rfl, rfl⟩) (by exact Nat.le_of_ble_eq_true rfl) (by rfl) ?_
  refine z_aload_n (pc := 35) C dX8_init_35 0 rfl ?_
  refine z_bipush (pc := 36) C dX8_init_36 (nI 6) (by decide) ?_
  refine z_newa (pc := 38) C (N := 6) dX8_init_38 ac_int (by decide) (by decide) (by decide) (by decide) (by decide) ?_
  refine z_norm (n' := (n + 5)) (cs' := 5) (sl' := 32) rfl rfl rfl ?_
  refine z_putF (pc := 40) (fs' := [_, _, _, _, _, _, _, _, _]) C dX8_init_40 gX8_24 rfl ((zup_ne (by omega)).trans (zup_same _ _ _)) (fun _ => ⟨rfl, rfl⟩) (by exact Nat.le_of_ble_eq_true rfl) (by rfl) ?_
  refine z_aload_n (pc := 43) C dX8_init_43 0 rfl ?_
  refine z_bipush (pc := 44) C dX8_init_44 (nI 6) (by decide) ?_
  refine z_newa (pc := 46) C (N := 6) dX8_init_46 ac_int (by decide) (by decide) (by decide) (by decide) (by decide) ?_
  refine z_norm (n' := (n + 6)) (cs' := 6) (sl' := 38) rfl rfl rfl ?_
  refine z_putF (pc := 48) (fs' := [_, _, _, _, _, _, _, _, _]) C dX8_init_48 gX8_27 rfl ((zup_ne (by omega)).trans (zup_same _ _ _)) (fun _ => ⟨rfl, rfl⟩) (by exact Nat.le_of_ble_eq_true rfl) (by rfl) ?_
  refine z_aload_n (pc := 51) C dX8_init_51 0 rfl ?_
  refine z_bipush (pc := 52) C dX8_init_52 (nI 6) (by decide) ?_
  refine z_newa (pc := 54) C (N := 6) dX8_init_54 ac_int (by decide) (by decide) (by decide) (by decide) (by decide) ?_
  refine z_norm (n' := (n + 7)) (cs' := 7) (sl' := 44) rfl rfl rfl ?_
  refine z_putF (pc := 56) (fs' := [_, _, _, _, _, _, _, _, _]) C dX8_init_56 gX8_30 rfl ((zup_ne (by omega)).trans (zup_same _ _ _)) (fun _ => ⟨rfl, rfl⟩) (by exact Nat.le_of_ble_eq_true rfl) (by rfl) ?_
  refine z_aload_n (pc := 59) C dX8_init_59 0 rfl ?_
  refine z_iconst (pc := 60) C dX8_init_60 (nI 3) (by decide) ?_
  refine z_newa (pc := 61) C (N := 3) dX8_init_61 ac_int (by decide) (by decide) (by decide) (by decide) (by decide) ?_
  refine z_norm (n' := (n + 8)) (cs' := 8) (sl' := 47) rfl rfl rfl ?_
  refine z_putF (pc := 63) (fs' := [_, _, _, _, _, _, _, _, _]) C dX8_init_63 gX8_33 rfl ((zup_ne (by omega)).trans (zup_same _ _ _)) (fun _ => ⟨rfl, rfl⟩) (by exact Nat.le_of_ble_eq_true rfl) (by rfl) ?_
  refine z_vret (pc := 66) C dX8_init_66 rfl (by decide) (by decide) ⟨rfl, ?_, rfl⟩
  exact ⟨(zup_same _ _ _), ((zup_ne (by omega)).trans ((zup_ne (by omega)).trans ((zup_ne (by omega)).trans ((zup_ne (by omega)).trans ((zup_ne (by omega)).trans ((zup_ne (by omega)).trans ((zup_ne (by omega)).trans ((zup_ne (by omega)).trans ((zup_ne (by omega)).trans ((zup_ne (by omega)).trans ((zup_ne (by omega)).trans ((zup_ne (by omega)).trans ((zup_ne (by omega)).trans ((zup_ne (by omega)).trans ((zup_ne (by omega)).trans (zup_same _ _ _)))))))))))))))), ((zup_ne (by omega)).trans ((zup_ne (by omega)).trans ((zup_ne (by omega)).trans ((zup_ne (by omega)).trans ((zup_ne (by omega)).trans ((zup_ne (by omega)).trans ((zup_ne (by omega)).trans ((zup_ne (by omega)).trans ((zup_ne (by omega)).trans ((zup_ne (by omega)).trans ((zup_ne (by omega)).trans ((zup_ne (by omega)).trans ((zup_ne (by omega)).trans (zup_same _ _ _)))))))))))))), ((zup_ne (by omega)).trans ((zup_ne (by omega)).trans ((zup_ne (by omega)).trans ((zup_ne (by omega)).trans ((zup_ne (by omega)).trans ((zup_ne (by omega)).trans ((zup_ne (by omega)).trans ((zup_ne (by omega)).trans ((zup_ne (by omega)).trans ((zup_ne (by omega)).trans ((zup_ne (by omega)).trans (zup_same _ _ _)))))))))))), ((zup_ne (by omega)).trans ((zup_ne (by omega)).trans ((zup_ne (by omega)).trans ((zup_ne (by omega)).trans ((zup_ne (by omega)).trans ((zup_ne (by omega)).trans ((zup_ne (by omega)).trans ((zup_ne (by omega)).trans ((zup_ne (by omega)).trans (zup_same _ _ _)))))))))), ((zup_ne (by omega)).trans ((zup_ne (by omega)).trans ((zup_ne (by omega)).trans ((zup_ne (by omega)).trans ((zup_ne (by omega)).trans ((zup_ne (by omega)).trans ((zup_ne (by omega)).trans (zup_same _ _ _)))))))), ((zup_ne (by omega)).trans ((zup_ne (by omega)).trans ((zup_ne (by omega)).trans ((zup_ne (by omega)).trans ((zup_ne (by omega)).trans (zup_same _ _ _)))))), ((zup_ne (by omega)).trans ((zup_ne (by omega)).trans ((zup_ne (by omega)).trans (zup_same _ _ _)))), ((zup_ne (by omega)).trans (zup_same _ _ _)), fun a q1 q2 => (zup_ne (by omega)).trans ((zup_ne (by omega)).trans ((zup_ne (by omega)).trans ((zup_ne (by omega)).trans ((zup_ne (by omega)).trans ((zup_ne (by omega)).trans ((zup_ne (by omega)).trans ((zup_ne (by omega)).trans ((zup_ne (by omega)).trans ((zup_ne (by omega)).trans ((zup_ne (by omega)).trans ((zup_ne (by omega)).trans ((zup_ne (by omega)).trans ((zup_ne (by omega)).trans ((zup_ne (by omega)).trans ((zup_ne (by omega)).trans (rfl))))))))))))))))⟩
