set_option maxRecDepth 20000 in
set_option maxHeartbeats 1000000 in
theorem tX4_exchange {h : ZH} {ff fa : Int32} {nc s s2 : Nat} (h1 : h 1001 = some (zO 2 (rdf ff fa nc s))) : ZD mX4_exchange 0 [.ref 1001, .ref s2] h (some (.ref s)) (zup h 1001 (zO 2 (rdf ff fa nc s2))) := by
  intro n
  refine z_enter (lv := [(0, _), (1, _)]) (by decide) (Nat.le_of_ble_eq_true rfl) rfl (fun X C => ?_)
  refine z_aload_n (pc := 0) C dX4_exchange_0 0 rfl ?_
  refine z_getf (pc := 1) C dX4_exchange_1 fX4_37 h1 (by first | rfl | assumption) ?_
  refine z_astore_n (pc := 4) (lv' := [(2, _), (0, _), (1, _)]) C dX4_exchange_4 (by decide) rfl ?_
  refine z_aload_n (pc := 5) C dX4_exchange_5 1 rfl ?_
  refine z_aload_n (pc := 6) C dX4_exchange_6 2 rfl ?_
  refine z_putf (pc := 7) (fs' := [_, _, _, _, _, _, _, _]) C dX4_exchange_7 gX4_37 h1 (fun _ => ⟨rfl, rfl⟩) (by exact Nat.le_of_ble_eq_true rfl) (by rfl) ?_
  refine z_aload_n (pc := 10) C dX4_exchange_10 0 rfl ?_
  refine z_aret (pc := 11) C dX4_exchange_11 rfl (Nat.zero_le _) (Nat.zero_le _) ⟨?_, ?_, rfl⟩
  · first | rfl | simp_all
  · rfl
