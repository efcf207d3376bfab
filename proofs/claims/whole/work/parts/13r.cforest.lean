set_option maxRecDepth 20000 in
set_option maxHeartbeats 1000000 in
theorem tX11_forestN {h : ZH} {st : Nat} {ic tb fb pl : Int32} {ff fa so0 sa va en nx x : Int32} {co : Int64} {nc s len : Nat} (hM : h 1000 = some (zO 7 (kfs st ic tb fb pl))) (h1 : h 1001 = some (zO 2 (rdf ff fa nc s))) (hT2 : h 1002 = some (zO 4 (tpf len so0 sa va co en nx))) (hx : decide (nI 0 ≤ x ∧ x ≤ nI len) = false) : ZD mX11_forest 1 [.ref 1000, .int x] h (some (.int (-1))) (zup h 1000 (zO 7 (kfs st ic (nI 2) fb pl))) := by
  intro n
  refine z_enter (lv := [(0, _), (1, _)]) (by decide) (Nat.le_of_ble_eq_true rfl) rfl (fun X C => ?_)
  refine z_iload_n (pc := 0) C dX11_forest_0 1 rfl ?_
  refine z_if_lt (pc := 1) C 18 dX11_forest_1 (by decide) (fun hc1 => ?_) (fun hc1 => ?_)
  · skip
    refine z_aload_n (pc := 18) C dX11_forest_18 0 rfl ?_
    refine z_iconst (pc := 19) C dX11_forest_19 (nI 2) (by decide) ?_
    refine z_cV1 (pc := 20) mX11_refuse C [_] dX11_forest_20 lX11_70 mtX11_refuse (tX11_refuse hM) hM rfl rfl (by decide) (Nat.le_of_ble_eq_true rfl) (Nat.zero_le _) (Nat.zero_le _) ?_
    refine z_iret (pc := 23) C dX11_forest_23 rfl (Nat.zero_le _) (Nat.zero_le _) ⟨?_, ?_, rfl⟩
    · first | rfl | simp_all
    · rfl
  · skip
    refine z_iload_n (pc := 4) C dX11_forest_4 1 rfl ?_
    refine z_aload_n (pc := 5) C dX11_forest_5 0 rfl ?_
    refine z_getf (pc := 6) C dX11_forest_6 fX11_10 hM (by first | rfl | assumption) ?_
    refine z_getf (pc := 9) C dX11_forest_9 fX11_56 h1 (by first | rfl | assumption) ?_
    refine z_getf (pc := 12) C dX11_forest_12 fX11_60 hT2 (by first | rfl | assumption) ?_
    refine z_icmp_le (pc := 15) C 24 dX11_forest_15 (by decide) (fun hc15 => ?_) (fun hc15 => ?_)
    · exact absurd (show nI 0 ≤ x ∧ x ≤ nI len from ⟨Int32.not_lt.mp hc1, hc15⟩) (of_decide_eq_false hx)
    · skip
      refine z_aload_n (pc := 18) C dX11_forest_18 0 rfl ?_
      refine z_iconst (pc := 19) C dX11_forest_19 (nI 2) (by decide) ?_
      refine z_cV1 (pc := 20) mX11_refuse C [_] dX11_forest_20 lX11_70 mtX11_refuse (tX11_refuse hM) hM rfl rfl (by decide) (Nat.le_of_ble_eq_true rfl) (Nat.zero_le _) (Nat.zero_le _) ?_
      refine z_iret (pc := 23) C dX11_forest_23 rfl (Nat.zero_le _) (Nat.zero_le _) ⟨?_, ?_, rfl⟩
      · first | rfl | simp_all
      · rfl
