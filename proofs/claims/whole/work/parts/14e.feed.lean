def sWd (x1 x2 x3 x4 x5 : Int32) (i : Nat) : Int32 := if i < 4 then x1 else if i < 8 then x2 else if i < 12 then x3 else if i < 16 then x4 else x5
def sFk (B : Nat → Nat) (len : Nat) (W : Nat → Int32) (i : Nat) : Nat → Nat := fun j => if len ≤ j ∧ j < len + i then sby (W (j - len)) ((j - len) % 4) else B j
theorem sFk_0 (B : Nat → Nat) (len : Nat) (W : Nat → Int32) : sFk B len W 0 = B := by
  funext j
  exact if_neg (by omega)
theorem sFk_s (B : Nat → Nat) (len : Nat) (W : Nat → Int32) (i : Nat) : nup (sFk B len W i) (len + i) (sby (W i) (i % 4)) = sFk B len W (i + 1) := by
  funext j
  by_cases q : j = len + i
  · subst q
    rw [nup_same]
    unfold sFk
    rw [if_pos (by omega), Nat.add_sub_cancel_left]
  · rw [nup_ne q]
    unfold sFk
    by_cases z : len ≤ j ∧ j < len + i
    · rw [if_pos z, if_pos (by omega)]
    · rw [if_neg z, if_neg (by omega)]
theorem sFk_lt {B : Nat → Nat} {len : Nat} {W : Nat → Int32} {i : Nat} (h : ∀ j, j < len → B j < 256) : ∀ j, j < len + i → sFk B len W i j < 256 := by
  intro j hj
  unfold sFk
  split
  · exact sby_lt _ _
  · exact h j (by omega)
theorem sFk_5 {B B1 B2 B3 B4 B5 : Nat → Nat} {len : Nat} {x1 x2 x3 x4 x5 : Int32} (a1 : ∀ j, j < len ∨ len + 4 ≤ j → B1 j = B j) (b1 : ∀ i, i < 4 → B1 (len + i) = sby x1 i) (a2 : ∀ j, j < len + 4 ∨ len + 4 + 4 ≤ j → B2 j = B1 j) (b2 : ∀ i, i < 4 → B2 (len + 4 + i) = sby x2 i) (a3 : ∀ j, j < len + 4 + 4 ∨ len + 4 + 4 + 4 ≤ j → B3 j = B2 j) (b3 : ∀ i, i < 4 → B3 (len + 4 + 4 + i) = sby x3 i) (a4 : ∀ j, j < len + 4 + 4 + 4 ∨ len + 4 + 4 + 4 + 4 ≤ j → B4 j = B3 j) (b4 : ∀ i, i < 4 → B4 (len + 4 + 4 + 4 + i) = sby x4 i) (a5 : ∀ j, j < len + 4 + 4 + 4 + 4 ∨ len + 4 + 4 + 4 + 4 + 4 ≤ j → B5 j = B4 j) (b5 : ∀ i, i < 4 → B5 (len + 4 + 4 + 4 + 4 + i) = sby x5 i) : B5 = sFk B len (sWd x1 x2 x3 x4 x5) 20 := by
  funext j
  unfold sFk
  by_cases z : len ≤ j ∧ j < len + 20
  · rw [if_pos z]
    obtain ⟨k, rfl⟩ : ∃ k, j = len + k := ⟨j - len, by omega⟩
    rw [Nat.add_sub_cancel_left]
    unfold sWd
    rcases (show k < 4 ∨ (4 ≤ k ∧ k < 8) ∨ (8 ≤ k ∧ k < 12) ∨ (12 ≤ k ∧ k < 16) ∨ (16 ≤ k ∧ k < 20) by omega) with q | q | q | q | q
    · rw [if_pos q, a5 _ (by omega), a4 _ (by omega), a3 _ (by omega), a2 _ (by omega), b1 k q, Nat.mod_eq_of_lt q]
    · rw [if_neg (by omega), if_pos (by omega), a5 _ (by omega), a4 _ (by omega), a3 _ (by omega), show len + k = len + 4 + (k - 4) by omega, b2 _ (by omega), show k % 4 = k - 4 by omega]
    · rw [if_neg (by omega), if_neg (by omega), if_pos (by omega), a5 _ (by omega), a4 _ (by omega), show len + k = len + 4 + 4 + (k - 8) by omega, b3 _ (by omega), show k % 4 = k - 8 by omega]
    · rw [if_neg (by omega), if_neg (by omega), if_neg (by omega), if_pos (by omega), a5 _ (by omega), show len + k = len + 4 + 4 + 4 + (k - 12) by omega, b4 _ (by omega), show k % 4 = k - 12 by omega]
    · rw [if_neg (by omega), if_neg (by omega), if_neg (by omega), if_neg (by omega), show len + k = len + 4 + 4 + 4 + 4 + (k - 16) by omega, b5 _ (by omega), show k % 4 = k - 16 by omega]
  · rw [if_neg z, a5 _ (by omega), a4 _ (by omega), a3 _ (by omega), a2 _ (by omega), a1 _ (by omega)]

set_option maxRecDepth 20000 in
set_option maxHeartbeats 1000000 in
theorem tX11_feedN {h : ZH} {st : Nat} {ic tb fb pl : Int32} {ff fa so0 sa va en nx x1 x2 x3 x4 x5 : Int32} {co : Int64} {nc s len : Nat} {B : Nat → Nat} (hM : h 1000 = some (zO 7 (kfs st ic tb fb pl))) (h1 : h 1001 = some (zO 2 (rdf ff fa nc s))) (hT2 : h 1002 = some (zO 4 (tpf len so0 sa va co en nx))) (hl : 880 < len ∧ len ≤ 900) : ZD mX11_feed 1 [.ref 1000, .int x1, .int x2, .int x3, .int x4, .int x5] h (some (.int (-1))) h := by
  intro n
  refine z_enter (lv := [(0, _), (1, _), (2, _), (3, _), (4, _), (5, _)]) (by decide) (Nat.le_of_ble_eq_true rfl) rfl (fun X C => ?_)
  refine z_aload_n (pc := 0) C dX11_feed_0 0 rfl ?_
  refine z_getf (pc := 1) C dX11_feed_1 fX11_10 hM (by first | rfl | assumption) ?_
  refine z_getf (pc := 4) C dX11_feed_4 fX11_56 h1 (by first | rfl | assumption) ?_
  refine z_astore (pc := 7) (lv' := [(6, _), (0, _), (1, _), (2, _), (3, _), (4, _), (5, _)]) C dX11_feed_7 (by decide) rfl ?_
  refine z_aload (pc := 9) C dX11_feed_9 0 rfl ?_
  refine z_getf (pc := 11) C dX11_feed_11 fX11_60 hT2 (by first | rfl | assumption) ?_
  refine z_sipush (pc := 14) C dX11_feed_14 (nI 880) (by decide) ?_
  first | refine z_icmpleN (pc := 17) C 22 dX11_feed_17 (by decide) (by omega) (by omega) (fun hc17 => ?_) (fun hc17 => ?_) | refine z_icmp_le (pc := 17) C 22 dX11_feed_17 (by decide) (fun hc17 => ?_) (fun hc17 => ?_)
  · omega
  · skip
    refine z_iconst (pc := 20) C dX11_feed_20 (-1) (by decide) ?_
    refine z_iret (pc := 21) C dX11_feed_21 rfl (Nat.zero_le _) (Nat.zero_le _) ⟨?_, ?_, rfl⟩
    · first | rfl | simp_all
    · rfl

set_option maxRecDepth 20000 in
set_option maxHeartbeats 1000000 in
theorem tX11_feedY {h : ZH} {st : Nat} {ic tb fb pl : Int32} {ff fa so0 sa va en nx x1 x2 x3 x4 x5 : Int32} {co : Int64} {nc s len : Nat} {B : Nat → Nat} (hM : h 1000 = some (zO 7 (kfs st ic tb fb pl))) (h1 : h 1001 = some (zO 2 (rdf ff fa nc s))) (hT2 : h 1002 = some (zO 4 (tpf len so0 sa va co en nx))) (hT3 : h 1003 = some (zI 900 B)) (hl : len ≤ 880) : ZQ1 mX11_feed 1 [.ref 1000, .int x1, .int x2, .int x3, .int x4, .int x5] h (fun w hh => w = .int (nI (len + 20)) ∧ hh 1002 = some (zO 4 (tpf (len + 20) so0 sa va co en nx)) ∧ hh 1003 = some (zI 900 (sFk B len (sWd x1 x2 x3 x4 x5) 20)) ∧ ∀ a, a ≠ 1002 → a ≠ 1003 → hh a = h a) := by
  intro n
  refine z_enter (lv := [(0, _), (1, _), (2, _), (3, _), (4, _), (5, _)]) (by decide) (Nat.le_of_ble_eq_true rfl) rfl (fun X C => ?_)
  refine z_aload_n (pc := 0) C dX11_feed_0 0 rfl ?_
  refine z_getf (pc := 1) C dX11_feed_1 fX11_10 hM (by first | rfl | assumption) ?_
  refine z_getf (pc := 4) C dX11_feed_4 fX11_56 h1 (by first | rfl | assumption) ?_
  refine z_astore (pc := 7) (lv' := [(6, _), (0, _), (1, _), (2, _), (3, _), (4, _), (5, _)]) C dX11_feed_7 (by decide) rfl ?_
  refine z_aload (pc := 9) C dX11_feed_9 0 rfl ?_
  refine z_getf (pc := 11) C dX11_feed_11 fX11_60 hT2 (by first | rfl | assumption) ?_
  refine z_sipush (pc := 14) C dX11_feed_14 (nI 880) (by decide) ?_
  first | refine z_icmpleN (pc := 17) C 22 dX11_feed_17 (by decide) (by omega) (by omega) (fun hc17 => ?_) (fun hc17 => ?_) | refine z_icmp_le (pc := 17) C 22 dX11_feed_17 (by decide) (fun hc17 => ?_) (fun hc17 => ?_)
  · skip
    refine z_aload (pc := 22) C dX11_feed_22 0 rfl ?_
    refine z_iload_n (pc := 24) C dX11_feed_24 2 rfl ?_
    refine z_cV0Q (pc := 25) mX7_append C [_] dX11_feed_25 lX11_66 mtX7_append (tX7_append hT2 hT3 (by omega)) hT2 rfl rfl (by decide) (Nat.le_of_ble_eq_true rfl) (Nat.zero_le _) (Nat.zero_le _) ?_
    rintro k0 ⟨p0, ⟨B1, q0, a1, b1⟩, G0⟩
    refine z_aload (pc := 28) C dX11_feed_28 0 rfl ?_
    refine z_iload_n (pc := 30) C dX11_feed_30 3 rfl ?_
    refine z_cV0Q (pc := 31) mX7_append C [_] dX11_feed_31 lX11_66 mtX7_append (tX7_append p0 q0 (by omega)) p0 rfl rfl (by decide) (Nat.le_of_ble_eq_true rfl) (Nat.zero_le _) (Nat.zero_le _) ?_
    rintro k1 ⟨p1, ⟨B2, q1, a2, b2⟩, G1⟩
    refine z_aload (pc := 34) C dX11_feed_34 0 rfl ?_
    refine z_iload_n (pc := 36) C dX11_feed_36 4 rfl ?_
    refine z_cV0Q (pc := 37) mX7_append C [_] dX11_feed_37 lX11_66 mtX7_append (tX7_append p1 q1 (by omega)) p1 rfl rfl (by decide) (Nat.le_of_ble_eq_true rfl) (Nat.zero_le _) (Nat.zero_le _) ?_
    rintro k2 ⟨p2, ⟨B3, q2, a3, b3⟩, G2⟩
    refine z_aload (pc := 40) C dX11_feed_40 0 rfl ?_
    refine z_iload (pc := 42) C dX11_feed_42 5 rfl ?_
    refine z_cV0Q (pc := 44) mX7_append C [_] dX11_feed_44 lX11_66 mtX7_append (tX7_append p2 q2 (by omega)) p2 rfl rfl (by decide) (Nat.le_of_ble_eq_true rfl) (Nat.zero_le _) (Nat.zero_le _) ?_
    rintro k3 ⟨p3, ⟨B4, q3, a4, b4⟩, G3⟩
    refine z_aload (pc := 47) C dX11_feed_47 0 rfl ?_
    refine z_iload (pc := 49) C dX11_feed_49 6 rfl ?_
    refine z_cV0Q (pc := 51) mX7_append C [_] dX11_feed_51 lX11_66 mtX7_append (tX7_append p3 q3 (by omega)) p3 rfl rfl (by decide) (Nat.le_of_ble_eq_true rfl) (Nat.zero_le _) (Nat.zero_le _) ?_
    rintro k4 ⟨p4, ⟨B5, q4, a5, b5⟩, G4⟩
    refine z_aload (pc := 54) C dX11_feed_54 0 rfl ?_
    refine z_getf (pc := 56) C dX11_feed_56 fX11_60 p4 (by first | rfl | assumption) ?_
    refine z_iret (pc := 59) C dX11_feed_59 rfl (Nat.zero_le _) (Nat.zero_le _) ⟨_, rfl, ?_, rfl⟩
    exact ⟨rfl, p4, by rw [← sFk_5 a1 b1 a2 b2 a3 b3 a4 b4 a5 b5]; exact q4, fun a y1 y2 => (G4 a y1 y2).trans ((G3 a y1 y2).trans ((G2 a y1 y2).trans ((G1 a y1 y2).trans (G0 a y1 y2))))⟩
  · omega

set_option maxRecDepth 20000 in
set_option maxHeartbeats 1000000 in
theorem tX12_feedN {h : ZH} {v : Nat → Int32} {x1 x2 x3 x4 x5 : Int32} {len : Nat} {B : Nat → Nat} (hM : h 1063 = some (zO 8 (mfs v))) (hv2 : v 2 = nI len) (hl : 880 < len ∧ len ≤ 900) : ZD mX12_feed 0 [.ref 1063, .int x1, .int x2, .int x3, .int x4, .int x5] h (some (.int (-1))) (zup h 1063 (zO 8 (mfs (upd v 0 0)))) := by
  intro n
  refine z_enter (lv := [(0, _), (1, _), (2, _), (3, _), (4, _), (5, _)]) (by decide) (Nat.le_of_ble_eq_true rfl) rfl (fun X C => ?_)
  refine z_aload_n (pc := 0) C dX12_feed_0 0 rfl ?_
  refine z_iconst (pc := 1) C dX12_feed_1 (nI 0) (by decide) ?_
  refine z_putf (pc := 2) (fs' := mfs (upd _ 0 _)) C dX12_feed_2 gX12_56 hM (fun _ => ⟨rfl, rfl⟩) (by exact Nat.le_of_ble_eq_true rfl) (mfs_set _ 0 _ (by decide)) ?_
  refine z_aload_n (pc := 5) C dX12_feed_5 0 rfl ?_
  refine z_getf (pc := 6) C dX12_feed_6 fX12_62 (zup_same _ _ _) (by first | rfl | assumption) ?_
  refine z_top (show _ = nI len from hv2) ?_
  refine z_bipush (pc := 9) C dX12_feed_9 (nI 20) (by decide) ?_
  first | refine z_iaddN (pc := 11) C dX12_feed_11 ?_ | refine z_iadd (pc := 11) C dX12_feed_11 ?_
  refine z_sipush (pc := 12) C dX12_feed_12 (nI 900) (by decide) ?_
  first | refine z_icmpleN (pc := 15) C 20 dX12_feed_15 (by decide) (by omega) (by omega) (fun hc15 => ?_) (fun hc15 => ?_) | refine z_icmp_le (pc := 15) C 20 dX12_feed_15 (by decide) (fun hc15 => ?_) (fun hc15 => ?_)
  · omega
  · skip
    refine z_iconst (pc := 18) C dX12_feed_18 (-1) (by decide) ?_
    refine z_iret (pc := 19) C dX12_feed_19 rfl (Nat.zero_le _) (Nat.zero_le _) ⟨?_, ?_, rfl⟩
    · first | rfl | simp_all
    · rfl

set_option maxRecDepth 20000 in
set_option maxHeartbeats 1000000 in
theorem tX12_feedY {h : ZH} {v : Nat → Int32} {x1 x2 x3 x4 x5 : Int32} {len : Nat} {B : Nat → Nat} (hM : h 1063 = some (zO 8 (mfs v))) (hv2 : v 2 = nI len) (h64 : h 1064 = some (zI 900 B)) (hl : len ≤ 880) : ZQ1 mX12_feed 0 [.ref 1063, .int x1, .int x2, .int x3, .int x4, .int x5] h (fun w hh => w = .int (nI (len + 20)) ∧ (∃ v', hh 1063 = some (zO 8 (mfs v')) ∧ v' 0 = 0 ∧ v' 2 = nI (len + 20) ∧ ∀ i, i ≠ 0 → i ≠ 2 → v' i = v i) ∧ hh 1064 = some (zI 900 (sFk B len (sWd x1 x2 x3 x4 x5) 20)) ∧ ∀ a, a ≠ 1063 → a ≠ 1064 → hh a = h a) := by
  intro n
  refine z_enter (lv := [(0, _), (1, _), (2, _), (3, _), (4, _), (5, _)]) (by decide) (Nat.le_of_ble_eq_true rfl) rfl (fun X C => ?_)
  refine z_aload_n (pc := 0) C dX12_feed_0 0 rfl ?_
  refine z_iconst (pc := 1) C dX12_feed_1 (nI 0) (by decide) ?_
  refine z_putf (pc := 2) (fs' := mfs (upd _ 0 _)) C dX12_feed_2 gX12_56 hM (fun _ => ⟨rfl, rfl⟩) (by exact Nat.le_of_ble_eq_true rfl) (mfs_set _ 0 _ (by decide)) ?_
  refine z_aload_n (pc := 5) C dX12_feed_5 0 rfl ?_
  refine z_getf (pc := 6) C dX12_feed_6 fX12_62 (zup_same _ _ _) (by first | rfl | assumption) ?_
  refine z_top (show _ = nI len from hv2) ?_
  refine z_bipush (pc := 9) C dX12_feed_9 (nI 20) (by decide) ?_
  first | refine z_iaddN (pc := 11) C dX12_feed_11 ?_ | refine z_iadd (pc := 11) C dX12_feed_11 ?_
  refine z_sipush (pc := 12) C dX12_feed_12 (nI 900) (by decide) ?_
  first | refine z_icmpleN (pc := 15) C 20 dX12_feed_15 (by decide) (by omega) (by omega) (fun hc15 => ?_) (fun hc15 => ?_) | refine z_icmp_le (pc := 15) C 20 dX12_feed_15 (by decide) (fun hc15 => ?_) (fun hc15 => ?_)
  · skip
    refine z_iconst (pc := 20) C dX12_feed_20 (nI 0) (by decide) ?_
    refine z_istore (pc := 21) (lv' := [(6, _), (0, _), (1, _), (2, _), (3, _), (4, _), (5, _)]) C dX12_feed_21 (by decide) rfl ?_
    refine z_sub (lv' := [(0, _), (1, _), (2, _), (3, _), (4, _), (5, _), (6, _)]) [1, 2, 3, 4, 5, 6, 0] rfl ?_
    have lp23 : ∀ (f : Nat) (i : Nat) (h1 : ZH) (v1 : Nat → Int32), (i + f = 20 ∧ h1 1063 = some (zO 8 (mfs v1)) ∧ v1 2 = nI (len + i) ∧ v1 0 = 0 ∧ (∀ q, q ≠ 0 → q ≠ 2 → v1 q = v q) ∧ h1 1064 = some (zI 900 (sFk B len (sWd x1 x2 x3 x4 x5) i)) ∧ ∀ a, a ≠ 1063 → a ≠ 1064 → h1 a = h a) → Zc X mX12_feed (zEnd X (fun r hh n' => ∃ w, r = some w ∧ (w = .int (nI (len + 20)) ∧ (∃ v', hh 1063 = some (zO 8 (mfs v')) ∧ v' 0 = 0 ∧ v' 2 = nI (len + 20) ∧ ∀ i, i ≠ 0 → i ≠ 2 → v' i = v i) ∧ hh 1064 = some (zI 900 (sFk B len (sWd x1 x2 x3 x4 x5) 20)) ∧ ∀ a, a ≠ 1063 → a ≠ 1064 → hh a = h a) ∧ n' = n) 0 0) 23 [(0, .ref 1063), (1, .int x1), (2, .int x2), (3, .int x3), (4, .int x4), (5, .int x5), (6, .int (nI i))] [] h1 n 0 0 := by
      intro f
      induction f using Nat.strongRecOn with
      | _ f ih =>
        intro i h1 v1 hk
        obtain ⟨hk, m1, e2, e0, ev, q1, F1⟩ := hk
        refine z_iload (pc := 23) C dX12_feed_23 6 rfl ?_
        refine z_bipush (pc := 25) C dX12_feed_25 (nI 20) (by decide) ?_
        first | refine z_icmpgeN (pc := 27) C 120 dX12_feed_27 (by decide) (by omega) (by omega) (fun hc27 => ?_) (fun hc27 => ?_) | refine z_icmp_ge (pc := 27) C 120 dX12_feed_27 (by decide) (fun hc27 => ?_) (fun hc27 => ?_)
        · skip
          refine z_aload_n (pc := 120) C dX12_feed_120 0 rfl ?_
          refine z_getf (pc := 121) C dX12_feed_121 fX12_62 m1 (by first | rfl | assumption) ?_
          refine z_top e2 ?_
          refine z_iret (pc := 124) C dX12_feed_124 rfl (Nat.zero_le _) (Nat.zero_le _) ⟨_, rfl, ?_, rfl⟩
          obtain rfl : i = 20 := by omega
          exact ⟨rfl, ⟨v1, m1, e0, e2, ev⟩, q1, F1⟩
        · skip
          refine z_iload (pc := 30) C dX12_feed_30 6 rfl ?_
          refine z_iconst (pc := 32) C dX12_feed_32 (nI 4) (by decide) ?_
          first | refine z_icmpgeN (pc := 33) C 40 dX12_feed_33 (by decide) (by omega) (by omega) (fun hc33 => ?_) (fun hc33 => ?_) | refine z_icmp_ge (pc := 33) C 40 dX12_feed_33 (by decide) (fun hc33 => ?_) (fun hc33 => ?_)
          · skip
            refine z_iload (pc := 40) C dX12_feed_40 6 rfl ?_
            refine z_bipush (pc := 42) C dX12_feed_42 (nI 8) (by decide) ?_
            first | refine z_icmpgeN (pc := 44) C 51 dX12_feed_44 (by decide) (by omega) (by omega) (fun hc44 => ?_) (fun hc44 => ?_) | refine z_icmp_ge (pc := 44) C 51 dX12_feed_44 (by decide) (fun hc44 => ?_) (fun hc44 => ?_)
            · skip
              refine z_iload (pc := 51) C dX12_feed_51 6 rfl ?_
              refine z_bipush (pc := 53) C dX12_feed_53 (nI 12) (by decide) ?_
              first | refine z_icmpgeN (pc := 55) C 62 dX12_feed_55 (by decide) (by omega) (by omega) (fun hc55 => ?_) (fun hc55 => ?_) | refine z_icmp_ge (pc := 55) C 62 dX12_feed_55 (by decide) (fun hc55 => ?_) (fun hc55 => ?_)
              · skip
                refine z_iload (pc := 62) C dX12_feed_62 6 rfl ?_
                refine z_bipush (pc := 64) C dX12_feed_64 (nI 16) (by decide) ?_
                first | refine z_icmpgeN (pc := 66) C 74 dX12_feed_66 (by decide) (by omega) (by omega) (fun hc66 => ?_) (fun hc66 => ?_) | refine z_icmp_ge (pc := 66) C 74 dX12_feed_66 (by decide) (fun hc66 => ?_) (fun hc66 => ?_)
                · skip
                  refine z_iload (pc := 74) C dX12_feed_74 5 rfl ?_
                  refine z_top (y := (sWd x1 x2 x3 x4 x5) i) (by unfold sWd; repeat (first | rfl | rw [if_pos (by omega)] | rw [if_neg (by omega)])) ?_
                  refine z_istore (pc := 76) (lv' := [(7, _), (0, _), (1, _), (2, _), (3, _), (4, _), (5, _), (6, _)]) C dX12_feed_76 (by decide) rfl ?_
                  refine z_aload_n (pc := 78) C dX12_feed_78 1 rfl ?_
                  refine z_getf (pc := 79) C dX12_feed_79 fX12_7 m1 (by first | rfl | assumption) ?_
                  refine z_aload_n (pc := 82) C dX12_feed_82 1 rfl ?_
                  refine z_getf (pc := 83) C dX12_feed_83 fX12_62 m1 (by first | rfl | assumption) ?_
                  refine z_top e2 ?_
                  refine z_iload (pc := 86) C dX12_feed_86 0 rfl ?_
                  refine z_bipush (pc := 88) C dX12_feed_88 (nI 24) (by decide) ?_
                  refine z_bipush (pc := 90) C dX12_feed_90 (nI 8) (by decide) ?_
                  refine z_iload (pc := 92) C dX12_feed_92 7 rfl ?_
                  refine z_iconst (pc := 94) C dX12_feed_94 (nI 4) (by decide) ?_
                  first | refine z_iremN (pc := 95) C dX12_feed_95 (by omega) (by omega) (by omega) ?_ | refine z_irem (pc := 95) C dX12_feed_95 (by decide) ?_
                  first | refine z_imulN (pc := 96) C dX12_feed_96 ?_ | refine z_imul (pc := 96) C dX12_feed_96 ?_
                  first | refine z_isubN (pc := 97) C dX12_feed_97 (by omega) ?_ | refine z_isub (pc := 97) C dX12_feed_97 ?_
                  refine z_top (shf_nI ⟨i % 4, Nat.mod_lt _ (by decide)⟩) ?_
                  first | refine z_ishrN (pc := 98) C dX12_feed_98 (by omega) (by omega) ?_ | refine z_ishr (pc := 98) C dX12_feed_98 ?_
                  refine z_sipush (pc := 99) C dX12_feed_99 (nI 255) (by decide) ?_
                  refine z_iand (pc := 102) C dX12_feed_102 ?_
                  refine z_top (sby_eq _ _) ?_
                  first | refine z_iastN (pc := 103) C dX12_feed_103 q1 (by omega) (by decide) ?_ | refine z_iastI (pc := 103) C dX12_feed_103 q1 (by omega) (by decide) ?_
                  refine z_aload_n (pc := 104) C dX12_feed_104 1 rfl ?_
                  refine z_dup (pc := 105) C dX12_feed_105 rfl ?_
                  refine z_getf (pc := 106) C dX12_feed_106 fX12_62 ((zup_ne (by decide)).trans m1) (by first | rfl | assumption) ?_
                  refine z_top e2 ?_
                  refine z_iconst (pc := 109) C dX12_feed_109 (nI 1) (by decide) ?_
                  first | refine z_iaddN (pc := 110) C dX12_feed_110 ?_ | refine z_iadd (pc := 110) C dX12_feed_110 ?_
                  refine z_putf (pc := 111) (fs' := mfs (upd _ 2 _)) C dX12_feed_111 gX12_62 ((zup_ne (by decide)).trans m1) (fun _ => ⟨rfl, rfl⟩) (by exact Nat.le_of_ble_eq_true rfl) (mfs_set _ 2 _ (by decide)) ?_
                  first | refine z_iincN (pc := 114) (lv' := [(6, _), (7, _), (0, _), (1, _), (2, _), (3, _), (4, _), (5, _)]) C 1 dX12_feed_114 7 rfl (by decide) (by decide) rfl ?_ | refine z_iinc (pc := 114) (lv' := [(6, _), (7, _), (0, _), (1, _), (2, _), (3, _), (4, _), (5, _)]) C dX12_feed_114 7 rfl _ rfl (by decide) rfl ?_
                  refine z_goto (pc := 117) C 23 dX12_feed_117 (by decide) ?_
                  refine z_sub (lv' := [(0, _), (1, _), (2, _), (3, _), (4, _), (5, _), (6, _)]) [2, 3, 4, 5, 6, 7, 0] rfl ?_
                  exact ih (f - 1) (by omega) (i + 1) _ (upd v1 2 (nI (len + i + 1))) ⟨by omega, zup_same _ _ _, rfl, e0, fun q y1 y2 => (by unfold upd; rw [if_neg y2]; exact ev q y1 y2), by rw [← sFk_s]; exact (zup_ne (by decide)).trans (zup_same _ _ _), fun a y1 y2 => (zup_ne y1).trans ((zup_ne y2).trans (F1 a y1 y2))⟩
                · skip
                  refine z_iload (pc := 69) C dX12_feed_69 4 rfl ?_
                  refine z_goto (pc := 71) C 76 dX12_feed_71 (by decide) ?_
                  refine z_top (y := (sWd x1 x2 x3 x4 x5) i) (by unfold sWd; repeat (first | rfl | rw [if_pos (by omega)] | rw [if_neg (by omega)])) ?_
                  refine z_istore (pc := 76) (lv' := [(7, _), (0, _), (1, _), (2, _), (3, _), (4, _), (5, _), (6, _)]) C dX12_feed_76 (by decide) rfl ?_
                  refine z_aload_n (pc := 78) C dX12_feed_78 1 rfl ?_
                  refine z_getf (pc := 79) C dX12_feed_79 fX12_7 m1 (by first | rfl | assumption) ?_
                  refine z_aload_n (pc := 82) C dX12_feed_82 1 rfl ?_
                  refine z_getf (pc := 83) C dX12_feed_83 fX12_62 m1 (by first | rfl | assumption) ?_
                  refine z_top e2 ?_
                  refine z_iload (pc := 86) C dX12_feed_86 0 rfl ?_
                  refine z_bipush (pc := 88) C dX12_feed_88 (nI 24) (by decide) ?_
                  refine z_bipush (pc := 90) C dX12_feed_90 (nI 8) (by decide) ?_
                  refine z_iload (pc := 92) C dX12_feed_92 7 rfl ?_
                  refine z_iconst (pc := 94) C dX12_feed_94 (nI 4) (by decide) ?_
                  first | refine z_iremN (pc := 95) C dX12_feed_95 (by omega) (by omega) (by omega) ?_ | refine z_irem (pc := 95) C dX12_feed_95 (by decide) ?_
                  first | refine z_imulN (pc := 96) C dX12_feed_96 ?_ | refine z_imul (pc := 96) C dX12_feed_96 ?_
                  first | refine z_isubN (pc := 97) C dX12_feed_97 (by omega) ?_ | refine z_isub (pc := 97) C dX12_feed_97 ?_
                  refine z_top (shf_nI ⟨i % 4, Nat.mod_lt _ (by decide)⟩) ?_
                  first | refine z_ishrN (pc := 98) C dX12_feed_98 (by omega) (by omega) ?_ | refine z_ishr (pc := 98) C dX12_feed_98 ?_
                  refine z_sipush (pc := 99) C dX12_feed_99 (nI 255) (by decide) ?_
                  refine z_iand (pc := 102) C dX12_feed_102 ?_
                  refine z_top (sby_eq _ _) ?_
                  first | refine z_iastN (pc := 103) C dX12_feed_103 q1 (by omega) (by decide) ?_ | refine z_iastI (pc := 103) C dX12_feed_103 q1 (by omega) (by decide) ?_
                  refine z_aload_n (pc := 104) C dX12_feed_104 1 rfl ?_
                  refine z_dup (pc := 105) C dX12_feed_105 rfl ?_
                  refine z_getf (pc := 106) C dX12_feed_106 fX12_62 ((zup_ne (by decide)).trans m1) (by first | rfl | assumption) ?_
                  refine z_top e2 ?_
                  refine z_iconst (pc := 109) C dX12_feed_109 (nI 1) (by decide) ?_
                  first | refine z_iaddN (pc := 110) C dX12_feed_110 ?_ | refine z_iadd (pc := 110) C dX12_feed_110 ?_
                  refine z_putf (pc := 111) (fs' := mfs (upd _ 2 _)) C dX12_feed_111 gX12_62 ((zup_ne (by decide)).trans m1) (fun _ => ⟨rfl, rfl⟩) (by exact Nat.le_of_ble_eq_true rfl) (mfs_set _ 2 _ (by decide)) ?_
                  first | refine z_iincN (pc := 114) (lv' := [(6, _), (7, _), (0, _), (1, _), (2, _), (3, _), (4, _), (5, _)]) C 1 dX12_feed_114 7 rfl (by decide) (by decide) rfl ?_ | refine z_iinc (pc := 114) (lv' := [(6, _), (7, _), (0, _), (1, _), (2, _), (3, _), (4, _), (5, _)]) C dX12_feed_114 7 rfl _ rfl (by decide) rfl ?_
                  refine z_goto (pc := 117) C 23 dX12_feed_117 (by decide) ?_
                  refine z_sub (lv' := [(0, _), (1, _), (2, _), (3, _), (4, _), (5, _), (6, _)]) [2, 3, 4, 5, 6, 7, 0] rfl ?_
                  exact ih (f - 1) (by omega) (i + 1) _ (upd v1 2 (nI (len + i + 1))) ⟨by omega, zup_same _ _ _, rfl, e0, fun q y1 y2 => (by unfold upd; rw [if_neg y2]; exact ev q y1 y2), by rw [← sFk_s]; exact (zup_ne (by decide)).trans (zup_same _ _ _), fun a y1 y2 => (zup_ne y1).trans ((zup_ne y2).trans (F1 a y1 y2))⟩
              · skip
                refine z_iload_n (pc := 58) C dX12_feed_58 3 rfl ?_
                refine z_goto (pc := 59) C 76 dX12_feed_59 (by decide) ?_
                refine z_top (y := (sWd x1 x2 x3 x4 x5) i) (by unfold sWd; repeat (first | rfl | rw [if_pos (by omega)] | rw [if_neg (by omega)])) ?_
                refine z_istore (pc := 76) (lv' := [(7, _), (0, _), (1, _), (2, _), (3, _), (4, _), (5, _), (6, _)]) C dX12_feed_76 (by decide) rfl ?_
                refine z_aload_n (pc := 78) C dX12_feed_78 1 rfl ?_
                refine z_getf (pc := 79) C dX12_feed_79 fX12_7 m1 (by first | rfl | assumption) ?_
                refine z_aload_n (pc := 82) C dX12_feed_82 1 rfl ?_
                refine z_getf (pc := 83) C dX12_feed_83 fX12_62 m1 (by first | rfl | assumption) ?_
                refine z_top e2 ?_
                refine z_iload (pc := 86) C dX12_feed_86 0 rfl ?_
                refine z_bipush (pc := 88) C dX12_feed_88 (nI 24) (by decide) ?_
                refine z_bipush (pc := 90) C dX12_feed_90 (nI 8) (by decide) ?_
                refine z_iload (pc := 92) C dX12_feed_92 7 rfl ?_
                refine z_iconst (pc := 94) C dX12_feed_94 (nI 4) (by decide) ?_
                first | refine z_iremN (pc := 95) C dX12_feed_95 (by omega) (by omega) (by omega) ?_ | refine z_irem (pc := 95) C dX12_feed_95 (by decide) ?_
                first | refine z_imulN (pc := 96) C dX12_feed_96 ?_ | refine z_imul (pc := 96) C dX12_feed_96 ?_
                first | refine z_isubN (pc := 97) C dX12_feed_97 (by omega) ?_ | refine z_isub (pc := 97) C dX12_feed_97 ?_
                refine z_top (shf_nI ⟨i % 4, Nat.mod_lt _ (by decide)⟩) ?_
                first | refine z_ishrN (pc := 98) C dX12_feed_98 (by omega) (by omega) ?_ | refine z_ishr (pc := 98) C dX12_feed_98 ?_
                refine z_sipush (pc := 99) C dX12_feed_99 (nI 255) (by decide) ?_
                refine z_iand (pc := 102) C dX12_feed_102 ?_
                refine z_top (sby_eq _ _) ?_
                first | refine z_iastN (pc := 103) C dX12_feed_103 q1 (by omega) (by decide) ?_ | refine z_iastI (pc := 103) C dX12_feed_103 q1 (by omega) (by decide) ?_
                refine z_aload_n (pc := 104) C dX12_feed_104 1 rfl ?_
                refine z_dup (pc := 105) C dX12_feed_105 rfl ?_
                refine z_getf (pc := 106) C dX12_feed_106 fX12_62 ((zup_ne (by decide)).trans m1) (by first | rfl | assumption) ?_
                refine z_top e2 ?_
                refine z_iconst (pc := 109) C dX12_feed_109 (nI 1) (by decide) ?_
                first | refine z_iaddN (pc := 110) C dX12_feed_110 ?_ | refine z_iadd (pc := 110) C dX12_feed_110 ?_
                refine z_putf (pc := 111) (fs' := mfs (upd _ 2 _)) C dX12_feed_111 gX12_62 ((zup_ne (by decide)).trans m1) (fun _ => ⟨rfl, rfl⟩) (by exact Nat.le_of_ble_eq_true rfl) (mfs_set _ 2 _ (by decide)) ?_
                first | refine z_iincN (pc := 114) (lv' := [(6, _), (7, _), (0, _), (1, _), (2, _), (3, _), (4, _), (5, _)]) C 1 dX12_feed_114 7 rfl (by decide) (by decide) rfl ?_ | refine z_iinc (pc := 114) (lv' := [(6, _), (7, _), (0, _), (1, _), (2, _), (3, _), (4, _), (5, _)]) C dX12_feed_114 7 rfl _ rfl (by decide) rfl ?_
                refine z_goto (pc := 117) C 23 dX12_feed_117 (by decide) ?_
                refine z_sub (lv' := [(0, _), (1, _), (2, _), (3, _), (4, _), (5, _), (6, _)]) [2, 3, 4, 5, 6, 7, 0] rfl ?_
                exact ih (f - 1) (by omega) (i + 1) _ (upd v1 2 (nI (len + i + 1))) ⟨by omega, zup_same _ _ _, rfl, e0, fun q y1 y2 => (by unfold upd; rw [if_neg y2]; exact ev q y1 y2), by rw [← sFk_s]; exact (zup_ne (by decide)).trans (zup_same _ _ _), fun a y1 y2 => (zup_ne y1).trans ((zup_ne y2).trans (F1 a y1 y2))⟩
            · skip
              refine z_iload_n (pc := 47) C dX12_feed_47 2 rfl ?_
              refine z_goto (pc := 48) C 76 dX12_feed_48 (by decide) ?_
              refine z_top (y := (sWd x1 x2 x3 x4 x5) i) (by unfold sWd; repeat (first | rfl | rw [if_pos (by omega)] | rw [if_neg (by omega)])) ?_
              refine z_istore (pc := 76) (lv' := [(7, _), (0, _), (1, _), (2, _), (3, _), (4, _), (5, _), (6, _)]) C dX12_feed_76 (by decide) rfl ?_
              refine z_aload_n (pc := 78) C dX12_feed_78 1 rfl ?_
              refine z_getf (pc := 79) C dX12_feed_79 fX12_7 m1 (by first | rfl | assumption) ?_
              refine z_aload_n (pc := 82) C dX12_feed_82 1 rfl ?_
              refine z_getf (pc := 83) C dX12_feed_83 fX12_62 m1 (by first | rfl | assumption) ?_
              refine z_top e2 ?_
              refine z_iload (pc := 86) C dX12_feed_86 0 rfl ?_
              refine z_bipush (pc := 88) C dX12_feed_88 (nI 24) (by decide) ?_
              refine z_bipush (pc := 90) C dX12_feed_90 (nI 8) (by decide) ?_
              refine z_iload (pc := 92) C dX12_feed_92 7 rfl ?_
              refine z_iconst (pc := 94) C dX12_feed_94 (nI 4) (by decide) ?_
              first | refine z_iremN (pc := 95) C dX12_feed_95 (by omega) (by omega) (by omega) ?_ | refine z_irem (pc := 95) C dX12_feed_95 (by decide) ?_
              first | refine z_imulN (pc := 96) C dX12_feed_96 ?_ | refine z_imul (pc := 96) C dX12_feed_96 ?_
              first | refine z_isubN (pc := 97) C dX12_feed_97 (by omega) ?_ | refine z_isub (pc := 97) C dX12_feed_97 ?_
              refine z_top (shf_nI ⟨i % 4, Nat.mod_lt _ (by decide)⟩) ?_
              first | refine z_ishrN (pc := 98) C dX12_feed_98 (by omega) (by omega) ?_ | refine z_ishr (pc := 98) C dX12_feed_98 ?_
              refine z_sipush (pc := 99) C dX12_feed_99 (nI 255) (by decide) ?_
              refine z_iand (pc := 102) C dX12_feed_102 ?_
              refine z_top (sby_eq _ _) ?_
              first | refine z_iastN (pc := 103) C dX12_feed_103 q1 (by omega) (by decide) ?_ | refine z_iastI (pc := 103) C dX12_feed_103 q1 (by omega) (by decide) ?_
              refine z_aload_n (pc := 104) C dX12_feed_104 1 rfl ?_
              refine z_dup (pc := 105) C dX12_feed_105 rfl ?_
              refine z_getf (pc := 106) C dX12_feed_106 fX12_62 ((zup_ne (by decide)).trans m1) (by first | rfl | assumption) ?_
              refine z_top e2 ?_
              refine z_iconst (pc := 109) C dX12_feed_109 (nI 1) (by decide) ?_
              first | refine z_iaddN (pc := 110) C dX12_feed_110 ?_ | refine z_iadd (pc := 110) C dX12_feed_110 ?_
              refine z_putf (pc := 111) (fs' := mfs (upd _ 2 _)) C dX12_feed_111 gX12_62 ((zup_ne (by decide)).trans m1) (fun _ => ⟨rfl, rfl⟩) (by exact Nat.le_of_ble_eq_true rfl) (mfs_set _ 2 _ (by decide)) ?_
              first | refine z_iincN (pc := 114) (lv' := [(6, _), (7, _), (0, _), (1, _), (2, _), (3, _), (4, _), (5, _)]) C 1 dX12_feed_114 7 rfl (by decide) (by decide) rfl ?_ | refine z_iinc (pc := 114) (lv' := [(6, _), (7, _), (0, _), (1, _), (2, _), (3, _), (4, _), (5, _)]) C dX12_feed_114 7 rfl _ rfl (by decide) rfl ?_
              refine z_goto (pc := 117) C 23 dX12_feed_117 (by decide) ?_
              refine z_sub (lv' := [(0, _), (1, _), (2, _), (3, _), (4, _), (5, _), (6, _)]) [2, 3, 4, 5, 6, 7, 0] rfl ?_
              exact ih (f - 1) (by omega) (i + 1) _ (upd v1 2 (nI (len + i + 1))) ⟨by omega, zup_same _ _ _, rfl, e0, fun q y1 y2 => (by unfold upd; rw [if_neg y2]; exact ev q y1 y2), by rw [← sFk_s]; exact (zup_ne (by decide)).trans (zup_same _ _ _), fun a y1 y2 => (zup_ne y1).trans ((zup_ne y2).trans (F1 a y1 y2))⟩
          · skip
            refine z_iload_n (pc := 36) C dX12_feed_36 1 rfl ?_
            refine z_goto (pc := 37) C 76 dX12_feed_37 (by decide) ?_
            refine z_top (y := (sWd x1 x2 x3 x4 x5) i) (by unfold sWd; repeat (first | rfl | rw [if_pos (by omega)] | rw [if_neg (by omega)])) ?_
            refine z_istore (pc := 76) (lv' := [(7, _), (0, _), (1, _), (2, _), (3, _), (4, _), (5, _), (6, _)]) C dX12_feed_76 (by decide) rfl ?_
            refine z_aload_n (pc := 78) C dX12_feed_78 1 rfl ?_
            refine z_getf (pc := 79) C dX12_feed_79 fX12_7 m1 (by first | rfl | assumption) ?_
            refine z_aload_n (pc := 82) C dX12_feed_82 1 rfl ?_
            refine z_getf (pc := 83) C dX12_feed_83 fX12_62 m1 (by first | rfl | assumption) ?_
            refine z_top e2 ?_
            refine z_iload (pc := 86) C dX12_feed_86 0 rfl ?_
            refine z_bipush (pc := 88) C dX12_feed_88 (nI 24) (by decide) ?_
            refine z_bipush (pc := 90) C dX12_feed_90 (nI 8) (by decide) ?_
            refine z_iload (pc := 92) C dX12_feed_92 7 rfl ?_
            refine z_iconst (pc := 94) C dX12_feed_94 (nI 4) (by decide) ?_
            first | refine z_iremN (pc := 95) C dX12_feed_95 (by omega) (by omega) (by omega) ?_ | refine z_irem (pc := 95) C dX12_feed_95 (by decide) ?_
            first | refine z_imulN (pc := 96) C dX12_feed_96 ?_ | refine z_imul (pc := 96) C dX12_feed_96 ?_
            first | refine z_isubN (pc := 97) C dX12_feed_97 (by omega) ?_ | refine z_isub (pc := 97) C dX12_feed_97 ?_
            refine z_top (shf_nI ⟨i % 4, Nat.mod_lt _ (by decide)⟩) ?_
            first | refine z_ishrN (pc := 98) C dX12_feed_98 (by omega) (by omega) ?_ | refine z_ishr (pc := 98) C dX12_feed_98 ?_
            refine z_sipush (pc := 99) C dX12_feed_99 (nI 255) (by decide) ?_
            refine z_iand (pc := 102) C dX12_feed_102 ?_
            refine z_top (sby_eq _ _) ?_
            first | refine z_iastN (pc := 103) C dX12_feed_103 q1 (by omega) (by decide) ?_ | refine z_iastI (pc := 103) C dX12_feed_103 q1 (by omega) (by decide) ?_
            refine z_aload_n (pc := 104) C dX12_feed_104 1 rfl ?_
            refine z_dup (pc := 105) C dX12_feed_105 rfl ?_
            refine z_getf (pc := 106) C dX12_feed_106 fX12_62 ((zup_ne (by decide)).trans m1) (by first | rfl | assumption) ?_
            refine z_top e2 ?_
            refine z_iconst (pc := 109) C dX12_feed_109 (nI 1) (by decide) ?_
            first | refine z_iaddN (pc := 110) C dX12_feed_110 ?_ | refine z_iadd (pc := 110) C dX12_feed_110 ?_
            refine z_putf (pc := 111) (fs' := mfs (upd _ 2 _)) C dX12_feed_111 gX12_62 ((zup_ne (by decide)).trans m1) (fun _ => ⟨rfl, rfl⟩) (by exact Nat.le_of_ble_eq_true rfl) (mfs_set _ 2 _ (by decide)) ?_
            first | refine z_iincN (pc := 114) (lv' := [(6, _), (7, _), (0, _), (1, _), (2, _), (3, _), (4, _), (5, _)]) C 1 dX12_feed_114 7 rfl (by decide) (by decide) rfl ?_ | refine z_iinc (pc := 114) (lv' := [(6, _), (7, _), (0, _), (1, _), (2, _), (3, _), (4, _), (5, _)]) C dX12_feed_114 7 rfl _ rfl (by decide) rfl ?_
            refine z_goto (pc := 117) C 23 dX12_feed_117 (by decide) ?_
            refine z_sub (lv' := [(0, _), (1, _), (2, _), (3, _), (4, _), (5, _), (6, _)]) [2, 3, 4, 5, 6, 7, 0] rfl ?_
            exact ih (f - 1) (by omega) (i + 1) _ (upd v1 2 (nI (len + i + 1))) ⟨by omega, zup_same _ _ _, rfl, e0, fun q y1 y2 => (by unfold upd; rw [if_neg y2]; exact ev q y1 y2), by rw [← sFk_s]; exact (zup_ne (by decide)).trans (zup_same _ _ _), fun a y1 y2 => (zup_ne y1).trans ((zup_ne y2).trans (F1 a y1 y2))⟩
    exact lp23 20 0 _ (upd v 0 0) ⟨rfl, zup_same _ _ _, hv2, rfl, fun q y1 y2 => (by unfold upd; rw [if_neg y1]), by rw [sFk_0]; exact (zup_ne (by decide)).trans h64, fun a y1 y2 => zup_ne y1⟩
  · omega
