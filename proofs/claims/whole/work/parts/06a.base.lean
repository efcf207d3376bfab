theorem zbit (a k : Nat) : a >>> k &&& 1 = 1 ↔ a.testBit k = true := by
  rw [Nat.testBit, Nat.and_comm 1]
  have : a >>> k &&& 1 = (a >>> k) % 2 := Nat.and_one_is_mod _
  rw [this]
  have h2 : (a >>> k) % 2 < 2 := Nat.mod_lt _ (by decide)
  simp only [bne_iff_ne, ne_eq]
  omega
/-- where a trail is out of the light -/
def sdark (S : Nat → Nat) (m : Nat) : Nat → Nat → Option Nat
  | 0, _ => none
  | f + 1, k => if (S 38).testBit (S (8 * m + k)) then sdark S m f (k + 1) else some (S (8 * m + k))
def sbeh (R : Nat → Nat) (m far : Nat) : Nat := if R (30 + m) = 2 then 2 * far else if R (30 + m) = 1 then far + 1 else if R (30 + m) = 3 then 0 else far
def sstd (R S : Nat → Nat) (k : Nat) : Option Nat := sdark S (S (32 + k)) (8 - sbeh R (S (32 + k)) (R (34 + 4 * k + 1))) (sbeh R (S (32 + k)) (R (34 + 4 * k + 1)))

set_option maxRecDepth 20000 in
set_option maxHeartbeats 1000000 in
theorem tX12_hasBit {h : ZH} {a k : Nat} (ha : a < 2147483648) (hk : k < 32) : ZD mX12_hasBit 0 [.int (nI a), .int (nI k)] h (some (.int (zb (a.testBit k)))) h := by
  intro n
  refine z_enter (lv := [(0, _), (1, _)]) (by decide) (Nat.le_of_ble_eq_true rfl) rfl (fun X C => ?_)
  refine z_iload_n (pc := 0) C dX12_hasBit_0 0 rfl ?_
  refine z_iload_n (pc := 1) C dX12_hasBit_1 1 rfl ?_
  first | refine z_ishrN (pc := 2) C dX12_hasBit_2 (by omega) (by omega) ?_ | refine z_ishr (pc := 2) C dX12_hasBit_2 ?_
  refine z_iconst (pc := 3) C dX12_hasBit_3 (nI 1) (by decide) ?_
  first | refine z_iandN (pc := 4) C dX12_hasBit_4 ?_ | refine z_iand (pc := 4) C dX12_hasBit_4 ?_
  refine z_iconst (pc := 5) C dX12_hasBit_5 (nI 1) (by decide) ?_
  have e1 : a >>> k &&& 1 < 2147483648 := Nat.lt_of_le_of_lt Nat.and_le_right (by decide)
  first | refine z_icmpneN (pc := 6) C 13 dX12_hasBit_6 (by decide) (by omega) (by omega) (fun hc6 => ?_) (fun hc6 => ?_) | refine z_icmp_ne (pc := 6) C 13 dX12_hasBit_6 (by decide) (fun hc6 => ?_) (fun hc6 => ?_)
  · skip
    refine z_iconst (pc := 13) C dX12_hasBit_13 (nI 0) (by decide) ?_
    refine z_zret (pc := 14) C dX12_hasBit_14 rfl (by first | exact zb_nar _ | rfl) (Nat.zero_le _) (Nat.zero_le _) ⟨?_, ?_, rfl⟩
    · first | (rw [(zbit a k).mp hc6]; rfl) | (rw [show a.testBit k = false from by rw [← Bool.not_eq_true]; exact fun q => hc6 ((zbit a k).mpr q)]; rfl)
    · rfl
  · skip
    refine z_iconst (pc := 9) C dX12_hasBit_9 (nI 1) (by decide) ?_
    refine z_goto (pc := 10) C 14 dX12_hasBit_10 (by decide) ?_
    refine z_zret (pc := 14) C dX12_hasBit_14 rfl (by first | exact zb_nar _ | rfl) (Nat.zero_le _) (Nat.zero_le _) ⟨?_, ?_, rfl⟩
    · first | (rw [(zbit a k).mp hc6]; rfl) | (rw [show a.testBit k = false from by rw [← Bool.not_eq_true]; exact fun q => hc6 ((zbit a k).mpr q)]; rfl)
    · rfl

set_option maxRecDepth 20000 in
set_option maxHeartbeats 1000000 in
theorem tX11_has {h : ZH} {a k : Nat} (ha : a < 2147483648) (hk : k < 32) : ZD mX11_has 0 [.int (nI a), .int (nI k)] h (some (.int (zb (a.testBit k)))) h := by
  intro n
  refine z_enter (lv := [(0, _), (1, _)]) (by decide) (Nat.le_of_ble_eq_true rfl) rfl (fun X C => ?_)
  refine z_iload_n (pc := 0) C dX11_has_0 0 rfl ?_
  refine z_iload_n (pc := 1) C dX11_has_1 1 rfl ?_
  first | refine z_ishrN (pc := 2) C dX11_has_2 (by omega) (by omega) ?_ | refine z_ishr (pc := 2) C dX11_has_2 ?_
  refine z_iconst (pc := 3) C dX11_has_3 (nI 1) (by decide) ?_
  first | refine z_iandN (pc := 4) C dX11_has_4 ?_ | refine z_iand (pc := 4) C dX11_has_4 ?_
  refine z_iconst (pc := 5) C dX11_has_5 (nI 1) (by decide) ?_
  have e1 : a >>> k &&& 1 < 2147483648 := Nat.lt_of_le_of_lt Nat.and_le_right (by decide)
  first | refine z_icmpneN (pc := 6) C 13 dX11_has_6 (by decide) (by omega) (by omega) (fun hc6 => ?_) (fun hc6 => ?_) | refine z_icmp_ne (pc := 6) C 13 dX11_has_6 (by decide) (fun hc6 => ?_) (fun hc6 => ?_)
  · skip
    refine z_iconst (pc := 13) C dX11_has_13 (nI 0) (by decide) ?_
    refine z_zret (pc := 14) C dX11_has_14 rfl (by first | exact zb_nar _ | rfl) (Nat.zero_le _) (Nat.zero_le _) ⟨?_, ?_, rfl⟩
    · first | (rw [(zbit a k).mp hc6]; rfl) | (rw [show a.testBit k = false from by rw [← Bool.not_eq_true]; exact fun q => hc6 ((zbit a k).mpr q)]; rfl)
    · rfl
  · skip
    refine z_iconst (pc := 9) C dX11_has_9 (nI 1) (by decide) ?_
    refine z_goto (pc := 10) C 14 dX11_has_10 (by decide) ?_
    refine z_zret (pc := 14) C dX11_has_14 rfl (by first | exact zb_nar _ | rfl) (Nat.zero_le _) (Nat.zero_le _) ⟨?_, ?_, rfl⟩
    · first | (rw [(zbit a k).mp hc6]; rfl) | (rw [show a.testBit k = false from by rw [← Bool.not_eq_true]; exact fun q => hc6 ((zbit a k).mpr q)]; rfl)
    · rfl

set_option maxRecDepth 20000 in
set_option maxHeartbeats 1000000 in
theorem tX12_in {h : ZH} {v lo hi : Int32}  : ZD mX12_in 0 [.int v, .int lo, .int hi] h (some (.int (zb (decide (lo ≤ v ∧ v ≤ hi))))) h := by
  intro n
  refine z_enter (lv := [(0, _), (1, _), (2, _)]) (by decide) (Nat.le_of_ble_eq_true rfl) rfl (fun X C => ?_)
  refine z_iload_n (pc := 0) C dX12_in_0 0 rfl ?_
  refine z_iload_n (pc := 1) C dX12_in_1 1 rfl ?_
  refine z_icmp_lt (pc := 2) C 14 dX12_in_2 (by decide) (fun hc2 => ?_) (fun hc2 => ?_)
  · skip
    refine z_iconst (pc := 14) C dX12_in_14 (nI 0) (by decide) ?_
    refine z_zret (pc := 15) C dX12_in_15 rfl (by first | exact zb_nar _ | rfl) (Nat.zero_le _) (Nat.zero_le _) ⟨?_, ?_, rfl⟩
    · first | (rw [show decide (lo ≤ v ∧ v ≤ hi) = true from decide_eq_true ⟨Int32.not_lt.mp hc2, Int32.not_lt.mp hc7⟩]; rfl) | (rw [show decide (lo ≤ v ∧ v ≤ hi) = false from decide_eq_false (fun q => absurd hc7 (Int32.not_lt.mpr q.2))]; rfl) | (rw [show decide (lo ≤ v ∧ v ≤ hi) = false from decide_eq_false (fun q => absurd hc2 (Int32.not_lt.mpr q.1))]; rfl)
    · rfl
  · skip
    refine z_iload_n (pc := 5) C dX12_in_5 0 rfl ?_
    refine z_iload_n (pc := 6) C dX12_in_6 2 rfl ?_
    refine z_icmp_gt (pc := 7) C 14 dX12_in_7 (by decide) (fun hc7 => ?_) (fun hc7 => ?_)
    · skip
      refine z_iconst (pc := 14) C dX12_in_14 (nI 0) (by decide) ?_
      refine z_zret (pc := 15) C dX12_in_15 rfl (by first | exact zb_nar _ | rfl) (Nat.zero_le _) (Nat.zero_le _) ⟨?_, ?_, rfl⟩
      · first | (rw [show decide (lo ≤ v ∧ v ≤ hi) = true from decide_eq_true ⟨Int32.not_lt.mp hc2, Int32.not_lt.mp hc7⟩]; rfl) | (rw [show decide (lo ≤ v ∧ v ≤ hi) = false from decide_eq_false (fun q => absurd hc7 (Int32.not_lt.mpr q.2))]; rfl) | (rw [show decide (lo ≤ v ∧ v ≤ hi) = false from decide_eq_false (fun q => absurd hc2 (Int32.not_lt.mpr q.1))]; rfl)
      · rfl
    · skip
      refine z_iconst (pc := 10) C dX12_in_10 (nI 1) (by decide) ?_
      refine z_goto (pc := 11) C 15 dX12_in_11 (by decide) ?_
      refine z_zret (pc := 15) C dX12_in_15 rfl (by first | exact zb_nar _ | rfl) (Nat.zero_le _) (Nat.zero_le _) ⟨?_, ?_, rfl⟩
      · first | (rw [show decide (lo ≤ v ∧ v ≤ hi) = true from decide_eq_true ⟨Int32.not_lt.mp hc2, Int32.not_lt.mp hc7⟩]; rfl) | (rw [show decide (lo ≤ v ∧ v ≤ hi) = false from decide_eq_false (fun q => absurd hc7 (Int32.not_lt.mpr q.2))]; rfl) | (rw [show decide (lo ≤ v ∧ v ≤ hi) = false from decide_eq_false (fun q => absurd hc2 (Int32.not_lt.mpr q.1))]; rfl)
      · rfl

set_option maxRecDepth 20000 in
set_option maxHeartbeats 1000000 in
theorem tX12_darkBehind {h : ZH} {a m b : Nat} {S : Nat → Nat} (hS : h a = some (zI 40 S)) (hm : m < 4) (hb : b ≤ 8) (hl : S 38 < 2147483648) (ht : ∀ j, j < 8 → S (8 * m + j) < 32) : ZD mX12_darkBehind 1 [.ref a, .int (nI m), .int (nI b)] h (some (.int (zo (sdark S m (8 - b) b)))) h := by
  intro n
  refine z_enter (lv := [(0, _), (1, _), (2, _)]) (by decide) (Nat.le_of_ble_eq_true rfl) rfl (fun X C => ?_)
  refine z_iload_n (pc := 0) C dX12_darkBehind_0 2 rfl ?_
  refine z_istore_n (pc := 1) (lv' := [(3, _), (0, _), (1, _), (2, _)]) C dX12_darkBehind_1 (by decide) rfl ?_
  refine z_sub (lv' := [(0, _), (1, _), (2, _), (3, _)]) [1, 2, 3, 0] rfl ?_
  have lp2 : ∀ (f : Nat) (k : Nat), (k + f = 8 ∧ sdark S m (8 - b) b = sdark S m f k) → Zc X mX12_darkBehind (zEnd X (fun r hh n' => r = (some (.int (zo (sdark S m (8 - b) b)))) ∧ hh = h ∧ n' = n) 0 0) 2 [(0, .ref a), (1, .int (nI m)), (2, .int (nI b)), (3, .int (nI k))] [] h n 0 0 := by
    intro f
    induction f using Nat.strongRecOn with
    | _ f ih =>
      intro k hk
      obtain ⟨hk, he⟩ := hk
      refine z_iload_n (pc := 2) C dX12_darkBehind_2 3 rfl ?_
      refine z_bipush (pc := 3) C dX12_darkBehind_3 (nI 8) (by decide) ?_
      first | refine z_icmpgeN (pc := 5) C 41 dX12_darkBehind_5 (by decide) (by omega) (by omega) (fun hc5 => ?_) (fun hc5 => ?_) | refine z_icmp_ge (pc := 5) C 41 dX12_darkBehind_5 (by decide) (fun hc5 => ?_) (fun hc5 => ?_)
      · skip
        refine z_bipush (pc := 41) C dX12_darkBehind_41 (-2) (by decide) ?_
        refine z_iret (pc := 43) C dX12_darkBehind_43 rfl (Nat.zero_le _) (Nat.zero_le _) ⟨?_, ?_, rfl⟩
        · rw [he]; obtain rfl : f = 0 := (by omega); rfl
        · rfl
      · skip
        refine z_aload_n (pc := 8) C dX12_darkBehind_8 0 rfl ?_
        refine z_bipush (pc := 9) C dX12_darkBehind_9 (nI 38) (by decide) ?_
        first | refine z_ialdN (pc := 11) C dX12_darkBehind_11 (by assumption) (by omega) (by decide) ?_ | refine z_ialdI (pc := 11) C dX12_darkBehind_11 (by assumption) (by omega) (by decide) ?_
        refine z_aload_n (pc := 12) C dX12_darkBehind_12 0 rfl ?_
        refine z_bipush (pc := 13) C dX12_darkBehind_13 (nI 8) (by decide) ?_
        refine z_iload_n (pc := 15) C dX12_darkBehind_15 1 rfl ?_
        first | refine z_imulN (pc := 16) C dX12_darkBehind_16 ?_ | refine z_imul (pc := 16) C dX12_darkBehind_16 ?_
        refine z_iload_n (pc := 17) C dX12_darkBehind_17 3 rfl ?_
        first | refine z_iaddN (pc := 18) C dX12_darkBehind_18 ?_ | refine z_iadd (pc := 18) C dX12_darkBehind_18 ?_
        first | refine z_ialdN (pc := 19) C dX12_darkBehind_19 (by assumption) (by omega) (by decide) ?_ | refine z_ialdI (pc := 19) C dX12_darkBehind_19 (by assumption) (by omega) (by decide) ?_
        have e1 := ht k (by omega)
        refine z_cS1 (pc := 20) mX12_hasBit C [_, _] dX12_darkBehind_20 lX12_236 mtX12_hasBit (tX12_hasBit (by first | assumption | omega) (by first | assumption | omega)) rfl rfl (by decide) (Nat.le_of_ble_eq_true rfl) (Nat.zero_le _) (Nat.zero_le _) ?_
        first | refine z_ifneB (pc := 23) C 35 dX12_darkBehind_23 (by decide) (fun hc23 => ?_) (fun hc23 => ?_) | refine z_ifneN (pc := 23) C 35 dX12_darkBehind_23 (by decide) (by omega) (fun hc23 => ?_) (fun hc23 => ?_) | refine z_if_ne (pc := 23) C 35 dX12_darkBehind_23 (by decide) (fun hc23 => ?_) (fun hc23 => ?_)
        · skip
          first | refine z_iincN (pc := 35) (lv' := [(3, _), (0, _), (1, _), (2, _)]) C 1 dX12_darkBehind_35 3 rfl (by decide) (by decide) rfl ?_ | refine z_iinc (pc := 35) (lv' := [(3, _), (0, _), (1, _), (2, _)]) C dX12_darkBehind_35 3 rfl _ rfl (by decide) rfl ?_
          refine z_goto (pc := 38) C 2 dX12_darkBehind_38 (by decide) ?_
          refine z_sub (lv' := [(0, _), (1, _), (2, _), (3, _)]) [1, 2, 3, 0] rfl ?_
          exact ih (f - 1) (by omega) (k + 1) ⟨by omega, by rw [he]; obtain ⟨f, rfl⟩ : ∃ g, f = g + 1 := ⟨f - 1, by omega⟩; simp [sdark, hc23]⟩
        · skip
          refine z_aload_n (pc := 26) C dX12_darkBehind_26 0 rfl ?_
          refine z_bipush (pc := 27) C dX12_darkBehind_27 (nI 8) (by decide) ?_
          refine z_iload_n (pc := 29) C dX12_darkBehind_29 1 rfl ?_
          first | refine z_imulN (pc := 30) C dX12_darkBehind_30 ?_ | refine z_imul (pc := 30) C dX12_darkBehind_30 ?_
          refine z_iload_n (pc := 31) C dX12_darkBehind_31 3 rfl ?_
          first | refine z_iaddN (pc := 32) C dX12_darkBehind_32 ?_ | refine z_iadd (pc := 32) C dX12_darkBehind_32 ?_
          first | refine z_ialdN (pc := 33) C dX12_darkBehind_33 (by assumption) (by omega) (by decide) ?_ | refine z_ialdI (pc := 33) C dX12_darkBehind_33 (by assumption) (by omega) (by decide) ?_
          refine z_iret (pc := 34) C dX12_darkBehind_34 rfl (Nat.zero_le _) (Nat.zero_le _) ⟨?_, ?_, rfl⟩
          · rw [he]; obtain ⟨f, rfl⟩ : ∃ g, f = g + 1 := ⟨f - 1, by omega⟩; simp [sdark, hc23, zo]
          · rfl
  exact lp2 (8 - b) b ⟨by omega, rfl⟩
