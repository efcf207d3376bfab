/-- the model's object: its numbers by their places -/
def mfs (v : Nat → Int32) : List Value := [.int (v 0), .ref 1064, .int (v 2), .int (v 3), .int (v 4), .int (v 5), .int (v 6), .int (v 7), .int (v 8), .int (v 9), .int (v 10), .int (v 11), .ref 1065, .int (v 13), .int (v 14), .ref 1066, .ref 1067, .ref 1068, .ref 1069, .ref 1070, .ref 1071, .ref 1072, .int (v 22), .int (v 23), .ref 1073, .ref 1074, .ref 1075, .int (v 27), .ref 1076, .ref 1077, .int (v 30), .int (v 31), .int (v 32)]
theorem mfs_set (v : Nat → Int32) (k : Nat) (x : Int32) (hk : k ∈ [0, 2, 3, 4, 5, 6, 7, 8, 9, 10, 11, 13, 14, 22, 23, 27, 30, 31, 32]) : (mfs v).set k (.int x) = mfs (upd v k x) := by
  simp only [List.mem_cons, List.not_mem_nil, or_false] at hk
  rcases hk with rfl | rfl | rfl | rfl | rfl | rfl | rfl | rfl | rfl | rfl | rfl | rfl | rfl | rfl | rfl | rfl | rfl | rfl | rfl <;> simp [mfs, upd]
def wfR (R : Nat → Nat) : Prop := R 1 ≤ 7 ∧ R 3 ≤ 4 ∧ R 4 ≤ 6 ∧ R 5 ≤ 3 ∧ R 0 ≤ 100 ∧ (∀ p, p < R 1 → R (9 + p) ≤ 9 ∧ R (23 + p) < 128 ∧ ∀ q, (R (23 + p)).testBit q = true → q < R 1) ∧ (∀ m, m < R 3 → R (30 + m) ≤ 3) ∧ (∀ k, k < R 4 → R (34 + 4 * k) < R 3 ∧ R (34 + 4 * k + 1) ≤ 3 ∧ R (34 + 4 * k + 2) ≤ 20) ∧ ∀ s, s < R 5 → R (58 + s) < R 1
def wfS (R S : Nat → Nat) : Prop := (∀ m, m < R 3 → ∀ a, a < 8 → S (8 * m + a) < R 1) ∧ (∀ k, k < R 4 → S (32 + k) < R 3) ∧ S 38 < 128
theorem sbeh_le (R : Nat → Nat) {m far : Nat} (hf : far ≤ 3) : sbeh R m far ≤ 6 := by
  unfold sbeh
  repeat' split
  all_goals omega
theorem sdark_lt {S : Nat → Nat} {m c : Nat} (h : ∀ j, j < 8 → S (8 * m + j) < c) : ∀ f k p, k + f = 8 → sdark S m f k = some p → p < c := by
  intro f
  induction f with
  | zero => intro k p _ e; cases e
  | succ f ih =>
    intro k p hk e
    rw [sdark] at e
    split at e
    · exact ih (k + 1) p (by omega) e
    · cases e; exact h k (by omega)
theorem sstd_lt {R S : Nat → Nat} (hR : wfR R) (hS : wfS R S) {k p : Nat} (hk : k < R 4) (h : sstd R S k = some p) : p < R 1 := by
  obtain ⟨-, -, -, -, -, -, -, h7, -⟩ := hR
  have hb := sbeh_le R (m := S (32 + k)) (h7 k hk).2.1
  exact sdark_lt (fun j hj => hS.1 _ (hS.2.1 k hk) j hj) _ _ _ (by omega) h
theorem zo_eq {o : Option Nat} {p : Nat} (hp : p < 2147483648) (ho : ∀ k, o = some k → k < 2147483648) : zo o = nI p ↔ o = some p := by
  cases o with
  | none =>
    simp only [zo, reduceCtorEq, iff_false]
    intro e
    have := congrArg Int32.toInt e
    rw [nI_toInt (by omega)] at this
    have h2 : (-2 : Int32).toInt = -2 := by decide
    omega
  | some k => exact (nI_eqI (ho k rfl) hp).trans (by simp)
/-- the numbers below c that satisfy P, as bits -/
def sbits (P : Nat → Bool) : Nat → Nat
  | 0 => 0
  | k + 1 => sbits P k ||| (if P k then 1 <<< k else 0)
theorem sbits_t {P : Nat → Bool} {k acc : Nat} (e : acc = sbits P k) (h : P k = true) : acc ||| 1 <<< k = sbits P (k + 1) := by rw [e, sbits, h]; rfl
theorem sbits_f {P : Nat → Bool} {k acc : Nat} (e : acc = sbits P k) (h : P k = false) : acc ||| 0 = sbits P (k + 1) := by rw [e, sbits, h]; rfl
theorem sbits_lt (P : Nat → Bool) : ∀ k, sbits P k < 2 ^ k := by
  intro k
  induction k with
  | zero => exact Nat.one_pos
  | succ k ih =>
    rw [sbits]
    have h1 : sbits P k < 2 ^ (k + 1) := Nat.lt_of_lt_of_le ih (Nat.pow_le_pow_right (by decide) (by omega))
    refine Nat.or_lt_two_pow h1 ?_
    split
    · rw [Nat.shiftLeft_eq, Nat.one_mul]; exact Nat.pow_lt_pow_right (by decide) (by omega)
    · exact Nat.two_pow_pos _
theorem sbits_lt7 (P : Nat → Bool) {k : Nat} (hk : k ≤ 7) : sbits P k < 128 := Nat.lt_of_lt_of_le (sbits_lt P k) (Nat.pow_le_pow_right (by decide) hk)
def sone (a : Nat) : Nat → Nat
  | 0 => 0
  | k + 1 => sone a k + (a >>> k &&& 1)
theorem sone_le (a : Nat) : ∀ k, sone a k ≤ k := by
  intro k
  induction k with
  | zero => exact Nat.le_refl _
  | succ k ih =>
    rw [sone]
    have : a >>> k &&& 1 ≤ 1 := Nat.and_le_right
    omega
def swhy (a b : Bool) : Nat := if a then (if b then 0 else 2) else 1
theorem swhy_le (a b : Bool) : swhy a b ≤ 2 := by cases a <;> cases b <;> decide
theorem swhy_0 {a b : Bool} : swhy a b = 0 ↔ a = true ∧ b = true := by cases a <;> cases b <;> decide
def sKat (R S : Nat → Nat) (p : Nat) : Nat := sbits (fun k => decide (sstd R S k = some p)) (R 4)
def sFol (R S : Nat → Nat) (m : Nat) : Nat := sbits (fun k => decide (S (32 + k) = m)) (R 4)
def sSho (R : Nat → Nat) (m : Nat) : Nat := sbits (fun k => decide (R (34 + 4 * k) = m)) (R 4)
def sMen (R S : Nat → Nat) (p : Nat) : Nat := sbits (fun m => decide (S (8 * m) = p)) (R 3)
def swor (R : Nat → Nat) (a : Nat) : Nat → Nat
  | 0 => 0
  | k + 1 => swor R a k + (if a.testBit k then R (34 + 4 * k + 2) else 0)
def sWor (R : Nat → Nat) (a : Nat) : Nat := swor R a (R 4)
theorem swor_le {R : Nat → Nat} (hR : wfR R) (a : Nat) : ∀ k, k ≤ R 4 → swor R a k ≤ 20 * k := by
  intro k
  induction k with
  | zero => intro _; exact Nat.le_refl _
  | succ k ih =>
    intro hk
    rw [swor]
    have h1 := ih (by omega)
    have h2 := (hR.2.2.2.2.2.2.2.1 k (by omega)).2.2
    split <;> omega

set_option maxRecDepth 20000 in
set_option maxHeartbeats 1000000 in
theorem tX12_ones {h : ZH} {a : Nat} (ha : a < 2147483648) : ZD mX12_ones 0 [.int (nI a)] h (some (.int (nI (sone a 8)))) h := by
  intro n
  refine z_enter (lv := [(0, _)]) (by decide) (Nat.le_of_ble_eq_true rfl) rfl (fun X C => ?_)
  refine z_iconst (pc := 0) C dX12_ones_0 (nI 0) (by decide) ?_
  refine z_istore_n (pc := 1) (lv' := [(1, _), (0, _)]) C dX12_ones_1 (by decide) rfl ?_
  refine z_iconst (pc := 2) C dX12_ones_2 (nI 0) (by decide) ?_
  refine z_istore_n (pc := 3) (lv' := [(2, _), (1, _), (0, _)]) C dX12_ones_3 (by decide) rfl ?_
  refine z_sub (lv' := [(0, _), (1, _), (2, _)]) [2, 1, 0] rfl ?_
  have lp4 : ∀ (f : Nat) (k acc : Nat), (k + f = 8 ∧ acc = sone a k) → Zc X mX12_ones (zEnd X (fun r hh n' => r = (some (.int (nI (sone a 8)))) ∧ hh = h ∧ n' = n) 0 0) 4 [(0, .int (nI a)), (1, .int (nI acc)), (2, .int (nI k))] [] h n 0 0 := by
    intro f
    induction f using Nat.strongRecOn with
    | _ f ih =>
      intro k acc hk
      obtain ⟨hk, he⟩ := hk
      refine z_iload_n (pc := 4) C dX12_ones_4 2 rfl ?_
      refine z_bipush (pc := 5) C dX12_ones_5 (nI 8) (by decide) ?_
      first | refine z_icmpgeN (pc := 7) C 24 dX12_ones_7 (by decide) (by omega) (by omega) (fun hc7 => ?_) (fun hc7 => ?_) | refine z_icmp_ge (pc := 7) C 24 dX12_ones_7 (by decide) (fun hc7 => ?_) (fun hc7 => ?_)
      · skip
        refine z_iload_n (pc := 24) C dX12_ones_24 1 rfl ?_
        refine z_iret (pc := 25) C dX12_ones_25 rfl (Nat.zero_le _) (Nat.zero_le _) ⟨?_, ?_, rfl⟩
        · obtain rfl : k = 8 := (by omega); rw [he]
        · rfl
      · skip
        refine z_iload_n (pc := 10) C dX12_ones_10 1 rfl ?_
        refine z_iload_n (pc := 11) C dX12_ones_11 0 rfl ?_
        refine z_iload_n (pc := 12) C dX12_ones_12 2 rfl ?_
        first | refine z_ishrN (pc := 13) C dX12_ones_13 (by omega) (by omega) ?_ | refine z_ishr (pc := 13) C dX12_ones_13 ?_
        refine z_iconst (pc := 14) C dX12_ones_14 (nI 1) (by decide) ?_
        first | refine z_iandN (pc := 15) C dX12_ones_15 ?_ | refine z_iand (pc := 15) C dX12_ones_15 ?_
        first | refine z_iaddN (pc := 16) C dX12_ones_16 ?_ | refine z_iadd (pc := 16) C dX12_ones_16 ?_
        refine z_istore_n (pc := 17) (lv' := [(1, _), (0, _), (2, _)]) C dX12_ones_17 (by decide) rfl ?_
        first | refine z_iincN (pc := 18) (lv' := [(2, _), (1, _), (0, _)]) C 1 dX12_ones_18 2 rfl (by decide) (by decide) rfl ?_ | refine z_iinc (pc := 18) (lv' := [(2, _), (1, _), (0, _)]) C dX12_ones_18 2 rfl _ rfl (by decide) rfl ?_
        refine z_goto (pc := 21) C 4 dX12_ones_21 (by decide) ?_
        refine z_sub (lv' := [(0, _), (1, _), (2, _)]) [2, 1, 0] rfl ?_
        exact ih (f - 1) (by omega) (k + 1) _ ⟨by omega, by rw [he]; rfl⟩
  exact lp4 8 0 0 ⟨rfl, rfl⟩

set_option maxRecDepth 20000 in
set_option maxHeartbeats 1000000 in
theorem tX12_why {h : ZH} {a b : Bool}  : ZD mX12_why 0 [.ref 1063, .int (zb a), .int (zb b)] h (some (.int (nI (swhy a b)))) h := by
  intro n
  refine z_enter (lv := [(0, _), (1, _), (2, _)]) (by decide) (Nat.le_of_ble_eq_true rfl) rfl (fun X C => ?_)
  refine z_iload_n (pc := 0) C dX12_why_0 1 rfl ?_
  first | refine z_ifneB (pc := 1) C 8 dX12_why_1 (by decide) (fun hc1 => ?_) (fun hc1 => ?_) | refine z_ifneN (pc := 1) C 8 dX12_why_1 (by decide) (by omega) (fun hc1 => ?_) (fun hc1 => ?_) | refine z_if_ne (pc := 1) C 8 dX12_why_1 (by decide) (fun hc1 => ?_) (fun hc1 => ?_)
  · skip
    refine z_iload_n (pc := 8) C dX12_why_8 2 rfl ?_
    first | refine z_ifeqB (pc := 9) C 16 dX12_why_9 (by decide) (fun hc9 => ?_) (fun hc9 => ?_) | refine z_ifeqN (pc := 9) C 16 dX12_why_9 (by decide) (by omega) (fun hc9 => ?_) (fun hc9 => ?_) | refine z_if_eq (pc := 9) C 16 dX12_why_9 (by decide) (fun hc9 => ?_) (fun hc9 => ?_)
    · skip
      refine z_iconst (pc := 16) C dX12_why_16 (nI 2) (by decide) ?_
      refine z_iret (pc := 17) C dX12_why_17 rfl (Nat.zero_le _) (Nat.zero_le _) ⟨?_, ?_, rfl⟩
      · simp [swhy, *]
      · rfl
    · skip
      refine z_iconst (pc := 12) C dX12_why_12 (nI 0) (by decide) ?_
      refine z_goto (pc := 13) C 17 dX12_why_13 (by decide) ?_
      refine z_iret (pc := 17) C dX12_why_17 rfl (Nat.zero_le _) (Nat.zero_le _) ⟨?_, ?_, rfl⟩
      · simp [swhy, *]
      · rfl
  · skip
    refine z_iconst (pc := 4) C dX12_why_4 (nI 1) (by decide) ?_
    refine z_goto (pc := 5) C 17 dX12_why_5 (by decide) ?_
    refine z_iret (pc := 17) C dX12_why_17 rfl (Nat.zero_le _) (Nat.zero_le _) ⟨?_, ?_, rfl⟩
    · simp [swhy, *]
    · rfl

set_option maxRecDepth 20000 in
set_option maxHeartbeats 1000000 in
theorem tX12_good {h : ZH} {v : Nat → Int32} (hM : h 1063 = some (zO 8 (mfs v))) : ZD mX12_good 0 [.ref 1063] h none (zup h 1063 (zO 8 (mfs (upd (upd v 0 0) 11 0)))) := by
  intro n
  refine z_enter (lv := [(0, _)]) (by decide) (Nat.le_of_ble_eq_true rfl) rfl (fun X C => ?_)
  refine z_aload_n (pc := 0) C dX12_good_0 0 rfl ?_
  refine z_iconst (pc := 1) C dX12_good_1 (nI 0) (by decide) ?_
  refine z_putf (pc := 2) (fs' := mfs (upd _ 0 _)) C dX12_good_2 gX12_56 (by assumption) (fun _ => ⟨rfl, rfl⟩) (by exact Nat.le_of_ble_eq_true rfl) (mfs_set _ 0 _ (by decide)) ?_
  refine z_aload_n (pc := 5) C dX12_good_5 0 rfl ?_
  refine z_iconst (pc := 6) C dX12_good_6 (nI 0) (by decide) ?_
  refine z_putf (pc := 7) (fs' := mfs (upd _ 11 _)) C dX12_good_7 gX12_59 (zup_same _ _ _) (fun _ => ⟨rfl, rfl⟩) (by exact Nat.le_of_ble_eq_true rfl) (mfs_set _ 11 _ (by decide)) ?_
  refine z_vret (pc := 10) C dX12_good_10 rfl (Nat.zero_le _) (Nat.zero_le _) ⟨?_, ?_, rfl⟩
  · rfl
  · rw [zup_zup]; rfl

set_option maxRecDepth 20000 in
set_option maxHeartbeats 1000000 in
theorem tX12_no {h : ZH} {v : Nat → Int32} {w : Int32} (hM : h 1063 = some (zO 8 (mfs v))) : ZD mX12_no 0 [.ref 1063, .int w] h (some (.int (-1))) (zup h 1063 (zO 8 (mfs (upd v 11 w)))) := by
  intro n
  refine z_enter (lv := [(0, _), (1, _)]) (by decide) (Nat.le_of_ble_eq_true rfl) rfl (fun X C => ?_)
  refine z_aload_n (pc := 0) C dX12_no_0 0 rfl ?_
  refine z_iload_n (pc := 1) C dX12_no_1 1 rfl ?_
  refine z_putf (pc := 2) (fs' := mfs (upd _ 11 _)) C dX12_no_2 gX12_59 (by assumption) (fun _ => ⟨rfl, rfl⟩) (by exact Nat.le_of_ble_eq_true rfl) (mfs_set _ 11 _ (by decide)) ?_
  refine z_iconst (pc := 5) C dX12_no_5 (-1) (by decide) ?_
  refine z_iret (pc := 6) C dX12_no_6 rfl (Nat.zero_le _) (Nat.zero_le _) ⟨?_, ?_, rfl⟩
  · first | rfl | simp_all
  · rfl

set_option maxRecDepth 20000 in
set_option maxHeartbeats 1000000 in
theorem tX12_isNot {h : ZH} {v : Nat → Int32} {w : Int32} (hM : h 1063 = some (zO 8 (mfs v))) : ZD mX12_isNot 0 [.ref 1063, .int w] h (some (.int (zb false))) (zup h 1063 (zO 8 (mfs (upd v 11 w)))) := by
  intro n
  refine z_enter (lv := [(0, _), (1, _)]) (by decide) (Nat.le_of_ble_eq_true rfl) rfl (fun X C => ?_)
  refine z_aload_n (pc := 0) C dX12_isNot_0 0 rfl ?_
  refine z_iload_n (pc := 1) C dX12_isNot_1 1 rfl ?_
  refine z_putf (pc := 2) (fs' := mfs (upd _ 11 _)) C dX12_isNot_2 gX12_59 (by assumption) (fun _ => ⟨rfl, rfl⟩) (by exact Nat.le_of_ble_eq_true rfl) (mfs_set _ 11 _ (by decide)) ?_
  refine z_iconst (pc := 5) C dX12_isNot_5 (nI 0) (by decide) ?_
  refine z_zret (pc := 6) C dX12_isNot_6 rfl (by first | exact zb_nar _ | rfl) (Nat.zero_le _) (Nat.zero_le _) ⟨?_, ?_, rfl⟩
  · first | rfl | simp_all
  · rfl

set_option maxRecDepth 20000 in
set_option maxHeartbeats 1000000 in
theorem tX12_behindOf {h : ZH} {v : Nat → Int32} {R : Nat → Nat} {m far : Nat} (hM : h 1063 = some (zO 8 (mfs v))) (hA : h 1066 = some (zI 241 R)) (hm : m < 4) (hk : R (30 + m) ≤ 3) (hf : far ≤ 3) : ZD mX12_behindOf 0 [.ref 1063, .int (nI m), .int (nI far)] h (some (.int (nI (sbeh R m far)))) h := by
  intro n
  refine z_enter (lv := [(0, _), (1, _), (2, _)]) (by decide) (Nat.le_of_ble_eq_true rfl) rfl (fun X C => ?_)
  refine z_aload_n (pc := 0) C dX12_behindOf_0 0 rfl ?_
  refine z_getf (pc := 1) C dX12_behindOf_1 fX12_20 (by assumption) (by first | rfl | assumption) ?_
  refine z_bipush (pc := 4) C dX12_behindOf_4 (nI 30) (by decide) ?_
  refine z_iload_n (pc := 6) C dX12_behindOf_6 1 rfl ?_
  first | refine z_iaddN (pc := 7) C dX12_behindOf_7 ?_ | refine z_iadd (pc := 7) C dX12_behindOf_7 ?_
  first | refine z_ialdN (pc := 8) C dX12_behindOf_8 (by assumption) (by omega) (by decide) ?_ | refine z_ialdI (pc := 8) C dX12_behindOf_8 (by assumption) (by omega) (by decide) ?_
  refine z_iconst (pc := 9) C dX12_behindOf_9 (nI 2) (by decide) ?_
  first | refine z_icmpneN (pc := 10) C 19 dX12_behindOf_10 (by decide) (by omega) (by omega) (fun hc10 => ?_) (fun hc10 => ?_) | refine z_icmp_ne (pc := 10) C 19 dX12_behindOf_10 (by decide) (fun hc10 => ?_) (fun hc10 => ?_)
  · skip
    refine z_aload_n (pc := 19) C dX12_behindOf_19 0 rfl ?_
    refine z_getf (pc := 20) C dX12_behindOf_20 fX12_20 (by assumption) (by first | rfl | assumption) ?_
    refine z_bipush (pc := 23) C dX12_behindOf_23 (nI 30) (by decide) ?_
    refine z_iload_n (pc := 25) C dX12_behindOf_25 1 rfl ?_
    first | refine z_iaddN (pc := 26) C dX12_behindOf_26 ?_ | refine z_iadd (pc := 26) C dX12_behindOf_26 ?_
    first | refine z_ialdN (pc := 27) C dX12_behindOf_27 (by assumption) (by omega) (by decide) ?_ | refine z_ialdI (pc := 27) C dX12_behindOf_27 (by assumption) (by omega) (by decide) ?_
    refine z_iconst (pc := 28) C dX12_behindOf_28 (nI 1) (by decide) ?_
    first | refine z_icmpneN (pc := 29) C 38 dX12_behindOf_29 (by decide) (by omega) (by omega) (fun hc29 => ?_) (fun hc29 => ?_) | refine z_icmp_ne (pc := 29) C 38 dX12_behindOf_29 (by decide) (fun hc29 => ?_) (fun hc29 => ?_)
    · skip
      refine z_aload_n (pc := 38) C dX12_behindOf_38 0 rfl ?_
      refine z_getf (pc := 39) C dX12_behindOf_39 fX12_20 (by assumption) (by first | rfl | assumption) ?_
      refine z_bipush (pc := 42) C dX12_behindOf_42 (nI 30) (by decide) ?_
      refine z_iload_n (pc := 44) C dX12_behindOf_44 1 rfl ?_
      first | refine z_iaddN (pc := 45) C dX12_behindOf_45 ?_ | refine z_iadd (pc := 45) C dX12_behindOf_45 ?_
      first | refine z_ialdN (pc := 46) C dX12_behindOf_46 (by assumption) (by omega) (by decide) ?_ | refine z_ialdI (pc := 46) C dX12_behindOf_46 (by assumption) (by omega) (by decide) ?_
      refine z_iconst (pc := 47) C dX12_behindOf_47 (nI 3) (by decide) ?_
      first | refine z_icmpneN (pc := 48) C 55 dX12_behindOf_48 (by decide) (by omega) (by omega) (fun hc48 => ?_) (fun hc48 => ?_) | refine z_icmp_ne (pc := 48) C 55 dX12_behindOf_48 (by decide) (fun hc48 => ?_) (fun hc48 => ?_)
      · skip
        refine z_iload_n (pc := 55) C dX12_behindOf_55 2 rfl ?_
        refine z_iret (pc := 56) C dX12_behindOf_56 rfl (Nat.zero_le _) (Nat.zero_le _) ⟨?_, ?_, rfl⟩
        · simp [sbeh, *]
        · rfl
      · skip
        refine z_iconst (pc := 51) C dX12_behindOf_51 (nI 0) (by decide) ?_
        refine z_goto (pc := 52) C 56 dX12_behindOf_52 (by decide) ?_
        refine z_iret (pc := 56) C dX12_behindOf_56 rfl (Nat.zero_le _) (Nat.zero_le _) ⟨?_, ?_, rfl⟩
        · simp [sbeh, *]
        · rfl
    · skip
      refine z_iload_n (pc := 32) C dX12_behindOf_32 2 rfl ?_
      refine z_iconst (pc := 33) C dX12_behindOf_33 (nI 1) (by decide) ?_
      first | refine z_iaddN (pc := 34) C dX12_behindOf_34 ?_ | refine z_iadd (pc := 34) C dX12_behindOf_34 ?_
      refine z_goto (pc := 35) C 56 dX12_behindOf_35 (by decide) ?_
      refine z_iret (pc := 56) C dX12_behindOf_56 rfl (Nat.zero_le _) (Nat.zero_le _) ⟨?_, ?_, rfl⟩
      · simp [sbeh, *]
      · rfl
  · skip
    refine z_iconst (pc := 13) C dX12_behindOf_13 (nI 2) (by decide) ?_
    refine z_iload_n (pc := 14) C dX12_behindOf_14 2 rfl ?_
    first | refine z_imulN (pc := 15) C dX12_behindOf_15 ?_ | refine z_imul (pc := 15) C dX12_behindOf_15 ?_
    refine z_goto (pc := 16) C 56 dX12_behindOf_16 (by decide) ?_
    refine z_iret (pc := 56) C dX12_behindOf_56 rfl (Nat.zero_le _) (Nat.zero_le _) ⟨?_, ?_, rfl⟩
    · simp [sbeh, *]
    · rfl

set_option maxRecDepth 20000 in
set_option maxHeartbeats 1000000 in
theorem tX12_standsOf {h : ZH} {v : Nat → Int32} {R T : Nat → Nat} {b k : Nat} (hM : h 1063 = some (zO 8 (mfs v))) (hA : h 1066 = some (zI 241 R)) (hT : h b = some (zI 40 T)) (hR : wfR R) (hS : wfS R T) (hk : k < R 4) : ZD mX12_standsOf 2 [.ref 1063, .ref b, .int (nI k)] h (some (.int (zo (sstd R T k)))) h := by
  intro n
  obtain ⟨w1, w3, w4, w5, w0, wP, wM, wK, wX⟩ := id hR
  obtain ⟨wT, wL, wB⟩ := id hS
  have e1 := wL k hk
  have e2 := wK k hk
  have e3 := wM _ e1
  refine z_enter (lv := [(0, _), (1, _), (2, _)]) (by decide) (Nat.le_of_ble_eq_true rfl) rfl (fun X C => ?_)
  refine z_aload_n (pc := 0) C dX12_standsOf_0 1 rfl ?_
  refine z_bipush (pc := 1) C dX12_standsOf_1 (nI 32) (by decide) ?_
  refine z_iload_n (pc := 3) C dX12_standsOf_3 2 rfl ?_
  first | refine z_iaddN (pc := 4) C dX12_standsOf_4 ?_ | refine z_iadd (pc := 4) C dX12_standsOf_4 ?_
  first | refine z_ialdN (pc := 5) C dX12_standsOf_5 (by assumption) (by omega) (by decide) ?_ | refine z_ialdI (pc := 5) C dX12_standsOf_5 (by assumption) (by omega) (by decide) ?_
  refine z_istore_n (pc := 6) (lv' := [(3, _), (0, _), (1, _), (2, _)]) C dX12_standsOf_6 (by decide) rfl ?_
  refine z_aload_n (pc := 7) C dX12_standsOf_7 2 rfl ?_
  refine z_iload_n (pc := 8) C dX12_standsOf_8 0 rfl ?_
  refine z_aload_n (pc := 9) C dX12_standsOf_9 1 rfl ?_
  refine z_iload_n (pc := 10) C dX12_standsOf_10 0 rfl ?_
  refine z_aload_n (pc := 11) C dX12_standsOf_11 1 rfl ?_
  refine z_getf (pc := 12) C dX12_standsOf_12 fX12_20 (by assumption) (by first | rfl | assumption) ?_
  refine z_bipush (pc := 15) C dX12_standsOf_15 (nI 34) (by decide) ?_
  refine z_iconst (pc := 17) C dX12_standsOf_17 (nI 4) (by decide) ?_
  refine z_iload_n (pc := 18) C dX12_standsOf_18 3 rfl ?_
  first | refine z_imulN (pc := 19) C dX12_standsOf_19 ?_ | refine z_imul (pc := 19) C dX12_standsOf_19 ?_
  first | refine z_iaddN (pc := 20) C dX12_standsOf_20 ?_ | refine z_iadd (pc := 20) C dX12_standsOf_20 ?_
  refine z_iconst (pc := 21) C dX12_standsOf_21 (nI 1) (by decide) ?_
  first | refine z_iaddN (pc := 22) C dX12_standsOf_22 ?_ | refine z_iadd (pc := 22) C dX12_standsOf_22 ?_
  first | refine z_ialdN (pc := 23) C dX12_standsOf_23 (by assumption) (by omega) (by decide) ?_ | refine z_ialdI (pc := 23) C dX12_standsOf_23 (by assumption) (by omega) (by decide) ?_
  refine z_cV1 (pc := 24) mX12_behindOf C [_, _] dX12_standsOf_24 lX12_262 mtX12_behindOf (tX12_behindOf hM hA (by omega) e3 e2.2.1) (by assumption) rfl rfl (by decide) (Nat.le_of_ble_eq_true rfl) (Nat.zero_le _) (Nat.zero_le _) ?_
  refine z_cS1 (pc := 27) mX12_darkBehind C [_, _, _] dX12_standsOf_27 lX12_265 mtX12_darkBehind (tX12_darkBehind hT (by omega) (by have := sbeh_le R (m := T (32 + k)) e2.2.1; omega) (by omega) (fun j hj => by have := wT _ e1 j hj; omega)) rfl rfl (by decide) (Nat.le_of_ble_eq_true rfl) (Nat.zero_le _) (Nat.zero_le _) ?_
  refine z_iret (pc := 30) C dX12_standsOf_30 rfl (Nat.zero_le _) (Nat.zero_le _) ⟨?_, ?_, rfl⟩
  · first | rfl | simp_all
  · rfl

set_option maxRecDepth 20000 in
set_option maxHeartbeats 1000000 in
theorem tX12_killsAt {h : ZH} {v : Nat → Int32} {R S : Nat → Nat} {p : Nat} (hM : h 1063 = some (zO 8 (mfs v))) (hA : h 1066 = some (zI 241 R)) (hB : h 1070 = some (zI 40 S)) (hR : wfR R) (hS : wfS R S) (hp : p < 2147483648) : ZD mX12_killsAt 3 [.ref 1063, .int (nI p)] h (some (.int (nI (sKat R S p)))) h := by
  intro n
  obtain ⟨w1, w3, w4, w5, w0, wP, wM, wK, wX⟩ := id hR
  obtain ⟨wT, wL, wB⟩ := id hS
  refine z_enter (lv := [(0, _), (1, _)]) (by decide) (Nat.le_of_ble_eq_true rfl) rfl (fun X C => ?_)
  refine z_iconst (pc := 0) C dX12_killsAt_0 (nI 0) (by decide) ?_
  refine z_istore_n (pc := 1) (lv' := [(2, _), (0, _), (1, _)]) C dX12_killsAt_1 (by decide) rfl ?_
  refine z_iconst (pc := 2) C dX12_killsAt_2 (nI 0) (by decide) ?_
  refine z_istore_n (pc := 3) (lv' := [(3, _), (2, _), (0, _), (1, _)]) C dX12_killsAt_3 (by decide) rfl ?_
  refine z_sub (lv' := [(0, _), (1, _), (2, _), (3, _)]) [2, 3, 1, 0] rfl ?_
  have lp4 : ∀ (f : Nat) (k acc : Nat), (k + f = R 4 ∧ acc = sbits (fun k => decide (sstd R S k = some p)) k) → Zc X mX12_killsAt (zEnd X (fun r hh n' => r = (some (.int (nI (sKat R S p)))) ∧ hh = h ∧ n' = n) 0 0) 4 [(0, .ref 1063), (1, .int (nI p)), (2, .int (nI acc)), (3, .int (nI k))] [] h n 0 0 := by
    intro f
    induction f using Nat.strongRecOn with
    | _ f ih =>
      intro k acc hk
      obtain ⟨hk, he⟩ := hk
      refine z_iload_n (pc := 4) C dX12_killsAt_4 3 rfl ?_
      refine z_aload_n (pc := 5) C dX12_killsAt_5 0 rfl ?_
      refine z_getf (pc := 6) C dX12_killsAt_6 fX12_20 (by assumption) (by first | rfl | assumption) ?_
      refine z_iconst (pc := 9) C dX12_killsAt_9 (nI 4) (by decide) ?_
      first | refine z_ialdN (pc := 10) C dX12_killsAt_10 (by assumption) (by omega) (by decide) ?_ | refine z_ialdI (pc := 10) C dX12_killsAt_10 (by assumption) (by omega) (by decide) ?_
      first | refine z_icmpgeN (pc := 11) C 43 dX12_killsAt_11 (by decide) (by omega) (by omega) (fun hc11 => ?_) (fun hc11 => ?_) | refine z_icmp_ge (pc := 11) C 43 dX12_killsAt_11 (by decide) (fun hc11 => ?_) (fun hc11 => ?_)
      · skip
        refine z_iload_n (pc := 43) C dX12_killsAt_43 2 rfl ?_
        refine z_iret (pc := 44) C dX12_killsAt_44 rfl (Nat.zero_le _) (Nat.zero_le _) ⟨?_, ?_, rfl⟩
        · obtain rfl : f = 0 := (by omega); obtain rfl : k = R 4 := (by omega); rw [he] <;> rfl
        · rfl
      · skip
        refine z_iload_n (pc := 14) C dX12_killsAt_14 2 rfl ?_
        refine z_aload_n (pc := 15) C dX12_killsAt_15 0 rfl ?_
        refine z_aload_n (pc := 16) C dX12_killsAt_16 0 rfl ?_
        refine z_getf (pc := 17) C dX12_killsAt_17 fX12_32 (by assumption) (by first | rfl | assumption) ?_
        refine z_iload_n (pc := 20) C dX12_killsAt_20 3 rfl ?_
        refine z_cV1 (pc := 21) mX12_standsOf C [_, _] dX12_killsAt_21 lX12_269 mtX12_standsOf (tX12_standsOf (by first | assumption | omega) (by first | assumption | omega) (by first | assumption | omega) (by first | assumption | omega) (by first | assumption | omega) (by first | assumption | omega)) (by assumption) rfl rfl (by decide) (Nat.le_of_ble_eq_true rfl) (Nat.zero_le _) (Nat.zero_le _) ?_
        refine z_iload_n (pc := 24) C dX12_killsAt_24 1 rfl ?_
        have e1 : ∀ q, sstd R S k = some q → q < 2147483648 := fun q hq => by have := sstd_lt hR hS (by omega) hq; omega
        refine z_icmp_ne (pc := 25) C 34 dX12_killsAt_25 (by decide) (fun hc25 => ?_) (fun hc25 => ?_)
        · skip
          refine z_iconst (pc := 34) C dX12_killsAt_34 (nI 0) (by decide) ?_
          first | refine z_iorN (pc := 35) C dX12_killsAt_35 ?_ | refine z_ior (pc := 35) C dX12_killsAt_35 ?_
          refine z_istore_n (pc := 36) (lv' := [(2, _), (0, _), (1, _), (3, _)]) C dX12_killsAt_36 (by decide) rfl ?_
          first | refine z_iincN (pc := 37) (lv' := [(3, _), (2, _), (0, _), (1, _)]) C 1 dX12_killsAt_37 3 rfl (by decide) (by decide) rfl ?_ | refine z_iinc (pc := 37) (lv' := [(3, _), (2, _), (0, _), (1, _)]) C dX12_killsAt_37 3 rfl _ rfl (by decide) rfl ?_
          refine z_goto (pc := 40) C 4 dX12_killsAt_40 (by decide) ?_
          refine z_sub (lv' := [(0, _), (1, _), (2, _), (3, _)]) [2, 3, 1, 0] rfl ?_
          exact ih (f - 1) (by omega) (k + 1) _ ⟨by omega, by first | exact sbits_t he (decide_eq_true ((zo_eq hp e1).mp hc25)) | exact sbits_f he (decide_eq_false (fun q => hc25 ((zo_eq hp e1).mpr q)))⟩
        · skip
          refine z_iconst (pc := 28) C dX12_killsAt_28 (nI 1) (by decide) ?_
          refine z_iload_n (pc := 29) C dX12_killsAt_29 3 rfl ?_
          first | refine z_ishlN (pc := 30) C dX12_killsAt_30 (by omega) ?_ | refine z_ishl (pc := 30) C dX12_killsAt_30 ?_
          refine z_goto (pc := 31) C 35 dX12_killsAt_31 (by decide) ?_
          first | refine z_iorN (pc := 35) C dX12_killsAt_35 ?_ | refine z_ior (pc := 35) C dX12_killsAt_35 ?_
          refine z_istore_n (pc := 36) (lv' := [(2, _), (0, _), (1, _), (3, _)]) C dX12_killsAt_36 (by decide) rfl ?_
          first | refine z_iincN (pc := 37) (lv' := [(3, _), (2, _), (0, _), (1, _)]) C 1 dX12_killsAt_37 3 rfl (by decide) (by decide) rfl ?_ | refine z_iinc (pc := 37) (lv' := [(3, _), (2, _), (0, _), (1, _)]) C dX12_killsAt_37 3 rfl _ rfl (by decide) rfl ?_
          refine z_goto (pc := 40) C 4 dX12_killsAt_40 (by decide) ?_
          refine z_sub (lv' := [(0, _), (1, _), (2, _), (3, _)]) [2, 3, 1, 0] rfl ?_
          exact ih (f - 1) (by omega) (k + 1) _ ⟨by omega, by first | exact sbits_t he (decide_eq_true ((zo_eq hp e1).mp hc25)) | exact sbits_f he (decide_eq_false (fun q => hc25 ((zo_eq hp e1).mpr q)))⟩
  exact lp4 (R 4) 0 0 ⟨by omega, rfl⟩

set_option maxRecDepth 20000 in
set_option maxHeartbeats 1000000 in
theorem tX12_followersOf {h : ZH} {v : Nat → Int32} {R S : Nat → Nat} {p : Nat} (hM : h 1063 = some (zO 8 (mfs v))) (hA : h 1066 = some (zI 241 R)) (hB : h 1070 = some (zI 40 S)) (hR : wfR R) (hS : wfS R S) (hp : p < 2147483648) : ZD mX12_followersOf 0 [.ref 1063, .int (nI p)] h (some (.int (nI (sFol R S p)))) h := by
  intro n
  obtain ⟨w1, w3, w4, w5, w0, wP, wM, wK, wX⟩ := id hR
  obtain ⟨wT, wL, wB⟩ := id hS
  refine z_enter (lv := [(0, _), (1, _)]) (by decide) (Nat.le_of_ble_eq_true rfl) rfl (fun X C => ?_)
  refine z_iconst (pc := 0) C dX12_followersOf_0 (nI 0) (by decide) ?_
  refine z_istore_n (pc := 1) (lv' := [(2, _), (0, _), (1, _)]) C dX12_followersOf_1 (by decide) rfl ?_
  refine z_iconst (pc := 2) C dX12_followersOf_2 (nI 0) (by decide) ?_
  refine z_istore_n (pc := 3) (lv' := [(3, _), (2, _), (0, _), (1, _)]) C dX12_followersOf_3 (by decide) rfl ?_
  refine z_sub (lv' := [(0, _), (1, _), (2, _), (3, _)]) [2, 3, 1, 0] rfl ?_
  have lp4 : ∀ (f : Nat) (k acc : Nat), (k + f = R 4 ∧ acc = sbits (fun k => decide (S (32 + k) = p)) k) → Zc X mX12_followersOf (zEnd X (fun r hh n' => r = (some (.int (nI (sFol R S p)))) ∧ hh = h ∧ n' = n) 0 0) 4 [(0, .ref 1063), (1, .int (nI p)), (2, .int (nI acc)), (3, .int (nI k))] [] h n 0 0 := by
    intro f
    induction f using Nat.strongRecOn with
    | _ f ih =>
      intro k acc hk
      obtain ⟨hk, he⟩ := hk
      refine z_iload_n (pc := 4) C dX12_followersOf_4 3 rfl ?_
      refine z_aload_n (pc := 5) C dX12_followersOf_5 0 rfl ?_
      refine z_getf (pc := 6) C dX12_followersOf_6 fX12_20 (by assumption) (by first | rfl | assumption) ?_
      refine z_iconst (pc := 9) C dX12_followersOf_9 (nI 4) (by decide) ?_
      first | refine z_ialdN (pc := 10) C dX12_followersOf_10 (by assumption) (by omega) (by decide) ?_ | refine z_ialdI (pc := 10) C dX12_followersOf_10 (by assumption) (by omega) (by decide) ?_
      first | refine z_icmpgeN (pc := 11) C 43 dX12_followersOf_11 (by decide) (by omega) (by omega) (fun hc11 => ?_) (fun hc11 => ?_) | refine z_icmp_ge (pc := 11) C 43 dX12_followersOf_11 (by decide) (fun hc11 => ?_) (fun hc11 => ?_)
      · skip
        refine z_iload_n (pc := 43) C dX12_followersOf_43 2 rfl ?_
        refine z_iret (pc := 44) C dX12_followersOf_44 rfl (Nat.zero_le _) (Nat.zero_le _) ⟨?_, ?_, rfl⟩
        · obtain rfl : f = 0 := (by omega); obtain rfl : k = R 4 := (by omega); rw [he] <;> rfl
        · rfl
      · skip
        refine z_iload_n (pc := 14) C dX12_followersOf_14 2 rfl ?_
        refine z_aload_n (pc := 15) C dX12_followersOf_15 0 rfl ?_
        refine z_getf (pc := 16) C dX12_followersOf_16 fX12_32 (by assumption) (by first | rfl | assumption) ?_
        refine z_bipush (pc := 19) C dX12_followersOf_19 (nI 32) (by decide) ?_
        refine z_iload_n (pc := 21) C dX12_followersOf_21 3 rfl ?_
        first | refine z_iaddN (pc := 22) C dX12_followersOf_22 ?_ | refine z_iadd (pc := 22) C dX12_followersOf_22 ?_
        first | refine z_ialdN (pc := 23) C dX12_followersOf_23 (by assumption) (by omega) (by decide) ?_ | refine z_ialdI (pc := 23) C dX12_followersOf_23 (by assumption) (by omega) (by decide) ?_
        refine z_iload_n (pc := 24) C dX12_followersOf_24 1 rfl ?_
        have e1 := wL k (by omega)
        first | refine z_icmpneN (pc := 25) C 34 dX12_followersOf_25 (by decide) (by omega) (by omega) (fun hc25 => ?_) (fun hc25 => ?_) | refine z_icmp_ne (pc := 25) C 34 dX12_followersOf_25 (by decide) (fun hc25 => ?_) (fun hc25 => ?_)
        · skip
          refine z_iconst (pc := 34) C dX12_followersOf_34 (nI 0) (by decide) ?_
          first | refine z_iorN (pc := 35) C dX12_followersOf_35 ?_ | refine z_ior (pc := 35) C dX12_followersOf_35 ?_
          refine z_istore_n (pc := 36) (lv' := [(2, _), (0, _), (1, _), (3, _)]) C dX12_followersOf_36 (by decide) rfl ?_
          first | refine z_iincN (pc := 37) (lv' := [(3, _), (2, _), (0, _), (1, _)]) C 1 dX12_followersOf_37 3 rfl (by decide) (by decide) rfl ?_ | refine z_iinc (pc := 37) (lv' := [(3, _), (2, _), (0, _), (1, _)]) C dX12_followersOf_37 3 rfl _ rfl (by decide) rfl ?_
          refine z_goto (pc := 40) C 4 dX12_followersOf_40 (by decide) ?_
          refine z_sub (lv' := [(0, _), (1, _), (2, _), (3, _)]) [2, 3, 1, 0] rfl ?_
          exact ih (f - 1) (by omega) (k + 1) _ ⟨by omega, by first | exact sbits_t he (decide_eq_true hc25) | exact sbits_f he (decide_eq_false hc25)⟩
        · skip
          refine z_iconst (pc := 28) C dX12_followersOf_28 (nI 1) (by decide) ?_
          refine z_iload_n (pc := 29) C dX12_followersOf_29 3 rfl ?_
          first | refine z_ishlN (pc := 30) C dX12_followersOf_30 (by omega) ?_ | refine z_ishl (pc := 30) C dX12_followersOf_30 ?_
          refine z_goto (pc := 31) C 35 dX12_followersOf_31 (by decide) ?_
          first | refine z_iorN (pc := 35) C dX12_followersOf_35 ?_ | refine z_ior (pc := 35) C dX12_followersOf_35 ?_
          refine z_istore_n (pc := 36) (lv' := [(2, _), (0, _), (1, _), (3, _)]) C dX12_followersOf_36 (by decide) rfl ?_
          first | refine z_iincN (pc := 37) (lv' := [(3, _), (2, _), (0, _), (1, _)]) C 1 dX12_followersOf_37 3 rfl (by decide) (by decide) rfl ?_ | refine z_iinc (pc := 37) (lv' := [(3, _), (2, _), (0, _), (1, _)]) C dX12_followersOf_37 3 rfl _ rfl (by decide) rfl ?_
          refine z_goto (pc := 40) C 4 dX12_followersOf_40 (by decide) ?_
          refine z_sub (lv' := [(0, _), (1, _), (2, _), (3, _)]) [2, 3, 1, 0] rfl ?_
          exact ih (f - 1) (by omega) (k + 1) _ ⟨by omega, by first | exact sbits_t he (decide_eq_true hc25) | exact sbits_f he (decide_eq_false hc25)⟩
  exact lp4 (R 4) 0 0 ⟨by omega, rfl⟩

set_option maxRecDepth 20000 in
set_option maxHeartbeats 1000000 in
theorem tX12_shotBy {h : ZH} {v : Nat → Int32} {R : Nat → Nat} {p : Nat} (hM : h 1063 = some (zO 8 (mfs v))) (hA : h 1066 = some (zI 241 R)) (hR : wfR R) (hp : p < 2147483648) : ZD mX12_shotBy 0 [.ref 1063, .int (nI p)] h (some (.int (nI (sSho R p)))) h := by
  intro n
  obtain ⟨w1, w3, w4, w5, w0, wP, wM, wK, wX⟩ := id hR
  refine z_enter (lv := [(0, _), (1, _)]) (by decide) (Nat.le_of_ble_eq_true rfl) rfl (fun X C => ?_)
  refine z_iconst (pc := 0) C dX12_shotBy_0 (nI 0) (by decide) ?_
  refine z_istore_n (pc := 1) (lv' := [(2, _), (0, _), (1, _)]) C dX12_shotBy_1 (by decide) rfl ?_
  refine z_iconst (pc := 2) C dX12_shotBy_2 (nI 0) (by decide) ?_
  refine z_istore_n (pc := 3) (lv' := [(3, _), (2, _), (0, _), (1, _)]) C dX12_shotBy_3 (by decide) rfl ?_
  refine z_sub (lv' := [(0, _), (1, _), (2, _), (3, _)]) [2, 3, 1, 0] rfl ?_
  have lp4 : ∀ (f : Nat) (k acc : Nat), (k + f = R 4 ∧ acc = sbits (fun k => decide (R (34 + 4 * k) = p)) k) → Zc X mX12_shotBy (zEnd X (fun r hh n' => r = (some (.int (nI (sSho R p)))) ∧ hh = h ∧ n' = n) 0 0) 4 [(0, .ref 1063), (1, .int (nI p)), (2, .int (nI acc)), (3, .int (nI k))] [] h n 0 0 := by
    intro f
    induction f using Nat.strongRecOn with
    | _ f ih =>
      intro k acc hk
      obtain ⟨hk, he⟩ := hk
      refine z_iload_n (pc := 4) C dX12_shotBy_4 3 rfl ?_
      refine z_aload_n (pc := 5) C dX12_shotBy_5 0 rfl ?_
      refine z_getf (pc := 6) C dX12_shotBy_6 fX12_20 (by assumption) (by first | rfl | assumption) ?_
      refine z_iconst (pc := 9) C dX12_shotBy_9 (nI 4) (by decide) ?_
      first | refine z_ialdN (pc := 10) C dX12_shotBy_10 (by assumption) (by omega) (by decide) ?_ | refine z_ialdI (pc := 10) C dX12_shotBy_10 (by assumption) (by omega) (by decide) ?_
      first | refine z_icmpgeN (pc := 11) C 45 dX12_shotBy_11 (by decide) (by omega) (by omega) (fun hc11 => ?_) (fun hc11 => ?_) | refine z_icmp_ge (pc := 11) C 45 dX12_shotBy_11 (by decide) (fun hc11 => ?_) (fun hc11 => ?_)
      · skip
        refine z_iload_n (pc := 45) C dX12_shotBy_45 2 rfl ?_
        refine z_iret (pc := 46) C dX12_shotBy_46 rfl (Nat.zero_le _) (Nat.zero_le _) ⟨?_, ?_, rfl⟩
        · obtain rfl : f = 0 := (by omega); obtain rfl : k = R 4 := (by omega); rw [he] <;> rfl
        · rfl
      · skip
        refine z_iload_n (pc := 14) C dX12_shotBy_14 2 rfl ?_
        refine z_aload_n (pc := 15) C dX12_shotBy_15 0 rfl ?_
        refine z_getf (pc := 16) C dX12_shotBy_16 fX12_20 (by assumption) (by first | rfl | assumption) ?_
        refine z_bipush (pc := 19) C dX12_shotBy_19 (nI 34) (by decide) ?_
        refine z_iconst (pc := 21) C dX12_shotBy_21 (nI 4) (by decide) ?_
        refine z_iload_n (pc := 22) C dX12_shotBy_22 3 rfl ?_
        first | refine z_imulN (pc := 23) C dX12_shotBy_23 ?_ | refine z_imul (pc := 23) C dX12_shotBy_23 ?_
        first | refine z_iaddN (pc := 24) C dX12_shotBy_24 ?_ | refine z_iadd (pc := 24) C dX12_shotBy_24 ?_
        first | refine z_ialdN (pc := 25) C dX12_shotBy_25 (by assumption) (by omega) (by decide) ?_ | refine z_ialdI (pc := 25) C dX12_shotBy_25 (by assumption) (by omega) (by decide) ?_
        refine z_iload_n (pc := 26) C dX12_shotBy_26 1 rfl ?_
        have e1 := wK k (by omega)
        first | refine z_icmpneN (pc := 27) C 36 dX12_shotBy_27 (by decide) (by omega) (by omega) (fun hc27 => ?_) (fun hc27 => ?_) | refine z_icmp_ne (pc := 27) C 36 dX12_shotBy_27 (by decide) (fun hc27 => ?_) (fun hc27 => ?_)
        · skip
          refine z_iconst (pc := 36) C dX12_shotBy_36 (nI 0) (by decide) ?_
          first | refine z_iorN (pc := 37) C dX12_shotBy_37 ?_ | refine z_ior (pc := 37) C dX12_shotBy_37 ?_
          refine z_istore_n (pc := 38) (lv' := [(2, _), (0, _), (1, _), (3, _)]) C dX12_shotBy_38 (by decide) rfl ?_
          first | refine z_iincN (pc := 39) (lv' := [(3, _), (2, _), (0, _), (1, _)]) C 1 dX12_shotBy_39 3 rfl (by decide) (by decide) rfl ?_ | refine z_iinc (pc := 39) (lv' := [(3, _), (2, _), (0, _), (1, _)]) C dX12_shotBy_39 3 rfl _ rfl (by decide) rfl ?_
          refine z_goto (pc := 42) C 4 dX12_shotBy_42 (by decide) ?_
          refine z_sub (lv' := [(0, _), (1, _), (2, _), (3, _)]) [2, 3, 1, 0] rfl ?_
          exact ih (f - 1) (by omega) (k + 1) _ ⟨by omega, by first | exact sbits_t he (decide_eq_true hc27) | exact sbits_f he (decide_eq_false hc27)⟩
        · skip
          refine z_iconst (pc := 30) C dX12_shotBy_30 (nI 1) (by decide) ?_
          refine z_iload_n (pc := 31) C dX12_shotBy_31 3 rfl ?_
          first | refine z_ishlN (pc := 32) C dX12_shotBy_32 (by omega) ?_ | refine z_ishl (pc := 32) C dX12_shotBy_32 ?_
          refine z_goto (pc := 33) C 37 dX12_shotBy_33 (by decide) ?_
          first | refine z_iorN (pc := 37) C dX12_shotBy_37 ?_ | refine z_ior (pc := 37) C dX12_shotBy_37 ?_
          refine z_istore_n (pc := 38) (lv' := [(2, _), (0, _), (1, _), (3, _)]) C dX12_shotBy_38 (by decide) rfl ?_
          first | refine z_iincN (pc := 39) (lv' := [(3, _), (2, _), (0, _), (1, _)]) C 1 dX12_shotBy_39 3 rfl (by decide) (by decide) rfl ?_ | refine z_iinc (pc := 39) (lv' := [(3, _), (2, _), (0, _), (1, _)]) C dX12_shotBy_39 3 rfl _ rfl (by decide) rfl ?_
          refine z_goto (pc := 42) C 4 dX12_shotBy_42 (by decide) ?_
          refine z_sub (lv' := [(0, _), (1, _), (2, _), (3, _)]) [2, 3, 1, 0] rfl ?_
          exact ih (f - 1) (by omega) (k + 1) _ ⟨by omega, by first | exact sbits_t he (decide_eq_true hc27) | exact sbits_f he (decide_eq_false hc27)⟩
  exact lp4 (R 4) 0 0 ⟨by omega, rfl⟩

set_option maxRecDepth 20000 in
set_option maxHeartbeats 1000000 in
theorem tX12_menAt {h : ZH} {v : Nat → Int32} {R S : Nat → Nat} {p : Nat} (hM : h 1063 = some (zO 8 (mfs v))) (hA : h 1066 = some (zI 241 R)) (hB : h 1070 = some (zI 40 S)) (hR : wfR R) (hS : wfS R S) (hp : p < 2147483648) : ZD mX12_menAt 0 [.ref 1063, .int (nI p)] h (some (.int (nI (sMen R S p)))) h := by
  intro n
  obtain ⟨w1, w3, w4, w5, w0, wP, wM, wK, wX⟩ := id hR
  obtain ⟨wT, wL, wB⟩ := id hS
  refine z_enter (lv := [(0, _), (1, _)]) (by decide) (Nat.le_of_ble_eq_true rfl) rfl (fun X C => ?_)
  refine z_iconst (pc := 0) C dX12_menAt_0 (nI 0) (by decide) ?_
  refine z_istore_n (pc := 1) (lv' := [(2, _), (0, _), (1, _)]) C dX12_menAt_1 (by decide) rfl ?_
  refine z_iconst (pc := 2) C dX12_menAt_2 (nI 0) (by decide) ?_
  refine z_istore_n (pc := 3) (lv' := [(3, _), (2, _), (0, _), (1, _)]) C dX12_menAt_3 (by decide) rfl ?_
  refine z_sub (lv' := [(0, _), (1, _), (2, _), (3, _)]) [2, 3, 1, 0] rfl ?_
  have lp4 : ∀ (f : Nat) (k acc : Nat), (k + f = R 3 ∧ acc = sbits (fun m => decide (S (8 * m) = p)) k) → Zc X mX12_menAt (zEnd X (fun r hh n' => r = (some (.int (nI (sMen R S p)))) ∧ hh = h ∧ n' = n) 0 0) 4 [(0, .ref 1063), (1, .int (nI p)), (2, .int (nI acc)), (3, .int (nI k))] [] h n 0 0 := by
    intro f
    induction f using Nat.strongRecOn with
    | _ f ih =>
      intro k acc hk
      obtain ⟨hk, he⟩ := hk
      refine z_iload_n (pc := 4) C dX12_menAt_4 3 rfl ?_
      refine z_aload_n (pc := 5) C dX12_menAt_5 0 rfl ?_
      refine z_getf (pc := 6) C dX12_menAt_6 fX12_20 (by assumption) (by first | rfl | assumption) ?_
      refine z_iconst (pc := 9) C dX12_menAt_9 (nI 3) (by decide) ?_
      first | refine z_ialdN (pc := 10) C dX12_menAt_10 (by assumption) (by omega) (by decide) ?_ | refine z_ialdI (pc := 10) C dX12_menAt_10 (by assumption) (by omega) (by decide) ?_
      first | refine z_icmpgeN (pc := 11) C 43 dX12_menAt_11 (by decide) (by omega) (by omega) (fun hc11 => ?_) (fun hc11 => ?_) | refine z_icmp_ge (pc := 11) C 43 dX12_menAt_11 (by decide) (fun hc11 => ?_) (fun hc11 => ?_)
      · skip
        refine z_iload_n (pc := 43) C dX12_menAt_43 2 rfl ?_
        refine z_iret (pc := 44) C dX12_menAt_44 rfl (Nat.zero_le _) (Nat.zero_le _) ⟨?_, ?_, rfl⟩
        · obtain rfl : f = 0 := (by omega); obtain rfl : k = R 3 := (by omega); rw [he] <;> rfl
        · rfl
      · skip
        refine z_iload_n (pc := 14) C dX12_menAt_14 2 rfl ?_
        refine z_aload_n (pc := 15) C dX12_menAt_15 0 rfl ?_
        refine z_getf (pc := 16) C dX12_menAt_16 fX12_32 (by assumption) (by first | rfl | assumption) ?_
        refine z_bipush (pc := 19) C dX12_menAt_19 (nI 8) (by decide) ?_
        refine z_iload_n (pc := 21) C dX12_menAt_21 3 rfl ?_
        first | refine z_imulN (pc := 22) C dX12_menAt_22 ?_ | refine z_imul (pc := 22) C dX12_menAt_22 ?_
        first | refine z_ialdN (pc := 23) C dX12_menAt_23 (by assumption) (by omega) (by decide) ?_ | refine z_ialdI (pc := 23) C dX12_menAt_23 (by assumption) (by omega) (by decide) ?_
        refine z_iload_n (pc := 24) C dX12_menAt_24 1 rfl ?_
        have e1 : S (8 * k) < R 1 := wT k (by omega) 0 (by omega)
        first | refine z_icmpneN (pc := 25) C 34 dX12_menAt_25 (by decide) (by omega) (by omega) (fun hc25 => ?_) (fun hc25 => ?_) | refine z_icmp_ne (pc := 25) C 34 dX12_menAt_25 (by decide) (fun hc25 => ?_) (fun hc25 => ?_)
        · skip
          refine z_iconst (pc := 34) C dX12_menAt_34 (nI 0) (by decide) ?_
          first | refine z_iorN (pc := 35) C dX12_menAt_35 ?_ | refine z_ior (pc := 35) C dX12_menAt_35 ?_
          refine z_istore_n (pc := 36) (lv' := [(2, _), (0, _), (1, _), (3, _)]) C dX12_menAt_36 (by decide) rfl ?_
          first | refine z_iincN (pc := 37) (lv' := [(3, _), (2, _), (0, _), (1, _)]) C 1 dX12_menAt_37 3 rfl (by decide) (by decide) rfl ?_ | refine z_iinc (pc := 37) (lv' := [(3, _), (2, _), (0, _), (1, _)]) C dX12_menAt_37 3 rfl _ rfl (by decide) rfl ?_
          refine z_goto (pc := 40) C 4 dX12_menAt_40 (by decide) ?_
          refine z_sub (lv' := [(0, _), (1, _), (2, _), (3, _)]) [2, 3, 1, 0] rfl ?_
          exact ih (f - 1) (by omega) (k + 1) _ ⟨by omega, by first | exact sbits_t he (decide_eq_true hc25) | exact sbits_f he (decide_eq_false hc25)⟩
        · skip
          refine z_iconst (pc := 28) C dX12_menAt_28 (nI 1) (by decide) ?_
          refine z_iload_n (pc := 29) C dX12_menAt_29 3 rfl ?_
          first | refine z_ishlN (pc := 30) C dX12_menAt_30 (by omega) ?_ | refine z_ishl (pc := 30) C dX12_menAt_30 ?_
          refine z_goto (pc := 31) C 35 dX12_menAt_31 (by decide) ?_
          first | refine z_iorN (pc := 35) C dX12_menAt_35 ?_ | refine z_ior (pc := 35) C dX12_menAt_35 ?_
          refine z_istore_n (pc := 36) (lv' := [(2, _), (0, _), (1, _), (3, _)]) C dX12_menAt_36 (by decide) rfl ?_
          first | refine z_iincN (pc := 37) (lv' := [(3, _), (2, _), (0, _), (1, _)]) C 1 dX12_menAt_37 3 rfl (by decide) (by decide) rfl ?_ | refine z_iinc (pc := 37) (lv' := [(3, _), (2, _), (0, _), (1, _)]) C dX12_menAt_37 3 rfl _ rfl (by decide) rfl ?_
          refine z_goto (pc := 40) C 4 dX12_menAt_40 (by decide) ?_
          refine z_sub (lv' := [(0, _), (1, _), (2, _), (3, _)]) [2, 3, 1, 0] rfl ?_
          exact ih (f - 1) (by omega) (k + 1) _ ⟨by omega, by first | exact sbits_t he (decide_eq_true hc25) | exact sbits_f he (decide_eq_false hc25)⟩
  exact lp4 (R 3) 0 0 ⟨by omega, rfl⟩

set_option maxRecDepth 20000 in
set_option maxHeartbeats 1000000 in
theorem tX12_isCrowded {h : ZH} {v : Nat → Int32} {R S : Nat → Nat} {p : Nat} (hM : h 1063 = some (zO 8 (mfs v))) (hA : h 1066 = some (zI 241 R)) (hB : h 1070 = some (zI 40 S)) (hR : wfR R) (hS : wfS R S) (hp : p < R 1) : ZD mX12_isCrowded 4 [.ref 1063, .int (nI p)] h (some (.int (zb (decide (R (9 + p) < sone (sKat R S p) 8))))) h := by
  intro n
  obtain ⟨w1, w3, w4, w5, w0, wP, wM, wK, wX⟩ := id hR
  obtain ⟨wT, wL, wB⟩ := id hS
  have e1 := (wP p hp).1
  have e2 : sKat R S p < 128 := sbits_lt7 _ (by omega)
  have e3 := sone_le (sKat R S p) 8
  refine z_enter (lv := [(0, _), (1, _)]) (by decide) (Nat.le_of_ble_eq_true rfl) rfl (fun X C => ?_)
  refine z_aload_n (pc := 0) C dX12_isCrowded_0 0 rfl ?_
  refine z_iload_n (pc := 1) C dX12_isCrowded_1 1 rfl ?_
  refine z_cV1 (pc := 2) mX12_killsAt C [_] dX12_isCrowded_2 lX12_273 mtX12_killsAt (tX12_killsAt (by first | assumption | omega) (by first | assumption | omega) (by first | assumption | omega) (by first | assumption | omega) (by first | assumption | omega) (by first | assumption | omega)) (by assumption) rfl rfl (by decide) (Nat.le_of_ble_eq_true rfl) (Nat.zero_le _) (Nat.zero_le _) ?_
  refine z_cS1 (pc := 5) mX12_ones C [_] dX12_isCrowded_5 lX12_276 mtX12_ones (tX12_ones (by first | assumption | omega)) rfl rfl (by decide) (Nat.le_of_ble_eq_true rfl) (Nat.zero_le _) (Nat.zero_le _) ?_
  refine z_aload_n (pc := 8) C dX12_isCrowded_8 0 rfl ?_
  refine z_getf (pc := 9) C dX12_isCrowded_9 fX12_20 (by assumption) (by first | rfl | assumption) ?_
  refine z_bipush (pc := 12) C dX12_isCrowded_12 (nI 9) (by decide) ?_
  refine z_iload_n (pc := 14) C dX12_isCrowded_14 1 rfl ?_
  first | refine z_iaddN (pc := 15) C dX12_isCrowded_15 ?_ | refine z_iadd (pc := 15) C dX12_isCrowded_15 ?_
  first | refine z_ialdN (pc := 16) C dX12_isCrowded_16 (by assumption) (by omega) (by decide) ?_ | refine z_ialdI (pc := 16) C dX12_isCrowded_16 (by assumption) (by omega) (by decide) ?_
  first | refine z_icmpleN (pc := 17) C 24 dX12_isCrowded_17 (by decide) (by omega) (by omega) (fun hc17 => ?_) (fun hc17 => ?_) | refine z_icmp_le (pc := 17) C 24 dX12_isCrowded_17 (by decide) (fun hc17 => ?_) (fun hc17 => ?_)
  · skip
    refine z_iconst (pc := 24) C dX12_isCrowded_24 (nI 0) (by decide) ?_
    refine z_zret (pc := 25) C dX12_isCrowded_25 rfl (by first | exact zb_nar _ | rfl) (Nat.zero_le _) (Nat.zero_le _) ⟨?_, ?_, rfl⟩
    · first | (rw [decide_eq_true (by assumption)]; rfl) | (rw [decide_eq_false (by omega)]; rfl)
    · rfl
  · skip
    refine z_iconst (pc := 20) C dX12_isCrowded_20 (nI 1) (by decide) ?_
    refine z_goto (pc := 21) C 25 dX12_isCrowded_21 (by decide) ?_
    refine z_zret (pc := 25) C dX12_isCrowded_25 rfl (by first | exact zb_nar _ | rfl) (Nat.zero_le _) (Nat.zero_le _) ⟨?_, ?_, rfl⟩
    · first | (rw [decide_eq_true (by assumption)]; rfl) | (rw [decide_eq_false (by omega)]; rfl)
    · rfl

set_option maxRecDepth 20000 in
set_option maxHeartbeats 1000000 in
theorem tX12_worthOf {h : ZH} {v : Nat → Int32} {R : Nat → Nat} {a : Nat} (hM : h 1063 = some (zO 8 (mfs v))) (hA : h 1066 = some (zI 241 R)) (hR : wfR R) (ha : a < 2147483648) : ZD mX12_worthOf 1 [.ref 1063, .int (nI a)] h (some (.int (nI (sWor R a)))) h := by
  intro n
  obtain ⟨w1, w3, w4, w5, w0, wP, wM, wK, wX⟩ := id hR
  refine z_enter (lv := [(0, _), (1, _)]) (by decide) (Nat.le_of_ble_eq_true rfl) rfl (fun X C => ?_)
  refine z_iconst (pc := 0) C dX12_worthOf_0 (nI 0) (by decide) ?_
  refine z_istore_n (pc := 1) (lv' := [(2, _), (0, _), (1, _)]) C dX12_worthOf_1 (by decide) rfl ?_
  refine z_iconst (pc := 2) C dX12_worthOf_2 (nI 0) (by decide) ?_
  refine z_istore_n (pc := 3) (lv' := [(3, _), (2, _), (0, _), (1, _)]) C dX12_worthOf_3 (by decide) rfl ?_
  refine z_sub (lv' := [(0, _), (1, _), (2, _), (3, _)]) [2, 3, 1, 0] rfl ?_
  have lp4 : ∀ (f : Nat) (k acc : Nat), (k + f = R 4 ∧ acc = swor R a k) → Zc X mX12_worthOf (zEnd X (fun r hh n' => r = (some (.int (nI (sWor R a)))) ∧ hh = h ∧ n' = n) 0 0) 4 [(0, .ref 1063), (1, .int (nI a)), (2, .int (nI acc)), (3, .int (nI k))] [] h n 0 0 := by
    intro f
    induction f using Nat.strongRecOn with
    | _ f ih =>
      intro k acc hk
      obtain ⟨hk, he⟩ := hk
      refine z_iload_n (pc := 4) C dX12_worthOf_4 3 rfl ?_
      refine z_aload_n (pc := 5) C dX12_worthOf_5 0 rfl ?_
      refine z_getf (pc := 6) C dX12_worthOf_6 fX12_20 (by assumption) (by first | rfl | assumption) ?_
      refine z_iconst (pc := 9) C dX12_worthOf_9 (nI 4) (by decide) ?_
      first | refine z_ialdN (pc := 10) C dX12_worthOf_10 (by assumption) (by omega) (by decide) ?_ | refine z_ialdI (pc := 10) C dX12_worthOf_10 (by assumption) (by omega) (by decide) ?_
      first | refine z_icmpgeN (pc := 11) C 48 dX12_worthOf_11 (by decide) (by omega) (by omega) (fun hc11 => ?_) (fun hc11 => ?_) | refine z_icmp_ge (pc := 11) C 48 dX12_worthOf_11 (by decide) (fun hc11 => ?_) (fun hc11 => ?_)
      · skip
        refine z_iload_n (pc := 48) C dX12_worthOf_48 2 rfl ?_
        refine z_iret (pc := 49) C dX12_worthOf_49 rfl (Nat.zero_le _) (Nat.zero_le _) ⟨?_, ?_, rfl⟩
        · obtain rfl : f = 0 := (by omega); obtain rfl : k = R 4 := (by omega); rw [he] <;> rfl
        · rfl
      · skip
        refine z_iload_n (pc := 14) C dX12_worthOf_14 2 rfl ?_
        refine z_iload_n (pc := 15) C dX12_worthOf_15 1 rfl ?_
        refine z_iload_n (pc := 16) C dX12_worthOf_16 3 rfl ?_
        refine z_cS1 (pc := 17) mX12_hasBit C [_, _] dX12_worthOf_17 lX12_236 mtX12_hasBit (tX12_hasBit (by first | assumption | omega) (by first | assumption | omega)) rfl rfl (by decide) (Nat.le_of_ble_eq_true rfl) (Nat.zero_le _) (Nat.zero_le _) ?_
        first | refine z_ifeqB (pc := 20) C 39 dX12_worthOf_20 (by decide) (fun hc20 => ?_) (fun hc20 => ?_) | refine z_ifeqN (pc := 20) C 39 dX12_worthOf_20 (by decide) (by omega) (fun hc20 => ?_) (fun hc20 => ?_) | refine z_if_eq (pc := 20) C 39 dX12_worthOf_20 (by decide) (fun hc20 => ?_) (fun hc20 => ?_)
        · skip
          refine z_iconst (pc := 39) C dX12_worthOf_39 (nI 0) (by decide) ?_
          first | refine z_iaddN (pc := 40) C dX12_worthOf_40 ?_ | refine z_iadd (pc := 40) C dX12_worthOf_40 ?_
          refine z_istore_n (pc := 41) (lv' := [(2, _), (0, _), (1, _), (3, _)]) C dX12_worthOf_41 (by decide) rfl ?_
          first | refine z_iincN (pc := 42) (lv' := [(3, _), (2, _), (0, _), (1, _)]) C 1 dX12_worthOf_42 3 rfl (by decide) (by decide) rfl ?_ | refine z_iinc (pc := 42) (lv' := [(3, _), (2, _), (0, _), (1, _)]) C dX12_worthOf_42 3 rfl _ rfl (by decide) rfl ?_
          refine z_goto (pc := 45) C 4 dX12_worthOf_45 (by decide) ?_
          refine z_sub (lv' := [(0, _), (1, _), (2, _), (3, _)]) [2, 3, 1, 0] rfl ?_
          exact ih (f - 1) (by omega) (k + 1) _ ⟨by omega, by rw [he, swor, hc20]; rfl⟩
        · skip
          refine z_aload_n (pc := 23) C dX12_worthOf_23 0 rfl ?_
          refine z_getf (pc := 24) C dX12_worthOf_24 fX12_20 (by assumption) (by first | rfl | assumption) ?_
          refine z_bipush (pc := 27) C dX12_worthOf_27 (nI 34) (by decide) ?_
          refine z_iconst (pc := 29) C dX12_worthOf_29 (nI 4) (by decide) ?_
          refine z_iload_n (pc := 30) C dX12_worthOf_30 3 rfl ?_
          first | refine z_imulN (pc := 31) C dX12_worthOf_31 ?_ | refine z_imul (pc := 31) C dX12_worthOf_31 ?_
          first | refine z_iaddN (pc := 32) C dX12_worthOf_32 ?_ | refine z_iadd (pc := 32) C dX12_worthOf_32 ?_
          refine z_iconst (pc := 33) C dX12_worthOf_33 (nI 2) (by decide) ?_
          first | refine z_iaddN (pc := 34) C dX12_worthOf_34 ?_ | refine z_iadd (pc := 34) C dX12_worthOf_34 ?_
          first | refine z_ialdN (pc := 35) C dX12_worthOf_35 (by assumption) (by omega) (by decide) ?_ | refine z_ialdI (pc := 35) C dX12_worthOf_35 (by assumption) (by omega) (by decide) ?_
          refine z_goto (pc := 36) C 40 dX12_worthOf_36 (by decide) ?_
          first | refine z_iaddN (pc := 40) C dX12_worthOf_40 ?_ | refine z_iadd (pc := 40) C dX12_worthOf_40 ?_
          refine z_istore_n (pc := 41) (lv' := [(2, _), (0, _), (1, _), (3, _)]) C dX12_worthOf_41 (by decide) rfl ?_
          first | refine z_iincN (pc := 42) (lv' := [(3, _), (2, _), (0, _), (1, _)]) C 1 dX12_worthOf_42 3 rfl (by decide) (by decide) rfl ?_ | refine z_iinc (pc := 42) (lv' := [(3, _), (2, _), (0, _), (1, _)]) C dX12_worthOf_42 3 rfl _ rfl (by decide) rfl ?_
          refine z_goto (pc := 45) C 4 dX12_worthOf_45 (by decide) ?_
          refine z_sub (lv' := [(0, _), (1, _), (2, _), (3, _)]) [2, 3, 1, 0] rfl ?_
          exact ih (f - 1) (by omega) (k + 1) _ ⟨by omega, by rw [he, swor, hc20]; rfl⟩
  exact lp4 (R 4) 0 0 ⟨by omega, rfl⟩

set_option maxRecDepth 20000 in
set_option maxHeartbeats 1000000 in
theorem tX12_isPlace {h : ZH} {v : Nat → Int32} {R : Nat → Nat} {p : Int32} {b : Bool} (hM : h 1063 = some (zO 8 (mfs v))) (hA : h 1066 = some (zI 241 R)) (hR : wfR R) (hF : v 14 = zb b) : ZD mX12_isPlace 1 [.ref 1063, .int p] h (some (.int (zb (b && zlt p (R 1))))) h := by
  intro n
  obtain ⟨w1, w3, w4, w5, w0, wP, wM, wK, wX⟩ := id hR
  refine z_enter (lv := [(0, _), (1, _)]) (by decide) (Nat.le_of_ble_eq_true rfl) rfl (fun X C => ?_)
  refine z_aload_n (pc := 0) C dX12_isPlace_0 0 rfl ?_
  refine z_getf (pc := 1) C dX12_isPlace_1 fX12_180 (by assumption) (by first | rfl | assumption) ?_
  rw [hF]
  first | refine z_ifeqB (pc := 4) C 27 dX12_isPlace_4 (by decide) (fun hc4 => ?_) (fun hc4 => ?_) | refine z_ifeqN (pc := 4) C 27 dX12_isPlace_4 (by decide) (by omega) (fun hc4 => ?_) (fun hc4 => ?_) | refine z_if_eq (pc := 4) C 27 dX12_isPlace_4 (by decide) (fun hc4 => ?_) (fun hc4 => ?_)
  · skip
    refine z_iconst (pc := 27) C dX12_isPlace_27 (nI 0) (by decide) ?_
    refine z_zret (pc := 28) C dX12_isPlace_28 rfl (by first | exact zb_nar _ | rfl) (Nat.zero_le _) (Nat.zero_le _) ⟨?_, ?_, rfl⟩
    · simp [*] <;> rfl
    · rfl
  · skip
    refine z_iload_n (pc := 7) C dX12_isPlace_7 1 rfl ?_
    refine z_iconst (pc := 8) C dX12_isPlace_8 (nI 0) (by decide) ?_
    refine z_aload_n (pc := 9) C dX12_isPlace_9 0 rfl ?_
    refine z_getf (pc := 10) C dX12_isPlace_10 fX12_20 (by assumption) (by first | rfl | assumption) ?_
    refine z_iconst (pc := 13) C dX12_isPlace_13 (nI 1) (by decide) ?_
    first | refine z_ialdN (pc := 14) C dX12_isPlace_14 (by assumption) (by omega) (by decide) ?_ | refine z_ialdI (pc := 14) C dX12_isPlace_14 (by assumption) (by omega) (by decide) ?_
    refine z_iconst (pc := 15) C dX12_isPlace_15 (nI 1) (by decide) ?_
    first | refine z_isubN (pc := 16) C dX12_isPlace_16 (by omega) ?_ | refine z_isub (pc := 16) C dX12_isPlace_16 ?_
    refine z_cS1 (pc := 17) mX12_in C [_, _, _] dX12_isPlace_17 lX12_146 mtX12_in tX12_in rfl rfl (by decide) (Nat.le_of_ble_eq_true rfl) (Nat.zero_le _) (Nat.zero_le _) ?_
    rw [zlt_le p (by omega)]
    first | refine z_ifeqB (pc := 20) C 27 dX12_isPlace_20 (by decide) (fun hc20 => ?_) (fun hc20 => ?_) | refine z_ifeqN (pc := 20) C 27 dX12_isPlace_20 (by decide) (by omega) (fun hc20 => ?_) (fun hc20 => ?_) | refine z_if_eq (pc := 20) C 27 dX12_isPlace_20 (by decide) (fun hc20 => ?_) (fun hc20 => ?_)
    · skip
      refine z_iconst (pc := 27) C dX12_isPlace_27 (nI 0) (by decide) ?_
      refine z_zret (pc := 28) C dX12_isPlace_28 rfl (by first | exact zb_nar _ | rfl) (Nat.zero_le _) (Nat.zero_le _) ⟨?_, ?_, rfl⟩
      · simp [*] <;> rfl
      · rfl
    · skip
      refine z_iconst (pc := 23) C dX12_isPlace_23 (nI 1) (by decide) ?_
      refine z_goto (pc := 24) C 28 dX12_isPlace_24 (by decide) ?_
      refine z_zret (pc := 28) C dX12_isPlace_28 rfl (by first | exact zb_nar _ | rfl) (Nat.zero_le _) (Nat.zero_le _) ⟨?_, ?_, rfl⟩
      · simp [*] <;> rfl
      · rfl

set_option maxRecDepth 20000 in
set_option maxHeartbeats 1000000 in
theorem tX12_isMan {h : ZH} {v : Nat → Int32} {R : Nat → Nat} {p : Int32} {b : Bool} (hM : h 1063 = some (zO 8 (mfs v))) (hA : h 1066 = some (zI 241 R)) (hR : wfR R) (hF : v 14 = zb b) : ZD mX12_isMan 1 [.ref 1063, .int p] h (some (.int (zb (b && zlt p (R 3))))) h := by
  intro n
  obtain ⟨w1, w3, w4, w5, w0, wP, wM, wK, wX⟩ := id hR
  refine z_enter (lv := [(0, _), (1, _)]) (by decide) (Nat.le_of_ble_eq_true rfl) rfl (fun X C => ?_)
  refine z_aload_n (pc := 0) C dX12_isMan_0 0 rfl ?_
  refine z_getf (pc := 1) C dX12_isMan_1 fX12_180 (by assumption) (by first | rfl | assumption) ?_
  rw [hF]
  first | refine z_ifeqB (pc := 4) C 27 dX12_isMan_4 (by decide) (fun hc4 => ?_) (fun hc4 => ?_) | refine z_ifeqN (pc := 4) C 27 dX12_isMan_4 (by decide) (by omega) (fun hc4 => ?_) (fun hc4 => ?_) | refine z_if_eq (pc := 4) C 27 dX12_isMan_4 (by decide) (fun hc4 => ?_) (fun hc4 => ?_)
  · skip
    refine z_iconst (pc := 27) C dX12_isMan_27 (nI 0) (by decide) ?_
    refine z_zret (pc := 28) C dX12_isMan_28 rfl (by first | exact zb_nar _ | rfl) (Nat.zero_le _) (Nat.zero_le _) ⟨?_, ?_, rfl⟩
    · simp [*] <;> rfl
    · rfl
  · skip
    refine z_iload_n (pc := 7) C dX12_isMan_7 1 rfl ?_
    refine z_iconst (pc := 8) C dX12_isMan_8 (nI 0) (by decide) ?_
    refine z_aload_n (pc := 9) C dX12_isMan_9 0 rfl ?_
    refine z_getf (pc := 10) C dX12_isMan_10 fX12_20 (by assumption) (by first | rfl | assumption) ?_
    refine z_iconst (pc := 13) C dX12_isMan_13 (nI 3) (by decide) ?_
    first | refine z_ialdN (pc := 14) C dX12_isMan_14 (by assumption) (by omega) (by decide) ?_ | refine z_ialdI (pc := 14) C dX12_isMan_14 (by assumption) (by omega) (by decide) ?_
    refine z_iconst (pc := 15) C dX12_isMan_15 (nI 1) (by decide) ?_
    first | refine z_isubN (pc := 16) C dX12_isMan_16 (by omega) ?_ | refine z_isub (pc := 16) C dX12_isMan_16 ?_
    refine z_cS1 (pc := 17) mX12_in C [_, _, _] dX12_isMan_17 lX12_146 mtX12_in tX12_in rfl rfl (by decide) (Nat.le_of_ble_eq_true rfl) (Nat.zero_le _) (Nat.zero_le _) ?_
    rw [zlt_le p (by omega)]
    first | refine z_ifeqB (pc := 20) C 27 dX12_isMan_20 (by decide) (fun hc20 => ?_) (fun hc20 => ?_) | refine z_ifeqN (pc := 20) C 27 dX12_isMan_20 (by decide) (by omega) (fun hc20 => ?_) (fun hc20 => ?_) | refine z_if_eq (pc := 20) C 27 dX12_isMan_20 (by decide) (fun hc20 => ?_) (fun hc20 => ?_)
    · skip
      refine z_iconst (pc := 27) C dX12_isMan_27 (nI 0) (by decide) ?_
      refine z_zret (pc := 28) C dX12_isMan_28 rfl (by first | exact zb_nar _ | rfl) (Nat.zero_le _) (Nat.zero_le _) ⟨?_, ?_, rfl⟩
      · simp [*] <;> rfl
      · rfl
    · skip
      refine z_iconst (pc := 23) C dX12_isMan_23 (nI 1) (by decide) ?_
      refine z_goto (pc := 24) C 28 dX12_isMan_24 (by decide) ?_
      refine z_zret (pc := 28) C dX12_isMan_28 rfl (by first | exact zb_nar _ | rfl) (Nat.zero_le _) (Nat.zero_le _) ⟨?_, ?_, rfl⟩
      · simp [*] <;> rfl
      · rfl

set_option maxRecDepth 20000 in
set_option maxHeartbeats 1000000 in
theorem tX12_isKill {h : ZH} {v : Nat → Int32} {R : Nat → Nat} {p : Int32} {b : Bool} (hM : h 1063 = some (zO 8 (mfs v))) (hA : h 1066 = some (zI 241 R)) (hR : wfR R) (hF : v 14 = zb b) : ZD mX12_isKill 1 [.ref 1063, .int p] h (some (.int (zb (b && zlt p (R 4))))) h := by
  intro n
  obtain ⟨w1, w3, w4, w5, w0, wP, wM, wK, wX⟩ := id hR
  refine z_enter (lv := [(0, _), (1, _)]) (by decide) (Nat.le_of_ble_eq_true rfl) rfl (fun X C => ?_)
  refine z_aload_n (pc := 0) C dX12_isKill_0 0 rfl ?_
  refine z_getf (pc := 1) C dX12_isKill_1 fX12_180 (by assumption) (by first | rfl | assumption) ?_
  rw [hF]
  first | refine z_ifeqB (pc := 4) C 27 dX12_isKill_4 (by decide) (fun hc4 => ?_) (fun hc4 => ?_) | refine z_ifeqN (pc := 4) C 27 dX12_isKill_4 (by decide) (by omega) (fun hc4 => ?_) (fun hc4 => ?_) | refine z_if_eq (pc := 4) C 27 dX12_isKill_4 (by decide) (fun hc4 => ?_) (fun hc4 => ?_)
  · skip
    refine z_iconst (pc := 27) C dX12_isKill_27 (nI 0) (by decide) ?_
    refine z_zret (pc := 28) C dX12_isKill_28 rfl (by first | exact zb_nar _ | rfl) (Nat.zero_le _) (Nat.zero_le _) ⟨?_, ?_, rfl⟩
    · simp [*] <;> rfl
    · rfl
  · skip
    refine z_iload_n (pc := 7) C dX12_isKill_7 1 rfl ?_
    refine z_iconst (pc := 8) C dX12_isKill_8 (nI 0) (by decide) ?_
    refine z_aload_n (pc := 9) C dX12_isKill_9 0 rfl ?_
    refine z_getf (pc := 10) C dX12_isKill_10 fX12_20 (by assumption) (by first | rfl | assumption) ?_
    refine z_iconst (pc := 13) C dX12_isKill_13 (nI 4) (by decide) ?_
    first | refine z_ialdN (pc := 14) C dX12_isKill_14 (by assumption) (by omega) (by decide) ?_ | refine z_ialdI (pc := 14) C dX12_isKill_14 (by assumption) (by omega) (by decide) ?_
    refine z_iconst (pc := 15) C dX12_isKill_15 (nI 1) (by decide) ?_
    first | refine z_isubN (pc := 16) C dX12_isKill_16 (by omega) ?_ | refine z_isub (pc := 16) C dX12_isKill_16 ?_
    refine z_cS1 (pc := 17) mX12_in C [_, _, _] dX12_isKill_17 lX12_146 mtX12_in tX12_in rfl rfl (by decide) (Nat.le_of_ble_eq_true rfl) (Nat.zero_le _) (Nat.zero_le _) ?_
    rw [zlt_le p (by omega)]
    first | refine z_ifeqB (pc := 20) C 27 dX12_isKill_20 (by decide) (fun hc20 => ?_) (fun hc20 => ?_) | refine z_ifeqN (pc := 20) C 27 dX12_isKill_20 (by decide) (by omega) (fun hc20 => ?_) (fun hc20 => ?_) | refine z_if_eq (pc := 20) C 27 dX12_isKill_20 (by decide) (fun hc20 => ?_) (fun hc20 => ?_)
    · skip
      refine z_iconst (pc := 27) C dX12_isKill_27 (nI 0) (by decide) ?_
      refine z_zret (pc := 28) C dX12_isKill_28 rfl (by first | exact zb_nar _ | rfl) (Nat.zero_le _) (Nat.zero_le _) ⟨?_, ?_, rfl⟩
      · simp [*] <;> rfl
      · rfl
    · skip
      refine z_iconst (pc := 23) C dX12_isKill_23 (nI 1) (by decide) ?_
      refine z_goto (pc := 24) C 28 dX12_isKill_24 (by decide) ?_
      refine z_zret (pc := 28) C dX12_isKill_28 rfl (by first | exact zb_nar _ | rfl) (Nat.zero_le _) (Nat.zero_le _) ⟨?_, ?_, rfl⟩
      · simp [*] <;> rfl
      · rfl

set_option maxRecDepth 20000 in
set_option maxHeartbeats 1000000 in
theorem tX12_isStray {h : ZH} {v : Nat → Int32} {R : Nat → Nat} {p : Int32} {b : Bool} (hM : h 1063 = some (zO 8 (mfs v))) (hA : h 1066 = some (zI 241 R)) (hR : wfR R) (hF : v 14 = zb b) : ZD mX12_isStray 1 [.ref 1063, .int p] h (some (.int (zb (b && zlt p (R 5))))) h := by
  intro n
  obtain ⟨w1, w3, w4, w5, w0, wP, wM, wK, wX⟩ := id hR
  refine z_enter (lv := [(0, _), (1, _)]) (by decide) (Nat.le_of_ble_eq_true rfl) rfl (fun X C => ?_)
  refine z_aload_n (pc := 0) C dX12_isStray_0 0 rfl ?_
  refine z_getf (pc := 1) C dX12_isStray_1 fX12_180 (by assumption) (by first | rfl | assumption) ?_
  rw [hF]
  first | refine z_ifeqB (pc := 4) C 27 dX12_isStray_4 (by decide) (fun hc4 => ?_) (fun hc4 => ?_) | refine z_ifeqN (pc := 4) C 27 dX12_isStray_4 (by decide) (by omega) (fun hc4 => ?_) (fun hc4 => ?_) | refine z_if_eq (pc := 4) C 27 dX12_isStray_4 (by decide) (fun hc4 => ?_) (fun hc4 => ?_)
  · skip
    refine z_iconst (pc := 27) C dX12_isStray_27 (nI 0) (by decide) ?_
    refine z_zret (pc := 28) C dX12_isStray_28 rfl (by first | exact zb_nar _ | rfl) (Nat.zero_le _) (Nat.zero_le _) ⟨?_, ?_, rfl⟩
    · simp [*] <;> rfl
    · rfl
  · skip
    refine z_iload_n (pc := 7) C dX12_isStray_7 1 rfl ?_
    refine z_iconst (pc := 8) C dX12_isStray_8 (nI 0) (by decide) ?_
    refine z_aload_n (pc := 9) C dX12_isStray_9 0 rfl ?_
    refine z_getf (pc := 10) C dX12_isStray_10 fX12_20 (by assumption) (by first | rfl | assumption) ?_
    refine z_iconst (pc := 13) C dX12_isStray_13 (nI 5) (by decide) ?_
    first | refine z_ialdN (pc := 14) C dX12_isStray_14 (by assumption) (by omega) (by decide) ?_ | refine z_ialdI (pc := 14) C dX12_isStray_14 (by assumption) (by omega) (by decide) ?_
    refine z_iconst (pc := 15) C dX12_isStray_15 (nI 1) (by decide) ?_
    first | refine z_isubN (pc := 16) C dX12_isStray_16 (by omega) ?_ | refine z_isub (pc := 16) C dX12_isStray_16 ?_
    refine z_cS1 (pc := 17) mX12_in C [_, _, _] dX12_isStray_17 lX12_146 mtX12_in tX12_in rfl rfl (by decide) (Nat.le_of_ble_eq_true rfl) (Nat.zero_le _) (Nat.zero_le _) ?_
    rw [zlt_le p (by omega)]
    first | refine z_ifeqB (pc := 20) C 27 dX12_isStray_20 (by decide) (fun hc20 => ?_) (fun hc20 => ?_) | refine z_ifeqN (pc := 20) C 27 dX12_isStray_20 (by decide) (by omega) (fun hc20 => ?_) (fun hc20 => ?_) | refine z_if_eq (pc := 20) C 27 dX12_isStray_20 (by decide) (fun hc20 => ?_) (fun hc20 => ?_)
    · skip
      refine z_iconst (pc := 27) C dX12_isStray_27 (nI 0) (by decide) ?_
      refine z_zret (pc := 28) C dX12_isStray_28 rfl (by first | exact zb_nar _ | rfl) (Nat.zero_le _) (Nat.zero_le _) ⟨?_, ?_, rfl⟩
      · simp [*] <;> rfl
      · rfl
    · skip
      refine z_iconst (pc := 23) C dX12_isStray_23 (nI 1) (by decide) ?_
      refine z_goto (pc := 24) C 28 dX12_isStray_24 (by decide) ?_
      refine z_zret (pc := 28) C dX12_isStray_28 rfl (by first | exact zb_nar _ | rfl) (Nat.zero_le _) (Nat.zero_le _) ⟨?_, ?_, rfl⟩
      · simp [*] <;> rfl
      · rfl
