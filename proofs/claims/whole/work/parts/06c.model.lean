theorem nI_andn {x b : Nat} (hx : x < 128) (hb : b < 128) : nI x &&& (nI b ^^^ (-1)) = nI (x &&& (b ^^^ 127)) := by
  have h : ∀ x b : Fin 128, x.val &&& (b.val ^^^ 4294967295) = x.val &&& (b.val ^^^ 127) := by decide +kernel
  rw [show (-1 : Int32) = nI 4294967295 from by decide, nI_xor, nI_and, h ⟨x, hx⟩ ⟨b, hb⟩]
/-- a step of the spreading: through the open places op -/
def sspr (R : Nat → Nat) (a op : Nat) : Nat → Nat
  | 0 => a
  | p + 1 => sspr R a op p ||| (if a.testBit p then R (23 + p) &&& op else 0)
def sSpr (R : Nat → Nat) (a op : Nat) : Nat := sspr R a op (R 1)
theorem sspr_lt {R : Nat → Nat} (hR : wfR R) {a : Nat} (ha : a < 128) (op : Nat) : ∀ p, p ≤ R 1 → sspr R a op p < 128 := by
  intro p
  induction p with
  | zero => intro _; exact ha
  | succ p ih =>
    intro hp
    rw [sspr]
    refine Nat.or_lt_two_pow (n := 7) (ih (by omega)) ?_
    split
    · exact Nat.lt_of_le_of_lt Nat.and_le_left (hR.2.2.2.2.2.1 p (by omega)).2.1
    · decide
theorem sSpr_lt {R : Nat → Nat} (hR : wfR R) {a : Nat} (ha : a < 128) (op : Nat) : sSpr R a op < 128 := sspr_lt hR ha op _ (Nat.le_refl _)
def sstp (R : Nat → Nat) (op q : Nat) : Nat → Nat → Nat → Option Nat
  | 0, _, _ => none
  | f + 1, k, a => if a.testBit q then some k else sstp R op q f (k + 1) (sSpr R a op)
theorem sstp_lt (R : Nat → Nat) (op q : Nat) : ∀ f k a r, sstp R op q f k a = some r → r < k + f := by
  intro f
  induction f with
  | zero => intro k a r h; cases h
  | succ f ih =>
    intro k a r h
    rw [sstp] at h
    split at h
    · cases h; omega
    · have := ih _ _ _ h; omega
def srch (R : Nat → Nat) (op : Nat) : Nat → Nat → Nat
  | 0, a => a
  | f + 1, a => srch R op f (sSpr R a op)
def sStp (R : Nat → Nat) (p q op : Nat) : Option Nat := sstp R op q 8 0 (1 <<< p)
theorem sStp_lt {R : Nat → Nat} {p q op r : Nat} (h : sStp R p q op = some r) : r < 8 := by have := sstp_lt R op q 8 0 _ _ h; omega
def sRch (R : Nat → Nat) (p op : Nat) : Nat := srch R op 7 (1 <<< p)
theorem s1_lt {p : Nat} (h : p < 7) : 1 <<< p < 128 := by rw [Nat.shiftLeft_eq, Nat.one_mul]; exact Nat.pow_lt_pow_right (by decide) h
def ssee (R S : Nat → Nat) (m : Nat) : Nat → Nat
  | 0 => 0
  | k + 1 => ssee R S m k ||| (if S (32 + k) = m then 0 else match sstd R S k with | some p => 1 <<< p | none => 0)
def sSee (R S : Nat → Nat) (m : Nat) : Nat := ssee R S m (R 4)
theorem ssee_lt {R S : Nat → Nat} (hR : wfR R) (hS : wfS R S) (m : Nat) : ∀ k, k ≤ R 4 → ssee R S m k < 128 := by
  intro k
  induction k with
  | zero => intro _; exact (by decide : 0 < 128)
  | succ k ih =>
    intro hk
    rw [ssee]
    refine Nat.or_lt_two_pow (n := 7) (ih (by omega)) ?_
    split
    · decide
    · split
      · rename_i p hp
        have := sstd_lt hR hS (by omega) hp
        exact s1_lt (by have := hR.1; omega)
      · decide
theorem sSee_lt {R S : Nat → Nat} (hR : wfR R) (hS : wfS R S) (m : Nat) : sSee R S m < 128 := ssee_lt hR hS m _ (Nat.le_refl _)
theorem zo_le {o : Option Nat} {a : Nat} (ha : a < 2147483648) (ho : ∀ k, o = some k → k < 2147483648) : zo o ≤ nI a ↔ o.getD 0 ≤ a := by
  cases o with
  | none =>
    simp only [zo, Option.getD_none, Nat.zero_le, iff_true]
    rw [Int32.le_iff_toInt_le, nI_toInt (by omega)]
    have h2 : (-2 : Int32).toInt = -2 := by decide
    omega
  | some k => exact nI_leI (by have := ho k rfl; omega) (by omega)
theorem zo_gt {o : Option Nat} {a : Nat} (ha : a < 2147483648) (ho : ∀ k, o = some k → k < 2147483648) (h : ¬ zo o ≤ nI a) : ∃ q, o = some q ∧ a < q := by
  have h1 : ¬ o.getD 0 ≤ a := fun z => h ((zo_le ha ho).mpr z)
  cases o with
  | none => exact absurd (Nat.zero_le _) h1
  | some q => exact ⟨q, rfl, Nat.not_le.mp h1⟩
def sfar (R : Nat → Nat) (p : Nat) : Nat → Nat
  | 0 => 0
  | q + 1 => max (sfar R p q) ((sStp R p q 127).getD 0)
theorem sfar_lt (R : Nat → Nat) (p : Nat) : ∀ q, sfar R p q < 8 := by
  intro q
  induction q with
  | zero => exact (by decide : 0 < 8)
  | succ q ih =>
    rw [sfar]
    have : (sStp R p q 127).getD 0 < 8 := by
      cases h : sStp R p q 127 with
      | none => decide
      | some r => exact sStp_lt h
    omega
def sDis (R S : Nat → Nat) (m k : Nat) : Nat := match sstd R S k with
  | none => 1000000
  | some p => (sStp R (S (8 * m)) p 127).getD 1000000
theorem sDis_le (R S : Nat → Nat) (m k : Nat) : sDis R S m k ≤ 1000000 := by
  unfold sDis
  split
  · exact Nat.le_refl _
  · rename_i p _
    cases h : sStp R (S (8 * m)) p 127 with
    | none => exact Nat.le_refl _
    | some r => have := sStp_lt h; show r ≤ _; omega
def shas (R S : Nat → Nat) (a steps m : Nat) : Nat → Bool
  | 0 => false
  | k + 1 => shas R S a steps m k || (a.testBit k && decide (sDis R S m k ≤ steps))
def scom (R S : Nat → Nat) (a steps : Nat) : Nat → Bool
  | 0 => true
  | m + 1 => scom R S a steps m && shas R S a steps m (R 4)
theorem scom_f {R S : Nat → Nat} {a s m : Nat} (h : shas R S a s m (R 4) = false) : ∀ j, m < j → scom R S a s j = false := by
  intro j
  induction j with
  | zero => intro hj; omega
  | succ j ih =>
    intro hj
    rw [scom]
    by_cases e : m = j
    · subst e; rw [h]; simp
    · rw [ih (by omega)]; rfl
def snea (R S : Nat → Nat) (m : Nat) : Nat → Nat
  | 0 => 1000000
  | k + 1 => min (sDis R S m k) (snea R S m k)
theorem snea_le (R S : Nat → Nat) (m : Nat) : ∀ k, snea R S m k ≤ 1000000 := by
  intro k
  cases k with
  | zero => exact Nat.le_refl _
  | succ k => rw [snea]; have := sDis_le R S m k; omega
def sowe (R S : Nat → Nat) (m : Nat) : Nat → Nat
  | 0 => 0
  | k + 1 => sowe R S m k ||| (if S (32 + k) = m ∧ R (34 + 4 * k) ≠ m then 1 <<< R (34 + 4 * k) else 0)
def sOwe (R S : Nat → Nat) (m : Nat) : Nat := sowe R S m (R 4)
theorem sowe_lt {R : Nat → Nat} (hR : wfR R) (S : Nat → Nat) (m : Nat) : ∀ k, k ≤ R 4 → sowe R S m k < 16 := by
  intro k
  induction k with
  | zero => intro _; exact (by decide : 0 < 16)
  | succ k ih =>
    intro hk
    rw [sowe]
    refine Nat.or_lt_two_pow (n := 4) (ih (by omega)) ?_
    split
    · have h1 := (hR.2.2.2.2.2.2.2.1 k (by omega)).1
      have h2 := hR.2.1
      rw [Nat.shiftLeft_eq, Nat.one_mul]
      exact Nat.pow_lt_pow_right (by decide) (by omega)
    · decide
theorem sOwe_lt {R : Nat → Nat} (hR : wfR R) (S : Nat → Nat) (m : Nat) : sOwe R S m < 16 := sowe_lt hR S m _ (Nat.le_refl _)
def sfit (R F : Nat → Nat) (s m far : Nat) : Bool := decide (sdark F m (8 - sbeh R m far) (sbeh R m far) = some (R (58 + s)))
def sfi (R F : Nat → Nat) (s m : Nat) : Nat → Nat
  | 0 => 0
  | far + 1 => sfi R F s m far + (if sfit R F s m far then 1 else 0)
def sfs (R F : Nat → Nat) (s : Nat) : Nat → Nat
  | 0 => 0
  | m + 1 => sfs R F s m + sfi R F s m 4
theorem sfi_le (R F : Nat → Nat) (s m : Nat) : ∀ k, sfi R F s m k ≤ k := by
  intro k
  induction k with
  | zero => exact Nat.le_refl _
  | succ k ih => rw [sfi]; split <;> omega
theorem sfs_le (R F : Nat → Nat) (s : Nat) : ∀ k, sfs R F s k ≤ 4 * k := by
  intro k
  induction k with
  | zero => exact Nat.le_refl _
  | succ k ih => rw [sfs]; have := sfi_le R F s k 4; omega
theorem sfs_ge (R F : Nat → Nat) (s m : Nat) : ∀ k, m < k → sfi R F s m 4 ≤ sfs R F s k := by
  intro k
  induction k with
  | zero => intro h; omega
  | succ k ih =>
    intro h
    rw [sfs]
    by_cases e : m = k
    · subst e; omega
    · have := ih (by omega); omega
def slea (R F : Nat → Nat) (s m : Nat) : Nat := max (sfi R F s m 4) (sfs R F s (R 3) - sfi R F s m 4)

set_option maxRecDepth 20000 in
set_option maxHeartbeats 1000000 in
theorem tX12_spread {h : ZH} {v : Nat → Int32} {R : Nat → Nat} {a b : Nat} (hM : h 1063 = some (zO 8 (mfs v))) (hA : h 1066 = some (zI 241 R)) (hR : wfR R) (ha : a < 128) (hb : b < 128) : ZD mX12_spread 1 [.ref 1063, .int (nI a), .int (nI b)] h (some (.int (nI (sSpr R a (b ^^^ 127))))) h := by
  intro n
  obtain ⟨w1, w3, w4, w5, w0, wP, wM, wK, wX⟩ := id hR
  refine z_enter (lv := [(0, _), (1, _), (2, _)]) (by decide) (Nat.le_of_ble_eq_true rfl) rfl (fun X C => ?_)
  refine z_iload_n (pc := 0) C dX12_spread_0 1 rfl ?_
  refine z_istore_n (pc := 1) (lv' := [(3, _), (0, _), (1, _), (2, _)]) C dX12_spread_1 (by decide) rfl ?_
  refine z_iconst (pc := 2) C dX12_spread_2 (nI 0) (by decide) ?_
  refine z_istore (pc := 3) (lv' := [(4, _), (3, _), (0, _), (1, _), (2, _)]) C dX12_spread_3 (by decide) rfl ?_
  refine z_sub (lv' := [(0, _), (1, _), (2, _), (3, _), (4, _)]) [2, 3, 4, 1, 0] rfl ?_
  have lp5 : ∀ (f : Nat) (k acc : Nat), (k + f = R 1 ∧ acc = sspr R a (b ^^^ 127) k) → Zc X mX12_spread (zEnd X (fun r hh n' => r = (some (.int (nI (sSpr R a (b ^^^ 127))))) ∧ hh = h ∧ n' = n) 0 0) 5 [(0, .ref 1063), (1, .int (nI a)), (2, .int (nI b)), (3, .int (nI acc)), (4, .int (nI k))] [] h n 0 0 := by
    intro f
    induction f using Nat.strongRecOn with
    | _ f ih =>
      intro k acc hk
      obtain ⟨hk, he⟩ := hk
      refine z_iload (pc := 5) C dX12_spread_5 4 rfl ?_
      refine z_aload_n (pc := 7) C dX12_spread_7 0 rfl ?_
      refine z_getf (pc := 8) C dX12_spread_8 fX12_20 (by assumption) (by first | rfl | assumption) ?_
      refine z_iconst (pc := 11) C dX12_spread_11 (nI 1) (by decide) ?_
      first | refine z_ialdN (pc := 12) C dX12_spread_12 (by assumption) (by omega) (by decide) ?_ | refine z_ialdI (pc := 12) C dX12_spread_12 (by assumption) (by omega) (by decide) ?_
      first | refine z_icmpgeN (pc := 13) C 52 dX12_spread_13 (by decide) (by omega) (by omega) (fun hc13 => ?_) (fun hc13 => ?_) | refine z_icmp_ge (pc := 13) C 52 dX12_spread_13 (by decide) (fun hc13 => ?_) (fun hc13 => ?_)
      · skip
        refine z_iload_n (pc := 52) C dX12_spread_52 3 rfl ?_
        refine z_iret (pc := 53) C dX12_spread_53 rfl (Nat.zero_le _) (Nat.zero_le _) ⟨?_, ?_, rfl⟩
        · obtain rfl : f = 0 := (by omega); obtain rfl : k = R 1 := (by omega); rw [he] <;> rfl
        · rfl
      · skip
        refine z_iload_n (pc := 16) C dX12_spread_16 3 rfl ?_
        refine z_iload_n (pc := 17) C dX12_spread_17 1 rfl ?_
        refine z_iload (pc := 18) C dX12_spread_18 4 rfl ?_
        refine z_cS1 (pc := 20) mX12_hasBit C [_, _] dX12_spread_20 lX12_236 mtX12_hasBit (tX12_hasBit (by first | assumption | omega) (by first | assumption | omega)) rfl rfl (by decide) (Nat.le_of_ble_eq_true rfl) (Nat.zero_le _) (Nat.zero_le _) ?_
        first | refine z_ifeqB (pc := 23) C 43 dX12_spread_23 (by decide) (fun hc23 => ?_) (fun hc23 => ?_) | refine z_ifeqN (pc := 23) C 43 dX12_spread_23 (by decide) (by omega) (fun hc23 => ?_) (fun hc23 => ?_) | refine z_if_eq (pc := 23) C 43 dX12_spread_23 (by decide) (fun hc23 => ?_) (fun hc23 => ?_)
        · skip
          refine z_iconst (pc := 43) C dX12_spread_43 (nI 0) (by decide) ?_
          first | refine z_iorN (pc := 44) C dX12_spread_44 ?_ | refine z_ior (pc := 44) C dX12_spread_44 ?_
          refine z_istore_n (pc := 45) (lv' := [(3, _), (0, _), (1, _), (2, _), (4, _)]) C dX12_spread_45 (by decide) rfl ?_
          first | refine z_iincN (pc := 46) (lv' := [(4, _), (3, _), (0, _), (1, _), (2, _)]) C 1 dX12_spread_46 4 rfl (by decide) (by decide) rfl ?_ | refine z_iinc (pc := 46) (lv' := [(4, _), (3, _), (0, _), (1, _), (2, _)]) C dX12_spread_46 4 rfl _ rfl (by decide) rfl ?_
          refine z_goto (pc := 49) C 5 dX12_spread_49 (by decide) ?_
          refine z_sub (lv' := [(0, _), (1, _), (2, _), (3, _), (4, _)]) [2, 3, 4, 1, 0] rfl ?_
          exact ih (f - 1) (by omega) (k + 1) _ ⟨by omega, by rw [he, sspr, hc23]; rfl⟩
        · skip
          refine z_aload_n (pc := 26) C dX12_spread_26 0 rfl ?_
          refine z_getf (pc := 27) C dX12_spread_27 fX12_20 (by assumption) (by first | rfl | assumption) ?_
          refine z_bipush (pc := 30) C dX12_spread_30 (nI 23) (by decide) ?_
          refine z_iload (pc := 32) C dX12_spread_32 4 rfl ?_
          first | refine z_iaddN (pc := 34) C dX12_spread_34 ?_ | refine z_iadd (pc := 34) C dX12_spread_34 ?_
          first | refine z_ialdN (pc := 35) C dX12_spread_35 (by assumption) (by omega) (by decide) ?_ | refine z_ialdI (pc := 35) C dX12_spread_35 (by assumption) (by omega) (by decide) ?_
          refine z_iload_n (pc := 36) C dX12_spread_36 2 rfl ?_
          refine z_iconst (pc := 37) C dX12_spread_37 (-1) (by decide) ?_
          refine z_ixor (pc := 38) C dX12_spread_38 ?_
          refine z_iand (pc := 39) C dX12_spread_39 ?_
          refine z_top (nI_andn (wP k (by omega)).2.1 hb) ?_
          refine z_goto (pc := 40) C 44 dX12_spread_40 (by decide) ?_
          first | refine z_iorN (pc := 44) C dX12_spread_44 ?_ | refine z_ior (pc := 44) C dX12_spread_44 ?_
          refine z_istore_n (pc := 45) (lv' := [(3, _), (0, _), (1, _), (2, _), (4, _)]) C dX12_spread_45 (by decide) rfl ?_
          first | refine z_iincN (pc := 46) (lv' := [(4, _), (3, _), (0, _), (1, _), (2, _)]) C 1 dX12_spread_46 4 rfl (by decide) (by decide) rfl ?_ | refine z_iinc (pc := 46) (lv' := [(4, _), (3, _), (0, _), (1, _), (2, _)]) C dX12_spread_46 4 rfl _ rfl (by decide) rfl ?_
          refine z_goto (pc := 49) C 5 dX12_spread_49 (by decide) ?_
          refine z_sub (lv' := [(0, _), (1, _), (2, _), (3, _), (4, _)]) [2, 3, 4, 1, 0] rfl ?_
          exact ih (f - 1) (by omega) (k + 1) _ ⟨by omega, by rw [he, sspr, hc23]; rfl⟩
  exact lp5 (R 1) 0 a ⟨by omega, rfl⟩

set_option maxRecDepth 20000 in
set_option maxHeartbeats 1000000 in
theorem tX12_stepsTo {h : ZH} {v : Nat → Int32} {R : Nat → Nat} {p q b : Nat} (hM : h 1063 = some (zO 8 (mfs v))) (hA : h 1066 = some (zI 241 R)) (hR : wfR R) (hp : p < 7) (hq : q < 7) (hb : b < 128) : ZD mX12_stepsTo 2 [.ref 1063, .int (nI p), .int (nI q), .int (nI b)] h (some (.int (zo (sStp R p q (b ^^^ 127))))) h := by
  intro n
  obtain ⟨w1, w3, w4, w5, w0, wP, wM, wK, wX⟩ := id hR
  refine z_enter (lv := [(0, _), (1, _), (2, _), (3, _)]) (by decide) (Nat.le_of_ble_eq_true rfl) rfl (fun X C => ?_)
  refine z_iconst (pc := 0) C dX12_stepsTo_0 (nI 1) (by decide) ?_
  refine z_iload_n (pc := 1) C dX12_stepsTo_1 1 rfl ?_
  first | refine z_ishlN (pc := 2) C dX12_stepsTo_2 (by omega) ?_ | refine z_ishl (pc := 2) C dX12_stepsTo_2 ?_
  refine z_istore (pc := 3) (lv' := [(4, _), (0, _), (1, _), (2, _), (3, _)]) C dX12_stepsTo_3 (by decide) rfl ?_
  refine z_iconst (pc := 5) C dX12_stepsTo_5 (nI 0) (by decide) ?_
  refine z_istore (pc := 6) (lv' := [(5, _), (4, _), (0, _), (1, _), (2, _), (3, _)]) C dX12_stepsTo_6 (by decide) rfl ?_
  refine z_sub (lv' := [(0, _), (1, _), (2, _), (3, _), (4, _), (5, _)]) [2, 3, 4, 5, 1, 0] rfl ?_
  have lp8 : ∀ (f : Nat) (k a : Nat), (k + f = 8 ∧ a < 128 ∧ sStp R p q (b ^^^ 127) = sstp R (b ^^^ 127) q f k a) → Zc X mX12_stepsTo (zEnd X (fun r hh n' => r = (some (.int (zo (sStp R p q (b ^^^ 127))))) ∧ hh = h ∧ n' = n) 0 0) 8 [(0, .ref 1063), (1, .int (nI p)), (2, .int (nI q)), (3, .int (nI b)), (4, .int (nI a)), (5, .int (nI k))] [] h n 0 0 := by
    intro f
    induction f using Nat.strongRecOn with
    | _ f ih =>
      intro k a hk
      obtain ⟨hk, ha, he⟩ := hk
      refine z_iload (pc := 8) C dX12_stepsTo_8 5 rfl ?_
      refine z_bipush (pc := 10) C dX12_stepsTo_10 (nI 7) (by decide) ?_
      first | refine z_icmpgtN (pc := 12) C 42 dX12_stepsTo_12 (by decide) (by omega) (by omega) (fun hc12 => ?_) (fun hc12 => ?_) | refine z_icmp_gt (pc := 12) C 42 dX12_stepsTo_12 (by decide) (fun hc12 => ?_) (fun hc12 => ?_)
      · skip
        refine z_bipush (pc := 42) C dX12_stepsTo_42 (-2) (by decide) ?_
        refine z_iret (pc := 44) C dX12_stepsTo_44 rfl (Nat.zero_le _) (Nat.zero_le _) ⟨?_, ?_, rfl⟩
        · rw [he]; obtain rfl : f = 0 := (by omega); rfl
        · rfl
      · skip
        refine z_iload (pc := 15) C dX12_stepsTo_15 4 rfl ?_
        refine z_iload_n (pc := 17) C dX12_stepsTo_17 2 rfl ?_
        refine z_cS1 (pc := 18) mX12_hasBit C [_, _] dX12_stepsTo_18 lX12_236 mtX12_hasBit (tX12_hasBit (by first | assumption | omega) (by first | assumption | omega)) rfl rfl (by decide) (Nat.le_of_ble_eq_true rfl) (Nat.zero_le _) (Nat.zero_le _) ?_
        first | refine z_ifeqB (pc := 21) C 27 dX12_stepsTo_21 (by decide) (fun hc21 => ?_) (fun hc21 => ?_) | refine z_ifeqN (pc := 21) C 27 dX12_stepsTo_21 (by decide) (by omega) (fun hc21 => ?_) (fun hc21 => ?_) | refine z_if_eq (pc := 21) C 27 dX12_stepsTo_21 (by decide) (fun hc21 => ?_) (fun hc21 => ?_)
        · skip
          refine z_aload_n (pc := 27) C dX12_stepsTo_27 0 rfl ?_
          refine z_iload (pc := 28) C dX12_stepsTo_28 4 rfl ?_
          refine z_iload_n (pc := 30) C dX12_stepsTo_30 3 rfl ?_
          refine z_cV1 (pc := 31) mX12_spread C [_, _] dX12_stepsTo_31 lX12_307 mtX12_spread (tX12_spread (by first | assumption | omega) (by first | assumption | omega) (by first | assumption | omega) (by first | assumption | omega) (by first | assumption | omega)) (by assumption) rfl rfl (by decide) (Nat.le_of_ble_eq_true rfl) (Nat.zero_le _) (Nat.zero_le _) ?_
          refine z_istore (pc := 34) (lv' := [(4, _), (0, _), (1, _), (2, _), (3, _), (5, _)]) C dX12_stepsTo_34 (by decide) rfl ?_
          first | refine z_iincN (pc := 36) (lv' := [(5, _), (4, _), (0, _), (1, _), (2, _), (3, _)]) C 1 dX12_stepsTo_36 5 rfl (by decide) (by decide) rfl ?_ | refine z_iinc (pc := 36) (lv' := [(5, _), (4, _), (0, _), (1, _), (2, _), (3, _)]) C dX12_stepsTo_36 5 rfl _ rfl (by decide) rfl ?_
          refine z_goto (pc := 39) C 8 dX12_stepsTo_39 (by decide) ?_
          refine z_sub (lv' := [(0, _), (1, _), (2, _), (3, _), (4, _), (5, _)]) [2, 3, 4, 5, 1, 0] rfl ?_
          exact ih (f - 1) (by omega) (k + 1) _ ⟨by omega, sSpr_lt hR ha _, by rw [he]; obtain ⟨f, rfl⟩ : ∃ g, f = g + 1 := ⟨f - 1, by omega⟩; simp [sstp, hc21]⟩
        · skip
          refine z_iload (pc := 24) C dX12_stepsTo_24 5 rfl ?_
          refine z_iret (pc := 26) C dX12_stepsTo_26 rfl (Nat.zero_le _) (Nat.zero_le _) ⟨?_, ?_, rfl⟩
          · rw [he]; obtain ⟨f, rfl⟩ : ∃ g, f = g + 1 := ⟨f - 1, by omega⟩; simp [sstp, hc21, zo]
          · rfl
  exact lp8 8 0 _ ⟨rfl, s1_lt hp, rfl⟩

set_option maxRecDepth 20000 in
set_option maxHeartbeats 1000000 in
theorem tX12_reachOf {h : ZH} {v : Nat → Int32} {R : Nat → Nat} {p b : Nat} (hM : h 1063 = some (zO 8 (mfs v))) (hA : h 1066 = some (zI 241 R)) (hR : wfR R) (hp : p < 7) (hb : b < 128) : ZD mX12_reachOf 2 [.ref 1063, .int (nI p), .int (nI b)] h (some (.int (nI (sRch R p (b ^^^ 127))))) h := by
  intro n
  obtain ⟨w1, w3, w4, w5, w0, wP, wM, wK, wX⟩ := id hR
  refine z_enter (lv := [(0, _), (1, _), (2, _)]) (by decide) (Nat.le_of_ble_eq_true rfl) rfl (fun X C => ?_)
  refine z_iconst (pc := 0) C dX12_reachOf_0 (nI 1) (by decide) ?_
  refine z_iload_n (pc := 1) C dX12_reachOf_1 1 rfl ?_
  first | refine z_ishlN (pc := 2) C dX12_reachOf_2 (by omega) ?_ | refine z_ishl (pc := 2) C dX12_reachOf_2 ?_
  refine z_istore_n (pc := 3) (lv' := [(3, _), (0, _), (1, _), (2, _)]) C dX12_reachOf_3 (by decide) rfl ?_
  refine z_iconst (pc := 4) C dX12_reachOf_4 (nI 0) (by decide) ?_
  refine z_istore (pc := 5) (lv' := [(4, _), (3, _), (0, _), (1, _), (2, _)]) C dX12_reachOf_5 (by decide) rfl ?_
  refine z_sub (lv' := [(0, _), (1, _), (2, _), (3, _), (4, _)]) [2, 3, 4, 1, 0] rfl ?_
  have lp7 : ∀ (f : Nat) (k a : Nat), (k + f = 7 ∧ a < 128 ∧ sRch R p (b ^^^ 127) = srch R (b ^^^ 127) f a) → Zc X mX12_reachOf (zEnd X (fun r hh n' => r = (some (.int (nI (sRch R p (b ^^^ 127))))) ∧ hh = h ∧ n' = n) 0 0) 7 [(0, .ref 1063), (1, .int (nI p)), (2, .int (nI b)), (3, .int (nI a)), (4, .int (nI k))] [] h n 0 0 := by
    intro f
    induction f using Nat.strongRecOn with
    | _ f ih =>
      intro k a hk
      obtain ⟨hk, ha, he⟩ := hk
      refine z_iload (pc := 7) C dX12_reachOf_7 4 rfl ?_
      refine z_bipush (pc := 9) C dX12_reachOf_9 (nI 7) (by decide) ?_
      first | refine z_icmpgeN (pc := 11) C 27 dX12_reachOf_11 (by decide) (by omega) (by omega) (fun hc11 => ?_) (fun hc11 => ?_) | refine z_icmp_ge (pc := 11) C 27 dX12_reachOf_11 (by decide) (fun hc11 => ?_) (fun hc11 => ?_)
      · skip
        refine z_iload_n (pc := 27) C dX12_reachOf_27 3 rfl ?_
        refine z_iret (pc := 28) C dX12_reachOf_28 rfl (Nat.zero_le _) (Nat.zero_le _) ⟨?_, ?_, rfl⟩
        · rw [he]; obtain rfl : f = 0 := (by omega); rfl
        · rfl
      · skip
        refine z_aload_n (pc := 14) C dX12_reachOf_14 0 rfl ?_
        refine z_iload_n (pc := 15) C dX12_reachOf_15 3 rfl ?_
        refine z_iload_n (pc := 16) C dX12_reachOf_16 2 rfl ?_
        refine z_cV1 (pc := 17) mX12_spread C [_, _] dX12_reachOf_17 lX12_307 mtX12_spread (tX12_spread (by first | assumption | omega) (by first | assumption | omega) (by first | assumption | omega) (by first | assumption | omega) (by first | assumption | omega)) (by assumption) rfl rfl (by decide) (Nat.le_of_ble_eq_true rfl) (Nat.zero_le _) (Nat.zero_le _) ?_
        refine z_istore_n (pc := 20) (lv' := [(3, _), (0, _), (1, _), (2, _), (4, _)]) C dX12_reachOf_20 (by decide) rfl ?_
        first | refine z_iincN (pc := 21) (lv' := [(4, _), (3, _), (0, _), (1, _), (2, _)]) C 1 dX12_reachOf_21 4 rfl (by decide) (by decide) rfl ?_ | refine z_iinc (pc := 21) (lv' := [(4, _), (3, _), (0, _), (1, _), (2, _)]) C dX12_reachOf_21 4 rfl _ rfl (by decide) rfl ?_
        refine z_goto (pc := 24) C 7 dX12_reachOf_24 (by decide) ?_
        refine z_sub (lv' := [(0, _), (1, _), (2, _), (3, _), (4, _)]) [2, 3, 4, 1, 0] rfl ?_
        exact ih (f - 1) (by omega) (k + 1) _ ⟨by omega, sSpr_lt hR ha _, by rw [he]; obtain ⟨f, rfl⟩ : ∃ g, f = g + 1 := ⟨f - 1, by omega⟩; rfl⟩
  exact lp7 7 0 _ ⟨rfl, s1_lt hp, rfl⟩

set_option maxRecDepth 20000 in
set_option maxHeartbeats 1000000 in
theorem tX12_seenBy {h : ZH} {v : Nat → Int32} {R S : Nat → Nat} {m : Nat} (hM : h 1063 = some (zO 8 (mfs v))) (hA : h 1066 = some (zI 241 R)) (hB : h 1070 = some (zI 40 S)) (hR : wfR R) (hS : wfS R S) (hm : m < 2147483648) : ZD mX12_seenBy 3 [.ref 1063, .int (nI m)] h (some (.int (nI (sSee R S m)))) h := by
  intro n
  obtain ⟨w1, w3, w4, w5, w0, wP, wM, wK, wX⟩ := id hR
  obtain ⟨wT, wL, wB⟩ := id hS
  refine z_enter (lv := [(0, _), (1, _)]) (by decide) (Nat.le_of_ble_eq_true rfl) rfl (fun X C => ?_)
  refine z_iconst (pc := 0) C dX12_seenBy_0 (nI 0) (by decide) ?_
  refine z_istore_n (pc := 1) (lv' := [(2, _), (0, _), (1, _)]) C dX12_seenBy_1 (by decide) rfl ?_
  refine z_iconst (pc := 2) C dX12_seenBy_2 (nI 0) (by decide) ?_
  refine z_istore_n (pc := 3) (lv' := [(3, _), (2, _), (0, _), (1, _)]) C dX12_seenBy_3 (by decide) rfl ?_
  refine z_sub (lv' := [(0, _), (1, _), (2, _), (3, _)]) [2, 3, 1, 0] rfl ?_
  have lp4 : ∀ (f : Nat) (k acc : Nat), (k + f = R 4 ∧ acc = ssee R S m k) → Zc X mX12_seenBy (zEnd X (fun r hh n' => r = (some (.int (nI (sSee R S m)))) ∧ hh = h ∧ n' = n) 0 0) 4 [(0, .ref 1063), (1, .int (nI m)), (2, .int (nI acc)), (3, .int (nI k))] [] h n 0 0 := by
    intro f
    induction f using Nat.strongRecOn with
    | _ f ih =>
      intro k acc hk
      obtain ⟨hk, he⟩ := hk
      refine z_iload_n (pc := 4) C dX12_seenBy_4 3 rfl ?_
      refine z_aload_n (pc := 5) C dX12_seenBy_5 0 rfl ?_
      refine z_getf (pc := 6) C dX12_seenBy_6 fX12_20 (by assumption) (by first | rfl | assumption) ?_
      refine z_iconst (pc := 9) C dX12_seenBy_9 (nI 4) (by decide) ?_
      first | refine z_ialdN (pc := 10) C dX12_seenBy_10 (by assumption) (by omega) (by decide) ?_ | refine z_ialdI (pc := 10) C dX12_seenBy_10 (by assumption) (by omega) (by decide) ?_
      first | refine z_icmpgeN (pc := 11) C 60 dX12_seenBy_11 (by decide) (by omega) (by omega) (fun hc11 => ?_) (fun hc11 => ?_) | refine z_icmp_ge (pc := 11) C 60 dX12_seenBy_11 (by decide) (fun hc11 => ?_) (fun hc11 => ?_)
      · skip
        refine z_iload_n (pc := 60) C dX12_seenBy_60 2 rfl ?_
        refine z_iret (pc := 61) C dX12_seenBy_61 rfl (Nat.zero_le _) (Nat.zero_le _) ⟨?_, ?_, rfl⟩
        · obtain rfl : f = 0 := (by omega); obtain rfl : k = R 4 := (by omega); rw [he] <;> rfl
        · rfl
      · skip
        refine z_aload_n (pc := 14) C dX12_seenBy_14 0 rfl ?_
        refine z_aload_n (pc := 15) C dX12_seenBy_15 0 rfl ?_
        refine z_getf (pc := 16) C dX12_seenBy_16 fX12_32 (by assumption) (by first | rfl | assumption) ?_
        refine z_iload_n (pc := 19) C dX12_seenBy_19 3 rfl ?_
        refine z_cV1 (pc := 20) mX12_standsOf C [_, _] dX12_seenBy_20 lX12_269 mtX12_standsOf (tX12_standsOf (by first | assumption | omega) (by first | assumption | omega) (by first | assumption | omega) (by first | assumption | omega) (by first | assumption | omega) (by first | assumption | omega)) (by assumption) rfl rfl (by decide) (Nat.le_of_ble_eq_true rfl) (Nat.zero_le _) (Nat.zero_le _) ?_
        refine z_istore (pc := 23) (lv' := [(4, _), (0, _), (1, _), (2, _), (3, _)]) C dX12_seenBy_23 (by decide) rfl ?_
        have e1 : ∀ q, sstd R S k = some q → q < 2147483648 := fun q hq => by have := sstd_lt hR hS (by omega) hq; omega
        refine z_iload_n (pc := 25) C dX12_seenBy_25 3 rfl ?_
        refine z_aload_n (pc := 26) C dX12_seenBy_26 1 rfl ?_
        refine z_getf (pc := 27) C dX12_seenBy_27 fX12_32 (by assumption) (by first | rfl | assumption) ?_
        refine z_bipush (pc := 30) C dX12_seenBy_30 (nI 32) (by decide) ?_
        refine z_iload_n (pc := 32) C dX12_seenBy_32 4 rfl ?_
        first | refine z_iaddN (pc := 33) C dX12_seenBy_33 ?_ | refine z_iadd (pc := 33) C dX12_seenBy_33 ?_
        first | refine z_ialdN (pc := 34) C dX12_seenBy_34 (by assumption) (by omega) (by decide) ?_ | refine z_ialdI (pc := 34) C dX12_seenBy_34 (by assumption) (by omega) (by decide) ?_
        refine z_iload_n (pc := 35) C dX12_seenBy_35 2 rfl ?_
        have e3 := wL k (by omega)
        first | refine z_icmpeqN (pc := 36) C 51 dX12_seenBy_36 (by decide) (by omega) (by omega) (fun hc36 => ?_) (fun hc36 => ?_) | refine z_icmp_eq (pc := 36) C 51 dX12_seenBy_36 (by decide) (fun hc36 => ?_) (fun hc36 => ?_)
        · skip
          refine z_iconst (pc := 51) C dX12_seenBy_51 (nI 0) (by decide) ?_
          first | refine z_iorN (pc := 52) C dX12_seenBy_52 ?_ | refine z_ior (pc := 52) C dX12_seenBy_52 ?_
          refine z_istore_n (pc := 53) (lv' := [(2, _), (4, _), (0, _), (1, _), (3, _)]) C dX12_seenBy_53 (by decide) rfl ?_
          first | refine z_iincN (pc := 54) (lv' := [(3, _), (2, _), (4, _), (0, _), (1, _)]) C 1 dX12_seenBy_54 4 rfl (by decide) (by decide) rfl ?_ | refine z_iinc (pc := 54) (lv' := [(3, _), (2, _), (4, _), (0, _), (1, _)]) C dX12_seenBy_54 4 rfl _ rfl (by decide) rfl ?_
          refine z_goto (pc := 57) C 4 dX12_seenBy_57 (by decide) ?_
          refine z_sub (lv' := [(0, _), (1, _), (2, _), (3, _)]) [3, 4, 1, 0] rfl ?_
          exact ih (f - 1) (by omega) (k + 1) _ ⟨by omega, by rw [he, ssee]; simp [*]⟩
        · skip
          refine z_iload (pc := 39) C dX12_seenBy_39 0 rfl ?_
          first | refine z_ifltO (pc := 41) C 51 dX12_seenBy_41 (by decide) (by assumption) (fun hc41 => ?_) (fun hc41 => ?_) | refine z_ifltN (pc := 41) C 51 dX12_seenBy_41 (by decide) (by omega) (fun hc41 => ?_) (fun hc41 => ?_) | refine z_if_lt (pc := 41) C 51 dX12_seenBy_41 (by decide) (fun hc41 => ?_) (fun hc41 => ?_)
          · skip
            refine z_iconst (pc := 51) C dX12_seenBy_51 (nI 0) (by decide) ?_
            first | refine z_iorN (pc := 52) C dX12_seenBy_52 ?_ | refine z_ior (pc := 52) C dX12_seenBy_52 ?_
            refine z_istore_n (pc := 53) (lv' := [(2, _), (4, _), (0, _), (1, _), (3, _)]) C dX12_seenBy_53 (by decide) rfl ?_
            first | refine z_iincN (pc := 54) (lv' := [(3, _), (2, _), (4, _), (0, _), (1, _)]) C 1 dX12_seenBy_54 4 rfl (by decide) (by decide) rfl ?_ | refine z_iinc (pc := 54) (lv' := [(3, _), (2, _), (4, _), (0, _), (1, _)]) C dX12_seenBy_54 4 rfl _ rfl (by decide) rfl ?_
            refine z_goto (pc := 57) C 4 dX12_seenBy_57 (by decide) ?_
            refine z_sub (lv' := [(0, _), (1, _), (2, _), (3, _)]) [3, 4, 1, 0] rfl ?_
            exact ih (f - 1) (by omega) (k + 1) _ ⟨by omega, by rw [he, ssee]; simp [*]⟩
          · skip
            obtain ⟨q, hq⟩ := hc41
            have e2 := sstd_lt hR hS (by omega) hq
            rw [hq]
            refine z_iconst (pc := 44) C dX12_seenBy_44 (nI 1) (by decide) ?_
            refine z_iload (pc := 45) C dX12_seenBy_45 0 rfl ?_
            refine z_top (show zo (some q) = nI q from rfl) ?_
            first | refine z_ishlN (pc := 47) C dX12_seenBy_47 (by omega) ?_ | refine z_ishl (pc := 47) C dX12_seenBy_47 ?_
            refine z_goto (pc := 48) C 52 dX12_seenBy_48 (by decide) ?_
            first | refine z_iorN (pc := 52) C dX12_seenBy_52 ?_ | refine z_ior (pc := 52) C dX12_seenBy_52 ?_
            refine z_istore_n (pc := 53) (lv' := [(2, _), (4, _), (0, _), (1, _), (3, _)]) C dX12_seenBy_53 (by decide) rfl ?_
            first | refine z_iincN (pc := 54) (lv' := [(3, _), (2, _), (4, _), (0, _), (1, _)]) C 1 dX12_seenBy_54 4 rfl (by decide) (by decide) rfl ?_ | refine z_iinc (pc := 54) (lv' := [(3, _), (2, _), (4, _), (0, _), (1, _)]) C dX12_seenBy_54 4 rfl _ rfl (by decide) rfl ?_
            refine z_goto (pc := 57) C 4 dX12_seenBy_57 (by decide) ?_
            refine z_sub (lv' := [(0, _), (1, _), (2, _), (3, _)]) [3, 4, 1, 0] rfl ?_
            exact ih (f - 1) (by omega) (k + 1) _ ⟨by omega, by rw [he, ssee]; simp [*]⟩
  exact lp4 (R 4) 0 0 ⟨by omega, rfl⟩

set_option maxRecDepth 20000 in
set_option maxHeartbeats 1000000 in
theorem tX12_farthestOf {h : ZH} {v : Nat → Int32} {R : Nat → Nat} {p : Nat} (hM : h 1063 = some (zO 8 (mfs v))) (hA : h 1066 = some (zI 241 R)) (hR : wfR R) (hp : p < 7) : ZD mX12_farthestOf 3 [.ref 1063, .int (nI p)] h (some (.int (nI (sfar R p (R 1))))) h := by
  intro n
  obtain ⟨w1, w3, w4, w5, w0, wP, wM, wK, wX⟩ := id hR
  refine z_enter (lv := [(0, _), (1, _)]) (by decide) (Nat.le_of_ble_eq_true rfl) rfl (fun X C => ?_)
  refine z_iconst (pc := 0) C dX12_farthestOf_0 (nI 0) (by decide) ?_
  refine z_istore_n (pc := 1) (lv' := [(2, _), (0, _), (1, _)]) C dX12_farthestOf_1 (by decide) rfl ?_
  refine z_iconst (pc := 2) C dX12_farthestOf_2 (nI 0) (by decide) ?_
  refine z_istore_n (pc := 3) (lv' := [(3, _), (2, _), (0, _), (1, _)]) C dX12_farthestOf_3 (by decide) rfl ?_
  refine z_sub (lv' := [(0, _), (1, _), (2, _), (3, _)]) [2, 3, 1, 0] rfl ?_
  have lp4 : ∀ (f : Nat) (k acc : Nat), (k + f = R 1 ∧ acc = sfar R p k) → Zc X mX12_farthestOf (zEnd X (fun r hh n' => r = (some (.int (nI (sfar R p (R 1))))) ∧ hh = h ∧ n' = n) 0 0) 4 [(0, .ref 1063), (1, .int (nI p)), (2, .int (nI acc)), (3, .int (nI k))] [] h n 0 0 := by
    intro f
    induction f using Nat.strongRecOn with
    | _ f ih =>
      intro k acc hk
      obtain ⟨hk, he⟩ := hk
      have e0 := sfar_lt R p k
      have e1 : ∀ r, sStp R p k 127 = some r → r < 2147483648 := fun r hr => by have := sStp_lt hr; omega
      refine z_iload_n (pc := 4) C dX12_farthestOf_4 3 rfl ?_
      refine z_aload_n (pc := 5) C dX12_farthestOf_5 0 rfl ?_
      refine z_getf (pc := 6) C dX12_farthestOf_6 fX12_20 (by assumption) (by first | rfl | assumption) ?_
      refine z_iconst (pc := 9) C dX12_farthestOf_9 (nI 1) (by decide) ?_
      first | refine z_ialdN (pc := 10) C dX12_farthestOf_10 (by assumption) (by omega) (by decide) ?_ | refine z_ialdI (pc := 10) C dX12_farthestOf_10 (by assumption) (by omega) (by decide) ?_
      first | refine z_icmpgeN (pc := 11) C 43 dX12_farthestOf_11 (by decide) (by omega) (by omega) (fun hc11 => ?_) (fun hc11 => ?_) | refine z_icmp_ge (pc := 11) C 43 dX12_farthestOf_11 (by decide) (fun hc11 => ?_) (fun hc11 => ?_)
      · skip
        refine z_iload_n (pc := 43) C dX12_farthestOf_43 2 rfl ?_
        refine z_iret (pc := 44) C dX12_farthestOf_44 rfl (Nat.zero_le _) (Nat.zero_le _) ⟨?_, ?_, rfl⟩
        · obtain rfl : f = 0 := (by omega); obtain rfl : k = R 1 := (by omega); rw [he] <;> rfl
        · rfl
      · skip
        refine z_aload_n (pc := 14) C dX12_farthestOf_14 0 rfl ?_
        refine z_iload_n (pc := 15) C dX12_farthestOf_15 1 rfl ?_
        refine z_iload_n (pc := 16) C dX12_farthestOf_16 3 rfl ?_
        refine z_iconst (pc := 17) C dX12_farthestOf_17 (nI 0) (by decide) ?_
        refine z_cV1 (pc := 18) mX12_stepsTo C [_, _, _] dX12_farthestOf_18 lX12_310 mtX12_stepsTo (tX12_stepsTo (b := 0) hM hA hR hp (by omega) (by decide)) (by assumption) rfl rfl (by decide) (Nat.le_of_ble_eq_true rfl) (Nat.zero_le _) (Nat.zero_le _) ?_
        refine z_iload_n (pc := 21) C dX12_farthestOf_21 2 rfl ?_
        refine z_icmp_le (pc := 22) C 35 dX12_farthestOf_22 (by decide) (fun hc22 => ?_) (fun hc22 => ?_)
        · skip
          refine z_iload_n (pc := 35) C dX12_farthestOf_35 2 rfl ?_
          refine z_istore_n (pc := 36) (lv' := [(2, _), (0, _), (1, _), (3, _)]) C dX12_farthestOf_36 (by decide) rfl ?_
          first | refine z_iincN (pc := 37) (lv' := [(3, _), (2, _), (0, _), (1, _)]) C 1 dX12_farthestOf_37 3 rfl (by decide) (by decide) rfl ?_ | refine z_iinc (pc := 37) (lv' := [(3, _), (2, _), (0, _), (1, _)]) C dX12_farthestOf_37 3 rfl _ rfl (by decide) rfl ?_
          refine z_goto (pc := 40) C 4 dX12_farthestOf_40 (by decide) ?_
          refine z_sub (lv' := [(0, _), (1, _), (2, _), (3, _)]) [2, 3, 1, 0] rfl ?_
          first | exact ih (f - 1) (by omega) (k + 1) _ ⟨by omega, by rw [sfar, ← he]; have := (zo_le (by omega) e1).mp hc22; omega⟩ | exact ih (f - 1) (by omega) (k + 1) q ⟨by omega, by rw [sfar, ← he, hq]; show q = max acc q; omega⟩
        · skip
          refine z_aload_n (pc := 25) C dX12_farthestOf_25 0 rfl ?_
          refine z_iload_n (pc := 26) C dX12_farthestOf_26 1 rfl ?_
          refine z_iload_n (pc := 27) C dX12_farthestOf_27 3 rfl ?_
          refine z_iconst (pc := 28) C dX12_farthestOf_28 (nI 0) (by decide) ?_
          refine z_cV1 (pc := 29) mX12_stepsTo C [_, _, _] dX12_farthestOf_29 lX12_310 mtX12_stepsTo (tX12_stepsTo (b := 0) hM hA hR hp (by omega) (by decide)) (by assumption) rfl rfl (by decide) (Nat.le_of_ble_eq_true rfl) (Nat.zero_le _) (Nat.zero_le _) ?_
          obtain ⟨q, hq, hq2⟩ := zo_gt (by omega) e1 hc22
          rw [show sStp R p k (0 ^^^ 127) = some q from hq]
          refine z_top (show zo (some q) = nI q from rfl) ?_
          refine z_goto (pc := 32) C 36 dX12_farthestOf_32 (by decide) ?_
          refine z_istore_n (pc := 36) (lv' := [(2, _), (0, _), (1, _), (3, _)]) C dX12_farthestOf_36 (by decide) rfl ?_
          first | refine z_iincN (pc := 37) (lv' := [(3, _), (2, _), (0, _), (1, _)]) C 1 dX12_farthestOf_37 3 rfl (by decide) (by decide) rfl ?_ | refine z_iinc (pc := 37) (lv' := [(3, _), (2, _), (0, _), (1, _)]) C dX12_farthestOf_37 3 rfl _ rfl (by decide) rfl ?_
          refine z_goto (pc := 40) C 4 dX12_farthestOf_40 (by decide) ?_
          refine z_sub (lv' := [(0, _), (1, _), (2, _), (3, _)]) [2, 3, 1, 0] rfl ?_
          first | exact ih (f - 1) (by omega) (k + 1) _ ⟨by omega, by rw [sfar, ← he]; have := (zo_le (by omega) e1).mp hc22; omega⟩ | exact ih (f - 1) (by omega) (k + 1) q ⟨by omega, by rw [sfar, ← he, hq]; show q = max acc q; omega⟩
  exact lp4 (R 1) 0 0 ⟨by omega, rfl⟩

set_option maxRecDepth 20000 in
set_option maxHeartbeats 1000000 in
theorem tX12_farOf {h : ZH} {v : Nat → Int32} {R S : Nat → Nat} {m k : Nat} (hM : h 1063 = some (zO 8 (mfs v))) (hA : h 1066 = some (zI 241 R)) (hB : h 1070 = some (zI 40 S)) (hR : wfR R) (hS : wfS R S) (hm : m < R 3) (hk : k < R 4) : ZD mX12_farOf 3 [.ref 1063, .int (nI m), .int (nI k)] h (some (.int (nI (sDis R S m k)))) h := by
  intro n
  obtain ⟨w1, w3, w4, w5, w0, wP, wM, wK, wX⟩ := id hR
  obtain ⟨wT, wL, wB⟩ := id hS
  have e1 : ∀ q, sstd R S k = some q → q < 2147483648 := fun q hq => by have := sstd_lt hR hS (by omega) hq; omega
  have e2 : S (8 * m) < R 1 := wT m hm 0 (by omega)
  have e4 : ∀ q r, sStp R (S (8 * m)) q (0 ^^^ 127) = some r → r < 2147483648 := fun q r hr => by have := sStp_lt hr; omega
  refine z_enter (lv := [(0, _), (1, _), (2, _)]) (by decide) (Nat.le_of_ble_eq_true rfl) rfl (fun X C => ?_)
  refine z_aload_n (pc := 0) C dX12_farOf_0 0 rfl ?_
  refine z_aload_n (pc := 1) C dX12_farOf_1 0 rfl ?_
  refine z_getf (pc := 2) C dX12_farOf_2 fX12_32 (by assumption) (by first | rfl | assumption) ?_
  refine z_iload_n (pc := 5) C dX12_farOf_5 2 rfl ?_
  refine z_cV1 (pc := 6) mX12_standsOf C [_, _] dX12_farOf_6 lX12_269 mtX12_standsOf (tX12_standsOf (by first | assumption | omega) (by first | assumption | omega) (by first | assumption | omega) (by first | assumption | omega) (by first | assumption | omega) (by first | assumption | omega)) (by assumption) rfl rfl (by decide) (Nat.le_of_ble_eq_true rfl) (Nat.zero_le _) (Nat.zero_le _) ?_
  refine z_istore_n (pc := 9) (lv' := [(3, _), (0, _), (1, _), (2, _)]) C dX12_farOf_9 (by decide) rfl ?_
  refine z_iload_n (pc := 10) C dX12_farOf_10 0 rfl ?_
  first | refine z_ifgeO (pc := 11) C 19 dX12_farOf_11 (by decide) (by assumption) (fun hc11 => ?_) (fun hc11 => ?_) | refine z_ifgeN (pc := 11) C 19 dX12_farOf_11 (by decide) (by omega) (fun hc11 => ?_) (fun hc11 => ?_) | refine z_if_ge (pc := 11) C 19 dX12_farOf_11 (by decide) (fun hc11 => ?_) (fun hc11 => ?_)
  · skip
    obtain ⟨q, hq⟩ := hc11
    have e3 := sstd_lt hR hS hk hq
    rw [hq]
    refine z_aload_n (pc := 19) C dX12_farOf_19 1 rfl ?_
    refine z_aload_n (pc := 20) C dX12_farOf_20 1 rfl ?_
    refine z_getf (pc := 21) C dX12_farOf_21 fX12_32 (by assumption) (by first | rfl | assumption) ?_
    refine z_bipush (pc := 24) C dX12_farOf_24 (nI 8) (by decide) ?_
    refine z_iload_n (pc := 26) C dX12_farOf_26 2 rfl ?_
    first | refine z_imulN (pc := 27) C dX12_farOf_27 ?_ | refine z_imul (pc := 27) C dX12_farOf_27 ?_
    first | refine z_ialdN (pc := 28) C dX12_farOf_28 (by assumption) (by omega) (by decide) ?_ | refine z_ialdI (pc := 28) C dX12_farOf_28 (by assumption) (by omega) (by decide) ?_
    refine z_iload_n (pc := 29) C dX12_farOf_29 0 rfl ?_
    refine z_top (show zo (some q) = nI q from rfl) ?_
    refine z_iconst (pc := 30) C dX12_farOf_30 (nI 0) (by decide) ?_
    refine z_cV1 (pc := 31) mX12_stepsTo C [_, _, _] dX12_farOf_31 lX12_310 mtX12_stepsTo (tX12_stepsTo (b := 0) hM hA hR (by omega) (by omega) (by decide)) (by assumption) rfl rfl (by decide) (Nat.le_of_ble_eq_true rfl) (Nat.zero_le _) (Nat.zero_le _) ?_
    refine z_istore (pc := 34) (lv' := [(4, _), (3, _), (0, _), (1, _), (2, _)]) C dX12_farOf_34 (by decide) rfl ?_
    refine z_iload (pc := 36) C dX12_farOf_36 0 rfl ?_
    first | refine z_ifgeO (pc := 38) C 47 dX12_farOf_38 (by decide) (by first | exact e4 q | (intro _ z; cases z)) (fun hc38 => ?_) (fun hc38 => ?_) | refine z_ifgeN (pc := 38) C 47 dX12_farOf_38 (by decide) (by omega) (fun hc38 => ?_) (fun hc38 => ?_) | refine z_if_ge (pc := 38) C 47 dX12_farOf_38 (by decide) (fun hc38 => ?_) (fun hc38 => ?_)
    · first
        | (obtain ⟨r, hr⟩ := hc38; cases hr; done)
        | skip
          obtain ⟨r, hr⟩ := hc38
          refine z_iload (pc := 47) C dX12_farOf_47 0 rfl ?_
          rw [hr]; refine z_top (show zo (some r) = nI r from rfl) ?_
          refine z_iret (pc := 49) C dX12_farOf_49 rfl (Nat.zero_le _) (Nat.zero_le _) ⟨?_, ?_, rfl⟩
          · first | (simp [sDis, hq, show sStp R (S (8 * m)) q 127 = _ from hr]; done) | (simp [sDis, hq, show sStp R (S (8 * m)) q 127 = _ from hc38]; done) | (simp [sDis, hc11]; done)
          · rfl
    · skip
      refine z_ldcw (pc := 41) C dX12_farOf_41 kX12_333 ?_
      refine z_top (show (1000000 : Int32) = nI 1000000 from rfl) ?_
      refine z_goto (pc := 44) C 49 dX12_farOf_44 (by decide) ?_
      refine z_iret (pc := 49) C dX12_farOf_49 rfl (Nat.zero_le _) (Nat.zero_le _) ⟨?_, ?_, rfl⟩
      · first | (simp [sDis, hq, show sStp R (S (8 * m)) q 127 = _ from hr]; done) | (simp [sDis, hq, show sStp R (S (8 * m)) q 127 = _ from hc38]; done) | (simp [sDis, hc11]; done)
      · rfl
  · skip
    refine z_bipush (pc := 14) C dX12_farOf_14 (zo none) (by decide) ?_
    refine z_goto (pc := 16) C 34 dX12_farOf_16 (by decide) ?_
    refine z_istore (pc := 34) (lv' := [(4, _), (3, _), (0, _), (1, _), (2, _)]) C dX12_farOf_34 (by decide) rfl ?_
    refine z_iload (pc := 36) C dX12_farOf_36 0 rfl ?_
    first | refine z_ifgeO (pc := 38) C 47 dX12_farOf_38 (by decide) (by first | exact e4 q | (intro _ z; cases z)) (fun hc38 => ?_) (fun hc38 => ?_) | refine z_ifgeN (pc := 38) C 47 dX12_farOf_38 (by decide) (by omega) (fun hc38 => ?_) (fun hc38 => ?_) | refine z_if_ge (pc := 38) C 47 dX12_farOf_38 (by decide) (fun hc38 => ?_) (fun hc38 => ?_)
    · first
        | (obtain ⟨r, hr⟩ := hc38; cases hr; done)
        | skip
          obtain ⟨r, hr⟩ := hc38
          refine z_iload (pc := 47) C dX12_farOf_47 0 rfl ?_
          rw [hr]; refine z_top (show zo (some r) = nI r from rfl) ?_
          refine z_iret (pc := 49) C dX12_farOf_49 rfl (Nat.zero_le _) (Nat.zero_le _) ⟨?_, ?_, rfl⟩
          · first | (simp [sDis, hq, show sStp R (S (8 * m)) q 127 = _ from hr]; done) | (simp [sDis, hq, show sStp R (S (8 * m)) q 127 = _ from hc38]; done) | (simp [sDis, hc11]; done)
          · rfl
    · skip
      refine z_ldcw (pc := 41) C dX12_farOf_41 kX12_333 ?_
      refine z_top (show (1000000 : Int32) = nI 1000000 from rfl) ?_
      refine z_goto (pc := 44) C 49 dX12_farOf_44 (by decide) ?_
      refine z_iret (pc := 49) C dX12_farOf_49 rfl (Nat.zero_le _) (Nat.zero_le _) ⟨?_, ?_, rfl⟩
      · first | (simp [sDis, hq, show sStp R (S (8 * m)) q 127 = _ from hr]; done) | (simp [sDis, hq, show sStp R (S (8 * m)) q 127 = _ from hc38]; done) | (simp [sDis, hc11]; done)
      · rfl

set_option maxRecDepth 20000 in
set_option maxHeartbeats 1000000 in
theorem tX12_isCompany {h : ZH} {v : Nat → Int32} {R S : Nat → Nat} {a s : Nat} (hM : h 1063 = some (zO 8 (mfs v))) (hA : h 1066 = some (zI 241 R)) (hB : h 1070 = some (zI 40 S)) (hR : wfR R) (hS : wfS R S) (ha : a < 2147483648) (hs : s < 2147483648) : ZD mX12_isCompany 4 [.ref 1063, .int (nI a), .int (nI s)] h (some (.int (zb (scom R S a s (R 3))))) h := by
  intro n
  obtain ⟨w1, w3, w4, w5, w0, wP, wM, wK, wX⟩ := id hR
  obtain ⟨wT, wL, wB⟩ := id hS
  refine z_enter (lv := [(0, _), (1, _), (2, _)]) (by decide) (Nat.le_of_ble_eq_true rfl) rfl (fun X C => ?_)
  refine z_iconst (pc := 0) C dX12_isCompany_0 (nI 0) (by decide) ?_
  refine z_istore_n (pc := 1) (lv' := [(3, _), (0, _), (1, _), (2, _)]) C dX12_isCompany_1 (by decide) rfl ?_
  refine z_sub (lv' := [(0, _), (1, _), (2, _), (3, _)]) [1, 2, 3, 0] rfl ?_
  have lp2 : ∀ (f : Nat) (m : Nat), (m + f = R 3 ∧ scom R S a s m = true ∧ True) → Zc X mX12_isCompany (zEnd X (fun r hh n' => r = (some (.int (zb (scom R S a s (R 3))))) ∧ hh = h ∧ n' = n) 0 0) 2 [(0, .ref 1063), (1, .int (nI a)), (2, .int (nI s)), (3, .int (nI m))] [] h n 0 0 := by
    intro f
    induction f using Nat.strongRecOn with
    | _ f ih =>
      intro m hk
      obtain ⟨hk, he, -⟩ := hk
      refine z_iload_n (pc := 2) C dX12_isCompany_2 3 rfl ?_
      refine z_aload_n (pc := 3) C dX12_isCompany_3 0 rfl ?_
      refine z_getf (pc := 4) C dX12_isCompany_4 fX12_20 (by assumption) (by first | rfl | assumption) ?_
      refine z_iconst (pc := 7) C dX12_isCompany_7 (nI 3) (by decide) ?_
      first | refine z_ialdN (pc := 8) C dX12_isCompany_8 (by assumption) (by omega) (by decide) ?_ | refine z_ialdI (pc := 8) C dX12_isCompany_8 (by assumption) (by omega) (by decide) ?_
      first | refine z_icmpgeN (pc := 9) C 80 dX12_isCompany_9 (by decide) (by omega) (by omega) (fun hc9 => ?_) (fun hc9 => ?_) | refine z_icmp_ge (pc := 9) C 80 dX12_isCompany_9 (by decide) (fun hc9 => ?_) (fun hc9 => ?_)
      · skip
        refine z_iconst (pc := 80) C dX12_isCompany_80 (zb true) (by decide) ?_
        refine z_zret (pc := 81) C dX12_isCompany_81 rfl (by first | exact zb_nar _ | rfl) (Nat.zero_le _) (Nat.zero_le _) ⟨?_, ?_, rfl⟩
        · obtain rfl : f = 0 := (by omega); obtain rfl : m = R 3 := (by omega); rw [he]
        · rfl
      · skip
        refine z_iconst (pc := 12) C dX12_isCompany_12 (zb false) (by decide) ?_
        refine z_istore (pc := 13) (lv' := [(4, _), (0, _), (1, _), (2, _), (3, _)]) C dX12_isCompany_13 (by decide) rfl ?_
        refine z_iconst (pc := 15) C dX12_isCompany_15 (nI 0) (by decide) ?_
        refine z_istore (pc := 16) (lv' := [(5, _), (4, _), (0, _), (1, _), (2, _), (3, _)]) C dX12_isCompany_16 (by decide) rfl ?_
        refine z_sub (lv' := [(0, _), (1, _), (2, _), (3, _), (4, _), (5, _)]) [2, 3, 4, 5, 1, 0] rfl ?_
        have lp18 : ∀ (f2 : Nat) (k : Nat) (b : Bool), (k + f2 = R 4 ∧ b = shas R S a s m k) → Zc X mX12_isCompany (zEnd X (fun r hh n' => r = (some (.int (zb (scom R S a s (R 3))))) ∧ hh = h ∧ n' = n) 0 0) 18 [(0, .ref 1063), (1, .int (nI a)), (2, .int (nI s)), (3, .int (nI m)), (4, .int (zb b)), (5, .int (nI k))] [] h n 0 0 := by
          intro f2
          induction f2 using Nat.strongRecOn with
          | _ f2 ih2 =>
            intro k b hk2
            obtain ⟨hk2, hb⟩ := hk2
            have e5 := sDis_le R S m k
            refine z_iload (pc := 18) C dX12_isCompany_18 5 rfl ?_
            refine z_aload_n (pc := 20) C dX12_isCompany_20 0 rfl ?_
            refine z_getf (pc := 21) C dX12_isCompany_21 fX12_20 (by assumption) (by first | rfl | assumption) ?_
            refine z_iconst (pc := 24) C dX12_isCompany_24 (nI 4) (by decide) ?_
            first | refine z_ialdN (pc := 25) C dX12_isCompany_25 (by assumption) (by omega) (by decide) ?_ | refine z_ialdI (pc := 25) C dX12_isCompany_25 (by assumption) (by omega) (by decide) ?_
            first | refine z_icmpgeN (pc := 26) C 67 dX12_isCompany_26 (by decide) (by omega) (by omega) (fun hc26 => ?_) (fun hc26 => ?_) | refine z_icmp_ge (pc := 26) C 67 dX12_isCompany_26 (by decide) (fun hc26 => ?_) (fun hc26 => ?_)
            · skip
              refine z_iload (pc := 67) C dX12_isCompany_67 4 rfl ?_
              first | refine z_ifneB (pc := 69) C 74 dX12_isCompany_69 (by decide) (fun hc69 => ?_) (fun hc69 => ?_) | refine z_ifneN (pc := 69) C 74 dX12_isCompany_69 (by decide) (by omega) (fun hc69 => ?_) (fun hc69 => ?_) | refine z_if_ne (pc := 69) C 74 dX12_isCompany_69 (by decide) (fun hc69 => ?_) (fun hc69 => ?_)
              · skip
                first | refine z_iincN (pc := 74) (lv' := [(3, _), (0, _), (1, _), (2, _), (4, _), (5, _)]) C 1 dX12_isCompany_74 3 rfl (by decide) (by decide) rfl ?_ | refine z_iinc (pc := 74) (lv' := [(3, _), (0, _), (1, _), (2, _), (4, _), (5, _)]) C dX12_isCompany_74 3 rfl _ rfl (by decide) rfl ?_
                refine z_goto (pc := 77) C 2 dX12_isCompany_77 (by decide) ?_
                refine z_sub (lv' := [(0, _), (1, _), (2, _), (3, _)]) [1, 2, 3, 0] rfl ?_
                exact ih (f - 1) (by omega) (m + 1) ⟨by omega, by obtain rfl : f2 = 0 := (by omega); obtain rfl : k = R 4 := (by omega); rw [scom, he, ← hb, hc69]; rfl, trivial⟩
              · skip
                refine z_iconst (pc := 72) C dX12_isCompany_72 (zb false) (by decide) ?_
                refine z_zret (pc := 73) C dX12_isCompany_73 rfl (by first | exact zb_nar _ | rfl) (Nat.zero_le _) (Nat.zero_le _) ⟨?_, ?_, rfl⟩
                · obtain rfl : f2 = 0 := (by omega); obtain rfl : k = R 4 := (by omega); rw [scom_f (by rw [← hb, hc69]) (R 3) (by omega)]
                · rfl
            · skip
              refine z_iload (pc := 29) C dX12_isCompany_29 4 rfl ?_
              first | refine z_ifneB (pc := 31) C 54 dX12_isCompany_31 (by decide) (fun hc31 => ?_) (fun hc31 => ?_) | refine z_ifneN (pc := 31) C 54 dX12_isCompany_31 (by decide) (by omega) (fun hc31 => ?_) (fun hc31 => ?_) | refine z_if_ne (pc := 31) C 54 dX12_isCompany_31 (by decide) (fun hc31 => ?_) (fun hc31 => ?_)
              · skip
                refine z_iconst (pc := 54) C dX12_isCompany_54 (zb true) (by decide) ?_
                refine z_goto (pc := 55) C 59 dX12_isCompany_55 (by decide) ?_
                refine z_istore (pc := 59) (lv' := [(4, _), (0, _), (1, _), (2, _), (3, _), (5, _)]) C dX12_isCompany_59 (by decide) rfl ?_
                first | refine z_iincN (pc := 61) (lv' := [(5, _), (4, _), (0, _), (1, _), (2, _), (3, _)]) C 1 dX12_isCompany_61 5 rfl (by decide) (by decide) rfl ?_ | refine z_iinc (pc := 61) (lv' := [(5, _), (4, _), (0, _), (1, _), (2, _), (3, _)]) C dX12_isCompany_61 5 rfl _ rfl (by decide) rfl ?_
                refine z_goto (pc := 64) C 18 dX12_isCompany_64 (by decide) ?_
                refine z_sub (lv' := [(0, _), (1, _), (2, _), (3, _), (4, _), (5, _)]) [2, 3, 4, 5, 1, 0] rfl ?_
                exact ih2 (f2 - 1) (by omega) (k + 1) _ ⟨by omega, by rw [shas, ← hb]; clear hb ih2 ih; simp [*]⟩
              · skip
                refine z_iload_n (pc := 34) C dX12_isCompany_34 1 rfl ?_
                refine z_iload (pc := 35) C dX12_isCompany_35 5 rfl ?_
                refine z_cS1 (pc := 37) mX12_hasBit C [_, _] dX12_isCompany_37 lX12_236 mtX12_hasBit (tX12_hasBit (by first | assumption | omega) (by first | assumption | omega)) rfl rfl (by decide) (Nat.le_of_ble_eq_true rfl) (Nat.zero_le _) (Nat.zero_le _) ?_
                first | refine z_ifeqB (pc := 40) C 58 dX12_isCompany_40 (by decide) (fun hc40 => ?_) (fun hc40 => ?_) | refine z_ifeqN (pc := 40) C 58 dX12_isCompany_40 (by decide) (by omega) (fun hc40 => ?_) (fun hc40 => ?_) | refine z_if_eq (pc := 40) C 58 dX12_isCompany_40 (by decide) (fun hc40 => ?_) (fun hc40 => ?_)
                · skip
                  refine z_iconst (pc := 58) C dX12_isCompany_58 (zb false) (by decide) ?_
                  refine z_istore (pc := 59) (lv' := [(4, _), (0, _), (1, _), (2, _), (3, _), (5, _)]) C dX12_isCompany_59 (by decide) rfl ?_
                  first | refine z_iincN (pc := 61) (lv' := [(5, _), (4, _), (0, _), (1, _), (2, _), (3, _)]) C 1 dX12_isCompany_61 5 rfl (by decide) (by decide) rfl ?_ | refine z_iinc (pc := 61) (lv' := [(5, _), (4, _), (0, _), (1, _), (2, _), (3, _)]) C dX12_isCompany_61 5 rfl _ rfl (by decide) rfl ?_
                  refine z_goto (pc := 64) C 18 dX12_isCompany_64 (by decide) ?_
                  refine z_sub (lv' := [(0, _), (1, _), (2, _), (3, _), (4, _), (5, _)]) [2, 3, 4, 5, 1, 0] rfl ?_
                  exact ih2 (f2 - 1) (by omega) (k + 1) _ ⟨by omega, by rw [shas, ← hb]; clear hb ih2 ih; simp [*]⟩
                · skip
                  refine z_aload_n (pc := 43) C dX12_isCompany_43 0 rfl ?_
                  refine z_iload_n (pc := 44) C dX12_isCompany_44 3 rfl ?_
                  refine z_iload (pc := 45) C dX12_isCompany_45 5 rfl ?_
                  refine z_cV1 (pc := 47) mX12_farOf C [_, _] dX12_isCompany_47 lX12_334 mtX12_farOf (tX12_farOf (by first | assumption | omega) (by first | assumption | omega) (by first | assumption | omega) (by first | assumption | omega) (by first | assumption | omega) (by first | assumption | omega) (by first | assumption | omega)) (by assumption) rfl rfl (by decide) (Nat.le_of_ble_eq_true rfl) (Nat.zero_le _) (Nat.zero_le _) ?_
                  refine z_iload_n (pc := 50) C dX12_isCompany_50 2 rfl ?_
                  first | refine z_icmpgtN (pc := 51) C 58 dX12_isCompany_51 (by decide) (by omega) (by omega) (fun hc51 => ?_) (fun hc51 => ?_) | refine z_icmp_gt (pc := 51) C 58 dX12_isCompany_51 (by decide) (fun hc51 => ?_) (fun hc51 => ?_)
                  · skip
                    refine z_iconst (pc := 58) C dX12_isCompany_58 (zb false) (by decide) ?_
                    refine z_istore (pc := 59) (lv' := [(4, _), (0, _), (1, _), (2, _), (3, _), (5, _)]) C dX12_isCompany_59 (by decide) rfl ?_
                    first | refine z_iincN (pc := 61) (lv' := [(5, _), (4, _), (0, _), (1, _), (2, _), (3, _)]) C 1 dX12_isCompany_61 5 rfl (by decide) (by decide) rfl ?_ | refine z_iinc (pc := 61) (lv' := [(5, _), (4, _), (0, _), (1, _), (2, _), (3, _)]) C dX12_isCompany_61 5 rfl _ rfl (by decide) rfl ?_
                    refine z_goto (pc := 64) C 18 dX12_isCompany_64 (by decide) ?_
                    refine z_sub (lv' := [(0, _), (1, _), (2, _), (3, _), (4, _), (5, _)]) [2, 3, 4, 5, 1, 0] rfl ?_
                    exact ih2 (f2 - 1) (by omega) (k + 1) _ ⟨by omega, by rw [shas, ← hb]; clear hb ih2 ih; simp [*]⟩
                  · skip
                    refine z_iconst (pc := 54) C dX12_isCompany_54 (zb true) (by decide) ?_
                    refine z_goto (pc := 55) C 59 dX12_isCompany_55 (by decide) ?_
                    refine z_istore (pc := 59) (lv' := [(4, _), (0, _), (1, _), (2, _), (3, _), (5, _)]) C dX12_isCompany_59 (by decide) rfl ?_
                    first | refine z_iincN (pc := 61) (lv' := [(5, _), (4, _), (0, _), (1, _), (2, _), (3, _)]) C 1 dX12_isCompany_61 5 rfl (by decide) (by decide) rfl ?_ | refine z_iinc (pc := 61) (lv' := [(5, _), (4, _), (0, _), (1, _), (2, _), (3, _)]) C dX12_isCompany_61 5 rfl _ rfl (by decide) rfl ?_
                    refine z_goto (pc := 64) C 18 dX12_isCompany_64 (by decide) ?_
                    refine z_sub (lv' := [(0, _), (1, _), (2, _), (3, _), (4, _), (5, _)]) [2, 3, 4, 5, 1, 0] rfl ?_
                    exact ih2 (f2 - 1) (by omega) (k + 1) _ ⟨by omega, by rw [shas, ← hb]; clear hb ih2 ih; simp [*]⟩
        exact lp18 (R 4) 0 false ⟨by omega, rfl⟩
  exact lp2 (R 3) 0 ⟨by omega, rfl, trivial⟩

set_option maxRecDepth 20000 in
set_option maxHeartbeats 1000000 in
theorem tX12_nearestOf {h : ZH} {v : Nat → Int32} {R S : Nat → Nat} {m : Nat} (hM : h 1063 = some (zO 8 (mfs v))) (hA : h 1066 = some (zI 241 R)) (hB : h 1070 = some (zI 40 S)) (hR : wfR R) (hS : wfS R S) (hm : m < R 3) : ZD mX12_nearestOf 4 [.ref 1063, .int (nI m)] h (some (.int (nI (snea R S m (R 4))))) h := by
  intro n
  obtain ⟨w1, w3, w4, w5, w0, wP, wM, wK, wX⟩ := id hR
  obtain ⟨wT, wL, wB⟩ := id hS
  refine z_enter (lv := [(0, _), (1, _)]) (by decide) (Nat.le_of_ble_eq_true rfl) rfl (fun X C => ?_)
  refine z_ldcw (pc := 0) C dX12_nearestOf_0 kX12_333 ?_
  refine z_top (show (1000000 : Int32) = nI 1000000 from rfl) ?_
  refine z_istore_n (pc := 3) (lv' := [(2, _), (0, _), (1, _)]) C dX12_nearestOf_3 (by decide) rfl ?_
  refine z_iconst (pc := 4) C dX12_nearestOf_4 (nI 0) (by decide) ?_
  refine z_istore_n (pc := 5) (lv' := [(3, _), (2, _), (0, _), (1, _)]) C dX12_nearestOf_5 (by decide) rfl ?_
  refine z_sub (lv' := [(0, _), (1, _), (2, _), (3, _)]) [2, 3, 1, 0] rfl ?_
  have lp6 : ∀ (f : Nat) (k acc : Nat), (k + f = R 4 ∧ acc = snea R S m k) → Zc X mX12_nearestOf (zEnd X (fun r hh n' => r = (some (.int (nI (snea R S m (R 4))))) ∧ hh = h ∧ n' = n) 0 0) 6 [(0, .ref 1063), (1, .int (nI m)), (2, .int (nI acc)), (3, .int (nI k))] [] h n 0 0 := by
    intro f
    induction f using Nat.strongRecOn with
    | _ f ih =>
      intro k acc hk
      obtain ⟨hk, he⟩ := hk
      have e0 := snea_le R S m k
      have e1 := sDis_le R S m k
      refine z_iload_n (pc := 6) C dX12_nearestOf_6 3 rfl ?_
      refine z_aload_n (pc := 7) C dX12_nearestOf_7 0 rfl ?_
      refine z_getf (pc := 8) C dX12_nearestOf_8 fX12_20 (by assumption) (by first | rfl | assumption) ?_
      refine z_iconst (pc := 11) C dX12_nearestOf_11 (nI 4) (by decide) ?_
      first | refine z_ialdN (pc := 12) C dX12_nearestOf_12 (by assumption) (by omega) (by decide) ?_ | refine z_ialdI (pc := 12) C dX12_nearestOf_12 (by assumption) (by omega) (by decide) ?_
      first | refine z_icmpgeN (pc := 13) C 43 dX12_nearestOf_13 (by decide) (by omega) (by omega) (fun hc13 => ?_) (fun hc13 => ?_) | refine z_icmp_ge (pc := 13) C 43 dX12_nearestOf_13 (by decide) (fun hc13 => ?_) (fun hc13 => ?_)
      · skip
        refine z_iload_n (pc := 43) C dX12_nearestOf_43 2 rfl ?_
        refine z_iret (pc := 44) C dX12_nearestOf_44 rfl (Nat.zero_le _) (Nat.zero_le _) ⟨?_, ?_, rfl⟩
        · obtain rfl : f = 0 := (by omega); obtain rfl : k = R 4 := (by omega); rw [he] <;> rfl
        · rfl
      · skip
        refine z_aload_n (pc := 16) C dX12_nearestOf_16 0 rfl ?_
        refine z_iload_n (pc := 17) C dX12_nearestOf_17 1 rfl ?_
        refine z_iload_n (pc := 18) C dX12_nearestOf_18 3 rfl ?_
        refine z_cV1 (pc := 19) mX12_farOf C [_, _] dX12_nearestOf_19 lX12_334 mtX12_farOf (tX12_farOf (by first | assumption | omega) (by first | assumption | omega) (by first | assumption | omega) (by first | assumption | omega) (by first | assumption | omega) (by first | assumption | omega) (by first | assumption | omega)) (by assumption) rfl rfl (by decide) (Nat.le_of_ble_eq_true rfl) (Nat.zero_le _) (Nat.zero_le _) ?_
        refine z_iload_n (pc := 22) C dX12_nearestOf_22 2 rfl ?_
        first | refine z_icmpgeN (pc := 23) C 35 dX12_nearestOf_23 (by decide) (by omega) (by omega) (fun hc23 => ?_) (fun hc23 => ?_) | refine z_icmp_ge (pc := 23) C 35 dX12_nearestOf_23 (by decide) (fun hc23 => ?_) (fun hc23 => ?_)
        · skip
          refine z_iload_n (pc := 35) C dX12_nearestOf_35 2 rfl ?_
          refine z_istore_n (pc := 36) (lv' := [(2, _), (0, _), (1, _), (3, _)]) C dX12_nearestOf_36 (by decide) rfl ?_
          first | refine z_iincN (pc := 37) (lv' := [(3, _), (2, _), (0, _), (1, _)]) C 1 dX12_nearestOf_37 3 rfl (by decide) (by decide) rfl ?_ | refine z_iinc (pc := 37) (lv' := [(3, _), (2, _), (0, _), (1, _)]) C dX12_nearestOf_37 3 rfl _ rfl (by decide) rfl ?_
          refine z_goto (pc := 40) C 6 dX12_nearestOf_40 (by decide) ?_
          refine z_sub (lv' := [(0, _), (1, _), (2, _), (3, _)]) [2, 3, 1, 0] rfl ?_
          exact ih (f - 1) (by omega) (k + 1) _ ⟨by omega, by rw [snea, ← he]; omega⟩
        · skip
          refine z_aload_n (pc := 26) C dX12_nearestOf_26 0 rfl ?_
          refine z_iload_n (pc := 27) C dX12_nearestOf_27 1 rfl ?_
          refine z_iload_n (pc := 28) C dX12_nearestOf_28 3 rfl ?_
          refine z_cV1 (pc := 29) mX12_farOf C [_, _] dX12_nearestOf_29 lX12_334 mtX12_farOf (tX12_farOf (by first | assumption | omega) (by first | assumption | omega) (by first | assumption | omega) (by first | assumption | omega) (by first | assumption | omega) (by first | assumption | omega) (by first | assumption | omega)) (by assumption) rfl rfl (by decide) (Nat.le_of_ble_eq_true rfl) (Nat.zero_le _) (Nat.zero_le _) ?_
          refine z_goto (pc := 32) C 36 dX12_nearestOf_32 (by decide) ?_
          refine z_istore_n (pc := 36) (lv' := [(2, _), (0, _), (1, _), (3, _)]) C dX12_nearestOf_36 (by decide) rfl ?_
          first | refine z_iincN (pc := 37) (lv' := [(3, _), (2, _), (0, _), (1, _)]) C 1 dX12_nearestOf_37 3 rfl (by decide) (by decide) rfl ?_ | refine z_iinc (pc := 37) (lv' := [(3, _), (2, _), (0, _), (1, _)]) C dX12_nearestOf_37 3 rfl _ rfl (by decide) rfl ?_
          refine z_goto (pc := 40) C 6 dX12_nearestOf_40 (by decide) ?_
          refine z_sub (lv' := [(0, _), (1, _), (2, _), (3, _)]) [2, 3, 1, 0] rfl ?_
          exact ih (f - 1) (by omega) (k + 1) _ ⟨by omega, by rw [snea, ← he]; omega⟩
  exact lp6 (R 4) 0 1000000 ⟨by omega, rfl⟩

set_option maxRecDepth 20000 in
set_option maxHeartbeats 1000000 in
theorem tX12_owesOf {h : ZH} {v : Nat → Int32} {R S : Nat → Nat} {m : Nat} (hM : h 1063 = some (zO 8 (mfs v))) (hA : h 1066 = some (zI 241 R)) (hB : h 1070 = some (zI 40 S)) (hR : wfR R) (hS : wfS R S) (hm : m < 2147483648) : ZD mX12_owesOf 0 [.ref 1063, .int (nI m)] h (some (.int (nI (sOwe R S m)))) h := by
  intro n
  obtain ⟨w1, w3, w4, w5, w0, wP, wM, wK, wX⟩ := id hR
  obtain ⟨wT, wL, wB⟩ := id hS
  refine z_enter (lv := [(0, _), (1, _)]) (by decide) (Nat.le_of_ble_eq_true rfl) rfl (fun X C => ?_)
  refine z_iconst (pc := 0) C dX12_owesOf_0 (nI 0) (by decide) ?_
  refine z_istore_n (pc := 1) (lv' := [(2, _), (0, _), (1, _)]) C dX12_owesOf_1 (by decide) rfl ?_
  refine z_iconst (pc := 2) C dX12_owesOf_2 (nI 0) (by decide) ?_
  refine z_istore_n (pc := 3) (lv' := [(3, _), (2, _), (0, _), (1, _)]) C dX12_owesOf_3 (by decide) rfl ?_
  refine z_sub (lv' := [(0, _), (1, _), (2, _), (3, _)]) [2, 3, 1, 0] rfl ?_
  have lp4 : ∀ (f : Nat) (k acc : Nat), (k + f = R 4 ∧ acc = sowe R S m k) → Zc X mX12_owesOf (zEnd X (fun r hh n' => r = (some (.int (nI (sOwe R S m)))) ∧ hh = h ∧ n' = n) 0 0) 4 [(0, .ref 1063), (1, .int (nI m)), (2, .int (nI acc)), (3, .int (nI k))] [] h n 0 0 := by
    intro f
    induction f using Nat.strongRecOn with
    | _ f ih =>
      intro k acc hk
      obtain ⟨hk, he⟩ := hk
      refine z_iload_n (pc := 4) C dX12_owesOf_4 3 rfl ?_
      refine z_aload_n (pc := 5) C dX12_owesOf_5 0 rfl ?_
      refine z_getf (pc := 6) C dX12_owesOf_6 fX12_20 (by assumption) (by first | rfl | assumption) ?_
      refine z_iconst (pc := 9) C dX12_owesOf_9 (nI 4) (by decide) ?_
      first | refine z_ialdN (pc := 10) C dX12_owesOf_10 (by assumption) (by omega) (by decide) ?_ | refine z_ialdI (pc := 10) C dX12_owesOf_10 (by assumption) (by omega) (by decide) ?_
      first | refine z_icmpgeN (pc := 11) C 68 dX12_owesOf_11 (by decide) (by omega) (by omega) (fun hc11 => ?_) (fun hc11 => ?_) | refine z_icmp_ge (pc := 11) C 68 dX12_owesOf_11 (by decide) (fun hc11 => ?_) (fun hc11 => ?_)
      · skip
        refine z_iload_n (pc := 68) C dX12_owesOf_68 2 rfl ?_
        refine z_iret (pc := 69) C dX12_owesOf_69 rfl (Nat.zero_le _) (Nat.zero_le _) ⟨?_, ?_, rfl⟩
        · obtain rfl : f = 0 := (by omega); obtain rfl : k = R 4 := (by omega); rw [he] <;> rfl
        · rfl
      · skip
        have e1 := (wK k (by omega)).1
        have e2 := wL k (by omega)
        refine z_iload_n (pc := 14) C dX12_owesOf_14 2 rfl ?_
        refine z_aload_n (pc := 15) C dX12_owesOf_15 0 rfl ?_
        refine z_getf (pc := 16) C dX12_owesOf_16 fX12_32 (by assumption) (by first | rfl | assumption) ?_
        refine z_bipush (pc := 19) C dX12_owesOf_19 (nI 32) (by decide) ?_
        refine z_iload_n (pc := 21) C dX12_owesOf_21 3 rfl ?_
        first | refine z_iaddN (pc := 22) C dX12_owesOf_22 ?_ | refine z_iadd (pc := 22) C dX12_owesOf_22 ?_
        first | refine z_ialdN (pc := 23) C dX12_owesOf_23 (by assumption) (by omega) (by decide) ?_ | refine z_ialdI (pc := 23) C dX12_owesOf_23 (by assumption) (by omega) (by decide) ?_
        refine z_iload_n (pc := 24) C dX12_owesOf_24 1 rfl ?_
        first | refine z_icmpneN (pc := 25) C 59 dX12_owesOf_25 (by decide) (by omega) (by omega) (fun hc25 => ?_) (fun hc25 => ?_) | refine z_icmp_ne (pc := 25) C 59 dX12_owesOf_25 (by decide) (fun hc25 => ?_) (fun hc25 => ?_)
        · skip
          refine z_iconst (pc := 59) C dX12_owesOf_59 (nI 0) (by decide) ?_
          first | refine z_iorN (pc := 60) C dX12_owesOf_60 ?_ | refine z_ior (pc := 60) C dX12_owesOf_60 ?_
          refine z_istore_n (pc := 61) (lv' := [(2, _), (0, _), (1, _), (3, _)]) C dX12_owesOf_61 (by decide) rfl ?_
          first | refine z_iincN (pc := 62) (lv' := [(3, _), (2, _), (0, _), (1, _)]) C 1 dX12_owesOf_62 3 rfl (by decide) (by decide) rfl ?_ | refine z_iinc (pc := 62) (lv' := [(3, _), (2, _), (0, _), (1, _)]) C dX12_owesOf_62 3 rfl _ rfl (by decide) rfl ?_
          refine z_goto (pc := 65) C 4 dX12_owesOf_65 (by decide) ?_
          refine z_sub (lv' := [(0, _), (1, _), (2, _), (3, _)]) [2, 3, 1, 0] rfl ?_
          exact ih (f - 1) (by omega) (k + 1) _ ⟨by omega, by rw [he, sowe]; simp [*]⟩
        · skip
          refine z_aload_n (pc := 28) C dX12_owesOf_28 0 rfl ?_
          refine z_getf (pc := 29) C dX12_owesOf_29 fX12_20 (by assumption) (by first | rfl | assumption) ?_
          refine z_bipush (pc := 32) C dX12_owesOf_32 (nI 34) (by decide) ?_
          refine z_iconst (pc := 34) C dX12_owesOf_34 (nI 4) (by decide) ?_
          refine z_iload_n (pc := 35) C dX12_owesOf_35 3 rfl ?_
          first | refine z_imulN (pc := 36) C dX12_owesOf_36 ?_ | refine z_imul (pc := 36) C dX12_owesOf_36 ?_
          first | refine z_iaddN (pc := 37) C dX12_owesOf_37 ?_ | refine z_iadd (pc := 37) C dX12_owesOf_37 ?_
          first | refine z_ialdN (pc := 38) C dX12_owesOf_38 (by assumption) (by omega) (by decide) ?_ | refine z_ialdI (pc := 38) C dX12_owesOf_38 (by assumption) (by omega) (by decide) ?_
          refine z_iload_n (pc := 39) C dX12_owesOf_39 1 rfl ?_
          first | refine z_icmpeqN (pc := 40) C 59 dX12_owesOf_40 (by decide) (by omega) (by omega) (fun hc40 => ?_) (fun hc40 => ?_) | refine z_icmp_eq (pc := 40) C 59 dX12_owesOf_40 (by decide) (fun hc40 => ?_) (fun hc40 => ?_)
          · skip
            refine z_iconst (pc := 59) C dX12_owesOf_59 (nI 0) (by decide) ?_
            first | refine z_iorN (pc := 60) C dX12_owesOf_60 ?_ | refine z_ior (pc := 60) C dX12_owesOf_60 ?_
            refine z_istore_n (pc := 61) (lv' := [(2, _), (0, _), (1, _), (3, _)]) C dX12_owesOf_61 (by decide) rfl ?_
            first | refine z_iincN (pc := 62) (lv' := [(3, _), (2, _), (0, _), (1, _)]) C 1 dX12_owesOf_62 3 rfl (by decide) (by decide) rfl ?_ | refine z_iinc (pc := 62) (lv' := [(3, _), (2, _), (0, _), (1, _)]) C dX12_owesOf_62 3 rfl _ rfl (by decide) rfl ?_
            refine z_goto (pc := 65) C 4 dX12_owesOf_65 (by decide) ?_
            refine z_sub (lv' := [(0, _), (1, _), (2, _), (3, _)]) [2, 3, 1, 0] rfl ?_
            exact ih (f - 1) (by omega) (k + 1) _ ⟨by omega, by rw [he, sowe]; simp [*]⟩
          · skip
            refine z_iconst (pc := 43) C dX12_owesOf_43 (nI 1) (by decide) ?_
            refine z_aload_n (pc := 44) C dX12_owesOf_44 0 rfl ?_
            refine z_getf (pc := 45) C dX12_owesOf_45 fX12_20 (by assumption) (by first | rfl | assumption) ?_
            refine z_bipush (pc := 48) C dX12_owesOf_48 (nI 34) (by decide) ?_
            refine z_iconst (pc := 50) C dX12_owesOf_50 (nI 4) (by decide) ?_
            refine z_iload_n (pc := 51) C dX12_owesOf_51 3 rfl ?_
            first | refine z_imulN (pc := 52) C dX12_owesOf_52 ?_ | refine z_imul (pc := 52) C dX12_owesOf_52 ?_
            first | refine z_iaddN (pc := 53) C dX12_owesOf_53 ?_ | refine z_iadd (pc := 53) C dX12_owesOf_53 ?_
            first | refine z_ialdN (pc := 54) C dX12_owesOf_54 (by assumption) (by omega) (by decide) ?_ | refine z_ialdI (pc := 54) C dX12_owesOf_54 (by assumption) (by omega) (by decide) ?_
            first | refine z_ishlN (pc := 55) C dX12_owesOf_55 (by omega) ?_ | refine z_ishl (pc := 55) C dX12_owesOf_55 ?_
            refine z_goto (pc := 56) C 60 dX12_owesOf_56 (by decide) ?_
            first | refine z_iorN (pc := 60) C dX12_owesOf_60 ?_ | refine z_ior (pc := 60) C dX12_owesOf_60 ?_
            refine z_istore_n (pc := 61) (lv' := [(2, _), (0, _), (1, _), (3, _)]) C dX12_owesOf_61 (by decide) rfl ?_
            first | refine z_iincN (pc := 62) (lv' := [(3, _), (2, _), (0, _), (1, _)]) C 1 dX12_owesOf_62 3 rfl (by decide) (by decide) rfl ?_ | refine z_iinc (pc := 62) (lv' := [(3, _), (2, _), (0, _), (1, _)]) C dX12_owesOf_62 3 rfl _ rfl (by decide) rfl ?_
            refine z_goto (pc := 65) C 4 dX12_owesOf_65 (by decide) ?_
            refine z_sub (lv' := [(0, _), (1, _), (2, _), (3, _)]) [2, 3, 1, 0] rfl ?_
            exact ih (f - 1) (by omega) (k + 1) _ ⟨by omega, by rw [he, sowe]; simp [*]⟩
  exact lp4 (R 4) 0 0 ⟨by omega, rfl⟩

set_option maxRecDepth 20000 in
set_option maxHeartbeats 1000000 in
theorem tX12_doesFit {h : ZH} {v : Nat → Int32} {R F : Nat → Nat} {s m far : Nat} (hM : h 1063 = some (zO 8 (mfs v))) (hA : h 1066 = some (zI 241 R)) (hF : h 1068 = some (zI 40 F)) (hR : wfR R) (hS : wfS R F) (hs : s < R 5) (hm : m < R 3) (hf : far ≤ 3) : ZD mX12_doesFit 2 [.ref 1063, .int (nI s), .int (nI m), .int (nI far)] h (some (.int (zb (sfit R F s m far)))) h := by
  intro n
  obtain ⟨w1, w3, w4, w5, w0, wP, wM, wK, wX⟩ := id hR
  obtain ⟨wT, wL, wB⟩ := id hS
  have e1 := wX s hs
  have e2 : ∀ q, sdark F m (8 - sbeh R m far) (sbeh R m far) = some q → q < 2147483648 := fun q hq => by have := sdark_lt (fun j hj => wT m hm j hj) _ _ _ (by have := sbeh_le R (m := m) hf; omega) hq; omega
  refine z_enter (lv := [(0, _), (1, _), (2, _), (3, _)]) (by decide) (Nat.le_of_ble_eq_true rfl) rfl (fun X C => ?_)
  refine z_aload_n (pc := 0) C dX12_doesFit_0 0 rfl ?_
  refine z_getf (pc := 1) C dX12_doesFit_1 fX12_26 (by assumption) (by first | rfl | assumption) ?_
  refine z_iload_n (pc := 4) C dX12_doesFit_4 2 rfl ?_
  refine z_aload_n (pc := 5) C dX12_doesFit_5 0 rfl ?_
  refine z_iload_n (pc := 6) C dX12_doesFit_6 2 rfl ?_
  refine z_iload_n (pc := 7) C dX12_doesFit_7 3 rfl ?_
  refine z_cV1 (pc := 8) mX12_behindOf C [_, _] dX12_doesFit_8 lX12_262 mtX12_behindOf (tX12_behindOf hM hA (by omega) (wM m hm) hf) (by assumption) rfl rfl (by decide) (Nat.le_of_ble_eq_true rfl) (Nat.zero_le _) (Nat.zero_le _) ?_
  refine z_cS1 (pc := 11) mX12_darkBehind C [_, _, _] dX12_doesFit_11 lX12_265 mtX12_darkBehind (tX12_darkBehind hF (by omega) (by have := sbeh_le R (m := m) hf; omega) (by omega) (fun j hj => by have := wT m hm j hj; omega)) rfl rfl (by decide) (Nat.le_of_ble_eq_true rfl) (Nat.zero_le _) (Nat.zero_le _) ?_
  refine z_aload_n (pc := 14) C dX12_doesFit_14 0 rfl ?_
  refine z_getf (pc := 15) C dX12_doesFit_15 fX12_20 (by assumption) (by first | rfl | assumption) ?_
  refine z_bipush (pc := 18) C dX12_doesFit_18 (nI 58) (by decide) ?_
  refine z_iload_n (pc := 20) C dX12_doesFit_20 1 rfl ?_
  first | refine z_iaddN (pc := 21) C dX12_doesFit_21 ?_ | refine z_iadd (pc := 21) C dX12_doesFit_21 ?_
  first | refine z_ialdN (pc := 22) C dX12_doesFit_22 (by assumption) (by omega) (by decide) ?_ | refine z_ialdI (pc := 22) C dX12_doesFit_22 (by assumption) (by omega) (by decide) ?_
  refine z_icmp_ne (pc := 23) C 30 dX12_doesFit_23 (by decide) (fun hc23 => ?_) (fun hc23 => ?_)
  · skip
    refine z_iconst (pc := 30) C dX12_doesFit_30 (nI 0) (by decide) ?_
    refine z_zret (pc := 31) C dX12_doesFit_31 rfl (by first | exact zb_nar _ | rfl) (Nat.zero_le _) (Nat.zero_le _) ⟨?_, ?_, rfl⟩
    · first | (rw [sfit, decide_eq_true ((zo_eq (by omega) e2).mp hc23)]; rfl) | (rw [sfit, decide_eq_false (fun q => hc23 ((zo_eq (by omega) e2).mpr q))]; rfl)
    · rfl
  · skip
    refine z_iconst (pc := 26) C dX12_doesFit_26 (nI 1) (by decide) ?_
    refine z_goto (pc := 27) C 31 dX12_doesFit_27 (by decide) ?_
    refine z_zret (pc := 31) C dX12_doesFit_31 rfl (by first | exact zb_nar _ | rfl) (Nat.zero_le _) (Nat.zero_le _) ⟨?_, ?_, rfl⟩
    · first | (rw [sfit, decide_eq_true ((zo_eq (by omega) e2).mp hc23)]; rfl) | (rw [sfit, decide_eq_false (fun q => hc23 ((zo_eq (by omega) e2).mpr q))]; rfl)
    · rfl
