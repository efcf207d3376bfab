/-- what the class holds of a told forest, at t, against R -/
def Tld (h : ZH) (t : Nat) (R : Nat → Nat) : Prop := ∃ fc fh fn fk fs ff fw fe : Nat → Nat,
  h t = some (zO 5 [.ref (t + 1), .ref (t + 2), .ref (t + 3), .ref (t + 4), .ref (t + 5), .ref (t + 6), .ref (t + 7), .ref (t + 8), .int (nI (R 0))]) ∧ h (t + 1) = some (zI 8 fc) ∧ h (t + 2) = some (zI 7 fh) ∧ h (t + 3) = some (zI 7 fn) ∧ h (t + 4) = some (zI 4 fk) ∧ h (t + 5) = some (zI 6 fs) ∧ h (t + 6) = some (zI 6 ff) ∧ h (t + 7) = some (zI 6 fw) ∧ h (t + 8) = some (zI 3 fe) ∧
  (∀ i, 1 ≤ i → i < 8 → fc i = R i) ∧ (∀ p, p < R 1 → fh p = R (9 + p)) ∧ (∀ p, p < R 1 → fn p = R (23 + p)) ∧ (∀ m, m < R 3 → fk m = R (30 + m)) ∧ (∀ k, k < R 4 → fs k = R (34 + 4 * k)) ∧ (∀ k, k < R 4 → ff k = R (34 + 4 * k + 1)) ∧ (∀ k, k < R 4 → fw k = R (34 + 4 * k + 2)) ∧ ∀ q, q < R 5 → fe q = R (58 + q)
/-- a moment, at s with its rows le and tr, against R and S -/
def Scn (h : ZH) (s le tr t : Nat) (R S : Nat → Nat) : Prop := Tld h t R ∧ ∃ fl ft : Nat → Nat, h s = some (zO 3 [.ref t, .ref le, .int (nI (S 38)), .int (nI (S 39)), .ref tr]) ∧ h le = some (zI 6 fl) ∧ h tr = some (zI 32 ft) ∧ (∀ k, k < R 4 → fl k = S (32 + k)) ∧ ∀ j, j < 8 * R 3 → ft j = S j
theorem sbeh_st {R : Nat → Nat} {m : Nat} (far : Nat) (h : R (30 + m) ≤ 3) : far * zSt 1 (R (30 + m)) + zSt 2 (R (30 + m)) = sbeh R m far := by
  unfold sbeh
  generalize R (30 + m) = x at h
  rcases (show x = 0 ∨ x = 1 ∨ x = 2 ∨ x = 3 by omega) with rfl | rfl | rfl | rfl
  all_goals simp [zSt]
  omega
def sbc (a : Int32) : Int32 :=
  let b := a - ((a.toUInt32 >>> ((nI 1).toUInt32 &&& Int32.toUInt32 31)).toInt32 &&& nI 1431655765)
  let c := (b &&& nI 858993459) + ((b.toUInt32 >>> ((nI 2).toUInt32 &&& Int32.toUInt32 31)).toInt32 &&& nI 858993459)
  let d := (c + (c.toUInt32 >>> ((nI 4).toUInt32 &&& Int32.toUInt32 31)).toInt32) &&& nI 252645135
  let e := d + (d.toUInt32 >>> ((nI 8).toUInt32 &&& Int32.toUInt32 31)).toInt32
  let f := e + (e.toUInt32 >>> ((nI 16).toUInt32 &&& Int32.toUInt32 31)).toInt32
  f &&& nI 63
theorem sbc_eq : ∀ a, a < 256 → sbc (nI a) = nI (sone a 8) := by decide +kernel
def sKw (R S : Nat → Nat) (a : Nat) : Nat := sbits (fun k => match sstd R S k with | some p => a.testBit p | none => false) (R 4)
theorem sbits_congr {P Q : Nat → Bool} : ∀ n, (∀ k, k < n → P k = Q k) → sbits P n = sbits Q n := by
  intro n
  induction n with
  | zero => intro _; rfl
  | succ n ih => intro h; rw [sbits, sbits, ih (fun k hk => h k (by omega)), h n (by omega)]
theorem tb1 (p q : Nat) : (1 <<< p).testBit q = decide (p = q) := by
  rw [Nat.shiftLeft_eq, Nat.one_mul, Nat.testBit_two_pow]
theorem sKw_1 (R S : Nat → Nat) (p : Nat) : sKw R S (1 <<< p) = sKat R S p := by
  refine sbits_congr _ (fun k _ => ?_)
  show (match sstd R S k with | some q => (1 <<< p).testBit q | none => false) = decide (sstd R S k = some p)
  cases sstd R S k with
  | none => rfl
  | some q =>
    show (1 <<< p).testBit q = _
    rw [tb1]
    by_cases e : p = q
    · subst e; simp
    · have : ¬ q = p := fun z => e z.symm
      simp [e, this]
theorem sub_ge {a b : Nat} (ha : a < 1073741824) (hb : b < 1073741824) : 0 ≤ nI a - nI b ↔ b ≤ a := by
  rw [Int32.le_iff_toInt_le, pk_sub_toInt (by omega) (by omega), show (0 : Int32).toInt = 0 from rfl]
  omega
def sUn (R S : Nat → Nat) (m : Nat) : Nat → Nat
  | 0 => (1 <<< R 1) - 1
  | k + 1 => if S (32 + k) = m then sUn R S m k else match sstd R S k with
    | some p => sUn R S m k &&& ((1 <<< p) ^^^ 127)
    | none => sUn R S m k
theorem sall_lt {R : Nat → Nat} (h : R 1 ≤ 7) : 1 <<< R 1 ≤ 128 ∧ 0 < 1 <<< R 1 := by
  rw [Nat.shiftLeft_eq, Nat.one_mul]
  exact ⟨Nat.le_trans (Nat.pow_le_pow_right (n := 2) (by decide) h) (by decide), Nat.two_pow_pos _⟩
theorem sUn_lt {R : Nat → Nat} (S : Nat → Nat) (hR : R 1 ≤ 7) (m : Nat) : ∀ k, sUn R S m k < 128 := by
  intro k
  induction k with
  | zero => show (1 <<< R 1) - 1 < 128; have := sall_lt hR; omega
  | succ k ih =>
    rw [sUn]
    repeat' split
    all_goals first
      | exact ih
      | exact Nat.lt_of_le_of_lt Nat.and_le_left ih

set_option maxRecDepth 20000 in
set_option maxHeartbeats 1000000 in
theorem tJ6_bitCount_0f7a4 {h : ZH} {a : Nat} (ha : a < 256) : ZD mJ6_bitCount_0f7a4 0 [.int (nI a)] h (some (.int (nI (sone a 8)))) h := by
  intro n
  refine z_enter (lv := [(0, _)]) (by decide) (Nat.le_of_ble_eq_true rfl) rfl (fun X C => ?_)
  refine z_iload_n (pc := 0) C dJ6_bitCount_0f7a4_0 0 rfl ?_
  refine z_iload_n (pc := 1) C dJ6_bitCount_0f7a4_1 0 rfl ?_
  refine z_iconst (pc := 2) C dJ6_bitCount_0f7a4_2 (nI 1) (by decide) ?_
  refine z_iushr (pc := 3) C dJ6_bitCount_0f7a4_3 ?_
  refine z_ldcw (pc := 4) C dJ6_bitCount_0f7a4_4 kJ6_265 ?_
  refine z_top (show (1431655765 : Int32) = nI 1431655765 from rfl) ?_
  refine z_iand (pc := 7) C dJ6_bitCount_0f7a4_7 ?_
  refine z_isub (pc := 8) C dJ6_bitCount_0f7a4_8 ?_
  refine z_istore_n (pc := 9) (lv' := [(0, _)]) C dJ6_bitCount_0f7a4_9 (by decide) rfl ?_
  refine z_iload_n (pc := 10) C dJ6_bitCount_0f7a4_10 0 rfl ?_
  refine z_ldcw (pc := 11) C dJ6_bitCount_0f7a4_11 kJ6_266 ?_
  refine z_top (show (858993459 : Int32) = nI 858993459 from rfl) ?_
  refine z_iand (pc := 14) C dJ6_bitCount_0f7a4_14 ?_
  refine z_iload_n (pc := 15) C dJ6_bitCount_0f7a4_15 0 rfl ?_
  refine z_iconst (pc := 16) C dJ6_bitCount_0f7a4_16 (nI 2) (by decide) ?_
  refine z_iushr (pc := 17) C dJ6_bitCount_0f7a4_17 ?_
  refine z_ldcw (pc := 18) C dJ6_bitCount_0f7a4_18 kJ6_266 ?_
  refine z_top (show (858993459 : Int32) = nI 858993459 from rfl) ?_
  refine z_iand (pc := 21) C dJ6_bitCount_0f7a4_21 ?_
  refine z_iadd (pc := 22) C dJ6_bitCount_0f7a4_22 ?_
  refine z_istore_n (pc := 23) (lv' := [(0, _)]) C dJ6_bitCount_0f7a4_23 (by decide) rfl ?_
  refine z_iload_n (pc := 24) C dJ6_bitCount_0f7a4_24 0 rfl ?_
  refine z_iload_n (pc := 25) C dJ6_bitCount_0f7a4_25 0 rfl ?_
  refine z_iconst (pc := 26) C dJ6_bitCount_0f7a4_26 (nI 4) (by decide) ?_
  refine z_iushr (pc := 27) C dJ6_bitCount_0f7a4_27 ?_
  refine z_iadd (pc := 28) C dJ6_bitCount_0f7a4_28 ?_
  refine z_ldcw (pc := 29) C dJ6_bitCount_0f7a4_29 kJ6_267 ?_
  refine z_top (show (252645135 : Int32) = nI 252645135 from rfl) ?_
  refine z_iand (pc := 32) C dJ6_bitCount_0f7a4_32 ?_
  refine z_istore_n (pc := 33) (lv' := [(0, _)]) C dJ6_bitCount_0f7a4_33 (by decide) rfl ?_
  refine z_iload_n (pc := 34) C dJ6_bitCount_0f7a4_34 0 rfl ?_
  refine z_iload_n (pc := 35) C dJ6_bitCount_0f7a4_35 0 rfl ?_
  refine z_bipush (pc := 36) C dJ6_bitCount_0f7a4_36 (nI 8) (by decide) ?_
  refine z_iushr (pc := 38) C dJ6_bitCount_0f7a4_38 ?_
  refine z_iadd (pc := 39) C dJ6_bitCount_0f7a4_39 ?_
  refine z_istore_n (pc := 40) (lv' := [(0, _)]) C dJ6_bitCount_0f7a4_40 (by decide) rfl ?_
  refine z_iload_n (pc := 41) C dJ6_bitCount_0f7a4_41 0 rfl ?_
  refine z_iload_n (pc := 42) C dJ6_bitCount_0f7a4_42 0 rfl ?_
  refine z_bipush (pc := 43) C dJ6_bitCount_0f7a4_43 (nI 16) (by decide) ?_
  refine z_iushr (pc := 45) C dJ6_bitCount_0f7a4_45 ?_
  refine z_iadd (pc := 46) C dJ6_bitCount_0f7a4_46 ?_
  refine z_istore_n (pc := 47) (lv' := [(0, _)]) C dJ6_bitCount_0f7a4_47 (by decide) rfl ?_
  refine z_iload_n (pc := 48) C dJ6_bitCount_0f7a4_48 0 rfl ?_
  refine z_bipush (pc := 49) C dJ6_bitCount_0f7a4_49 (nI 63) (by decide) ?_
  refine z_iand (pc := 51) C dJ6_bitCount_0f7a4_51 ?_
  refine z_iret (pc := 52) C dJ6_bitCount_0f7a4_52 rfl (Nat.zero_le _) (Nat.zero_le _) ⟨?_, ?_, rfl⟩
  · rw [← sbc_eq a ha]; rfl
  · rfl

set_option maxRecDepth 20000 in
set_option maxHeartbeats 1000000 in
theorem tX8_stepsBehind {h : ZH} {t : Nat} {R : Nat → Nat} {m far : Nat} (hT : Tld h t R) (hR : wfR R) (hm : m < R 3) (hf : far ≤ 3) : ZD mX8_stepsBehind 0 [.ref t, .int (nI m), .int (nI far)] h (some (.int (nI (sbeh R m far)))) h := by
  intro n
  obtain ⟨w1, w3, w4, w5, w0, wP, wM, wK, wX⟩ := id hR
  obtain ⟨fc, fh, fn, fk, fs, ff, fw, fe, t0, t1, t2, t3, t4, t5, t6, t7, t8, rc, rh, rn, rk, rs, rf, rv, re⟩ := id hT
  have e1 := wM m hm
  refine z_enter (lv := [(0, _), (1, _), (2, _)]) (by decide) (Nat.le_of_ble_eq_true rfl) rfl (fun X C => ?_)
  refine z_iload_n (pc := 0) C dX8_stepsBehind_0 2 rfl ?_
  refine z_stn (pc := 1) (i := 1) C dX8_stepsBehind_1 (by decide) sX8_40 ?_
  refine z_aload_n (pc := 4) C dX8_stepsBehind_4 0 rfl ?_
  refine z_getf (pc := 5) C dX8_stepsBehind_5 fX8_21 (by assumption) (by first | rfl | assumption) ?_
  refine z_iload_n (pc := 8) C dX8_stepsBehind_8 1 rfl ?_
  refine z_ialdE (pc := 9) C dX8_stepsBehind_9 (by assumption) (by omega) (by decide) (rk m hm) ?_
  refine z_stld (pc := 10) (i := 1) C dX8_stepsBehind_10 (by decide) (by show R (30 + m) < 4; omega) ?_
  first | refine z_imulN (pc := 11) C dX8_stepsBehind_11 ?_ | refine z_imul (pc := 11) C dX8_stepsBehind_11 ?_
  refine z_stn (pc := 12) (i := 2) C dX8_stepsBehind_12 (by decide) sX8_43 ?_
  refine z_aload_n (pc := 15) C dX8_stepsBehind_15 0 rfl ?_
  refine z_getf (pc := 16) C dX8_stepsBehind_16 fX8_21 (by assumption) (by first | rfl | assumption) ?_
  refine z_iload_n (pc := 19) C dX8_stepsBehind_19 1 rfl ?_
  refine z_ialdE (pc := 20) C dX8_stepsBehind_20 (by assumption) (by omega) (by decide) (rk m hm) ?_
  refine z_stld (pc := 21) (i := 2) C dX8_stepsBehind_21 (by decide) (by show R (30 + m) < 4; omega) ?_
  first | refine z_iaddN (pc := 22) C dX8_stepsBehind_22 ?_ | refine z_iadd (pc := 22) C dX8_stepsBehind_22 ?_
  refine z_iret (pc := 23) C dX8_stepsBehind_23 rfl (Nat.zero_le _) (Nat.zero_le _) ⟨?_, ?_, rfl⟩
  · rw [sbeh_st far e1]
  · rfl

set_option maxRecDepth 20000 in
set_option maxHeartbeats 1000000 in
theorem tX8_killsShotBy {h : ZH} {t : Nat} {R : Nat → Nat} {p : Nat} (hT : Tld h t R) (hR : wfR R) (hp : p < 2147483648) : ZD mX8_killsShotBy 0 [.ref t, .int (nI p)] h (some (.int (nI (sSho R p)))) h := by
  intro n
  obtain ⟨w1, w3, w4, w5, w0, wP, wM, wK, wX⟩ := id hR
  obtain ⟨fc, fh, fn, fk, fs, ff, fw, fe, t0, t1, t2, t3, t4, t5, t6, t7, t8, rc, rh, rn, rk, rs, rf, rv, re⟩ := id hT
  refine z_enter (lv := [(0, _), (1, _)]) (by decide) (Nat.le_of_ble_eq_true rfl) rfl (fun X C => ?_)
  refine z_iconst (pc := 0) C dX8_killsShotBy_0 (nI 0) (by decide) ?_
  refine z_istore_n (pc := 1) (lv' := [(2, _), (0, _), (1, _)]) C dX8_killsShotBy_1 (by decide) rfl ?_
  refine z_iconst (pc := 2) C dX8_killsShotBy_2 (nI 0) (by decide) ?_
  refine z_istore_n (pc := 3) (lv' := [(3, _), (2, _), (0, _), (1, _)]) C dX8_killsShotBy_3 (by decide) rfl ?_
  refine z_sub (lv' := [(0, _), (1, _), (2, _), (3, _)]) [2, 3, 1, 0] rfl ?_
  have lp4 : ∀ (f : Nat) (k acc : Nat), (k + f = R 4 ∧ acc = sbits (fun k => decide (R (34 + 4 * k) = p)) k) → Zc X mX8_killsShotBy (zEnd X (fun r hh n' => r = (some (.int (nI (sSho R p)))) ∧ hh = h ∧ n' = n) 0 0) 4 [(0, .ref t), (1, .int (nI p)), (2, .int (nI acc)), (3, .int (nI k))] [] h n 0 0 := by
    intro f
    induction f using Nat.strongRecOn with
    | _ f ih =>
      intro k acc hk
      obtain ⟨hk, he⟩ := hk
      refine z_iload_n (pc := 4) C dX8_killsShotBy_4 3 rfl ?_
      refine z_aload_n (pc := 5) C dX8_killsShotBy_5 0 rfl ?_
      refine z_getf (pc := 6) C dX8_killsShotBy_6 fX8_9 (by assumption) (by first | rfl | assumption) ?_
      refine z_iconst (pc := 9) C dX8_killsShotBy_9 (nI 4) (by decide) ?_
      refine z_ialdE (pc := 10) C dX8_killsShotBy_10 (by assumption) (by omega) (by decide) (rc 4 (by decide) (by decide)) ?_
      first | refine z_icmpgeN (pc := 11) C 36 dX8_killsShotBy_11 (by decide) (by omega) (by omega) (fun hc11 => ?_) (fun hc11 => ?_) | refine z_icmp_ge (pc := 11) C 36 dX8_killsShotBy_11 (by decide) (fun hc11 => ?_) (fun hc11 => ?_)
      · skip
        refine z_iload_n (pc := 36) C dX8_killsShotBy_36 2 rfl ?_
        refine z_iret (pc := 37) C dX8_killsShotBy_37 rfl (Nat.zero_le _) (Nat.zero_le _) ⟨?_, ?_, rfl⟩
        · obtain rfl : f = 0 := (by omega); obtain rfl : k = R 4 := (by omega); rw [he] <;> rfl
        · rfl
      · skip
        refine z_aload_n (pc := 14) C dX8_killsShotBy_14 0 rfl ?_
        refine z_getf (pc := 15) C dX8_killsShotBy_15 fX8_24 (by assumption) (by first | rfl | assumption) ?_
        refine z_iload_n (pc := 18) C dX8_killsShotBy_18 3 rfl ?_
        refine z_ialdE (pc := 19) C dX8_killsShotBy_19 (by assumption) (by omega) (by decide) (rs k (by omega)) ?_
        refine z_iload_n (pc := 20) C dX8_killsShotBy_20 1 rfl ?_
        have e1 := (wK k (by omega)).1
        first | refine z_icmpneN (pc := 21) C 30 dX8_killsShotBy_21 (by decide) (by omega) (by omega) (fun hc21 => ?_) (fun hc21 => ?_) | refine z_icmp_ne (pc := 21) C 30 dX8_killsShotBy_21 (by decide) (fun hc21 => ?_) (fun hc21 => ?_)
        · skip
          first | refine z_iincN (pc := 30) (lv' := [(3, _), (0, _), (1, _), (2, _)]) C 1 dX8_killsShotBy_30 3 rfl (by decide) (by decide) rfl ?_ | refine z_iinc (pc := 30) (lv' := [(3, _), (0, _), (1, _), (2, _)]) C dX8_killsShotBy_30 3 rfl _ rfl (by decide) rfl ?_
          refine z_goto (pc := 33) C 4 dX8_killsShotBy_33 (by decide) ?_
          refine z_sub (lv' := [(0, _), (1, _), (2, _), (3, _)]) [1, 2, 3, 0] rfl ?_
          exact ih (f - 1) (by omega) (k + 1) _ ⟨by omega, by rw [he, sbits]; clear he ih; simp [*]⟩
        · skip
          refine z_iload_n (pc := 24) C dX8_killsShotBy_24 2 rfl ?_
          refine z_iconst (pc := 25) C dX8_killsShotBy_25 (nI 1) (by decide) ?_
          refine z_iload_n (pc := 26) C dX8_killsShotBy_26 3 rfl ?_
          first | refine z_ishlN (pc := 27) C dX8_killsShotBy_27 (by omega) ?_ | refine z_ishl (pc := 27) C dX8_killsShotBy_27 ?_
          first | refine z_iorN (pc := 28) C dX8_killsShotBy_28 ?_ | refine z_ior (pc := 28) C dX8_killsShotBy_28 ?_
          refine z_istore_n (pc := 29) (lv' := [(2, _), (0, _), (1, _), (3, _)]) C dX8_killsShotBy_29 (by decide) rfl ?_
          first | refine z_iincN (pc := 30) (lv' := [(3, _), (2, _), (0, _), (1, _)]) C 1 dX8_killsShotBy_30 3 rfl (by decide) (by decide) rfl ?_ | refine z_iinc (pc := 30) (lv' := [(3, _), (2, _), (0, _), (1, _)]) C dX8_killsShotBy_30 3 rfl _ rfl (by decide) rfl ?_
          refine z_goto (pc := 33) C 4 dX8_killsShotBy_33 (by decide) ?_
          refine z_sub (lv' := [(0, _), (1, _), (2, _), (3, _)]) [2, 3, 1, 0] rfl ?_
          exact ih (f - 1) (by omega) (k + 1) _ ⟨by omega, by rw [he, sbits]; clear he ih; simp [*]⟩
  exact lp4 (R 4) 0 0 ⟨by omega, rfl⟩

set_option maxRecDepth 20000 in
set_option maxHeartbeats 1000000 in
theorem tX8_worthOf {h : ZH} {t : Nat} {R : Nat → Nat} {a : Nat} (hT : Tld h t R) (hR : wfR R) (ha : a < 2147483648) : ZD mX8_worthOf 1 [.ref t, .int (nI a)] h (some (.int (nI (sWor R a)))) h := by
  intro n
  obtain ⟨w1, w3, w4, w5, w0, wP, wM, wK, wX⟩ := id hR
  obtain ⟨fc, fh, fn, fk, fs, ff, fw, fe, t0, t1, t2, t3, t4, t5, t6, t7, t8, rc, rh, rn, rk, rs, rf, rv, re⟩ := id hT
  refine z_enter (lv := [(0, _), (1, _)]) (by decide) (Nat.le_of_ble_eq_true rfl) rfl (fun X C => ?_)
  refine z_iconst (pc := 0) C dX8_worthOf_0 (nI 0) (by decide) ?_
  refine z_istore_n (pc := 1) (lv' := [(2, _), (0, _), (1, _)]) C dX8_worthOf_1 (by decide) rfl ?_
  refine z_iconst (pc := 2) C dX8_worthOf_2 (nI 0) (by decide) ?_
  refine z_istore_n (pc := 3) (lv' := [(3, _), (2, _), (0, _), (1, _)]) C dX8_worthOf_3 (by decide) rfl ?_
  refine z_sub (lv' := [(0, _), (1, _), (2, _), (3, _)]) [2, 3, 1, 0] rfl ?_
  have lp4 : ∀ (f : Nat) (k acc : Nat), (k + f = R 4 ∧ acc = swor R a k) → Zc X mX8_worthOf (zEnd X (fun r hh n' => r = (some (.int (nI (sWor R a)))) ∧ hh = h ∧ n' = n) 0 0) 4 [(0, .ref t), (1, .int (nI a)), (2, .int (nI acc)), (3, .int (nI k))] [] h n 0 0 := by
    intro f
    induction f using Nat.strongRecOn with
    | _ f ih =>
      intro k acc hk
      obtain ⟨hk, he⟩ := hk
      refine z_iload_n (pc := 4) C dX8_worthOf_4 3 rfl ?_
      refine z_aload_n (pc := 5) C dX8_worthOf_5 0 rfl ?_
      refine z_getf (pc := 6) C dX8_worthOf_6 fX8_9 (by assumption) (by first | rfl | assumption) ?_
      refine z_iconst (pc := 9) C dX8_worthOf_9 (nI 4) (by decide) ?_
      refine z_ialdE (pc := 10) C dX8_worthOf_10 (by assumption) (by omega) (by decide) (rc 4 (by decide) (by decide)) ?_
      first | refine z_icmpgeN (pc := 11) C 37 dX8_worthOf_11 (by decide) (by omega) (by omega) (fun hc11 => ?_) (fun hc11 => ?_) | refine z_icmp_ge (pc := 11) C 37 dX8_worthOf_11 (by decide) (fun hc11 => ?_) (fun hc11 => ?_)
      · skip
        refine z_iload_n (pc := 37) C dX8_worthOf_37 2 rfl ?_
        refine z_iret (pc := 38) C dX8_worthOf_38 rfl (Nat.zero_le _) (Nat.zero_le _) ⟨?_, ?_, rfl⟩
        · obtain rfl : f = 0 := (by omega); obtain rfl : k = R 4 := (by omega); rw [he] <;> rfl
        · rfl
      · skip
        refine z_iload_n (pc := 14) C dX8_worthOf_14 1 rfl ?_
        refine z_iload_n (pc := 15) C dX8_worthOf_15 3 rfl ?_
        refine z_cSN1 (pc := 16) mX11_has C [_, _] dX8_worthOf_16 lX8_46 mtX11_has (tX11_has (by first | assumption | omega) (by first | assumption | omega)) rfl rfl (by decide) (Nat.le_of_ble_eq_true rfl) (Nat.zero_le _) (Nat.zero_le _) ?_
        first | refine z_ifeqB (pc := 19) C 31 dX8_worthOf_19 (by decide) (fun hc19 => ?_) (fun hc19 => ?_) | refine z_ifeqN (pc := 19) C 31 dX8_worthOf_19 (by decide) (by omega) (fun hc19 => ?_) (fun hc19 => ?_) | refine z_if_eq (pc := 19) C 31 dX8_worthOf_19 (by decide) (fun hc19 => ?_) (fun hc19 => ?_)
        · skip
          first | refine z_iincN (pc := 31) (lv' := [(3, _), (0, _), (1, _), (2, _)]) C 1 dX8_worthOf_31 3 rfl (by decide) (by decide) rfl ?_ | refine z_iinc (pc := 31) (lv' := [(3, _), (0, _), (1, _), (2, _)]) C dX8_worthOf_31 3 rfl _ rfl (by decide) rfl ?_
          refine z_goto (pc := 34) C 4 dX8_worthOf_34 (by decide) ?_
          refine z_sub (lv' := [(0, _), (1, _), (2, _), (3, _)]) [1, 2, 3, 0] rfl ?_
          exact ih (f - 1) (by omega) (k + 1) _ ⟨by omega, by rw [he, swor, hc19]; rfl⟩
        · skip
          refine z_iload_n (pc := 22) C dX8_worthOf_22 2 rfl ?_
          refine z_aload_n (pc := 23) C dX8_worthOf_23 0 rfl ?_
          refine z_getf (pc := 24) C dX8_worthOf_24 fX8_30 (by assumption) (by first | rfl | assumption) ?_
          refine z_iload_n (pc := 27) C dX8_worthOf_27 3 rfl ?_
          refine z_ialdE (pc := 28) C dX8_worthOf_28 (by assumption) (by omega) (by decide) (rv k (by omega)) ?_
          first | refine z_iaddN (pc := 29) C dX8_worthOf_29 ?_ | refine z_iadd (pc := 29) C dX8_worthOf_29 ?_
          refine z_istore_n (pc := 30) (lv' := [(2, _), (0, _), (1, _), (3, _)]) C dX8_worthOf_30 (by decide) rfl ?_
          first | refine z_iincN (pc := 31) (lv' := [(3, _), (2, _), (0, _), (1, _)]) C 1 dX8_worthOf_31 3 rfl (by decide) (by decide) rfl ?_ | refine z_iinc (pc := 31) (lv' := [(3, _), (2, _), (0, _), (1, _)]) C dX8_worthOf_31 3 rfl _ rfl (by decide) rfl ?_
          refine z_goto (pc := 34) C 4 dX8_worthOf_34 (by decide) ?_
          refine z_sub (lv' := [(0, _), (1, _), (2, _), (3, _)]) [2, 3, 1, 0] rfl ?_
          exact ih (f - 1) (by omega) (k + 1) _ ⟨by omega, by rw [he, swor, hc19]; rfl⟩
  exact lp4 (R 4) 0 0 ⟨by omega, rfl⟩

set_option maxRecDepth 20000 in
set_option maxHeartbeats 1000000 in
theorem tX5_wasAt {h : ZH} {s le tr t : Nat} {R S : Nat → Nat} {m ago : Nat} (hC : Scn h s le tr t R S) (hR : wfR R) (hm : m < R 3) (ha : ago < 8) : ZD mX5_wasAt 0 [.ref s, .int (nI m), .int (nI ago)] h (some (.int (nI (S (8 * m + ago))))) h := by
  intro n
  obtain ⟨w1, w3, w4, w5, w0, wP, wM, wK, wX⟩ := id hR
  obtain ⟨hT, fl, ft, s0, s1, s2, rl, rt⟩ := id hC
  obtain ⟨fc, fh, fn, fk, fs, ff, fw, fe, t0, t1, t2, t3, t4, t5, t6, t7, t8, rc, rh, rn, rk, rs, rf, rv, re⟩ := id hT
  refine z_enter (lv := [(0, _), (1, _), (2, _)]) (by decide) (Nat.le_of_ble_eq_true rfl) rfl (fun X C => ?_)
  refine z_aload_n (pc := 0) C dX5_wasAt_0 0 rfl ?_
  refine z_getf (pc := 1) C dX5_wasAt_1 fX5_15 (by assumption) (by first | rfl | assumption) ?_
  refine z_iload_n (pc := 4) C dX5_wasAt_4 1 rfl ?_
  refine z_bipush (pc := 5) C dX5_wasAt_5 (nI 8) (by decide) ?_
  first | refine z_imulN (pc := 7) C dX5_wasAt_7 ?_ | refine z_imul (pc := 7) C dX5_wasAt_7 ?_
  refine z_iload_n (pc := 8) C dX5_wasAt_8 2 rfl ?_
  first | refine z_iaddN (pc := 9) C dX5_wasAt_9 ?_ | refine z_iadd (pc := 9) C dX5_wasAt_9 ?_
  refine z_ialdE (pc := 10) C dX5_wasAt_10 (by assumption) (by omega) (by decide) (show ft (m * 8 + ago) = S (8 * m + ago) from by rw [rt _ (by omega), Nat.mul_comm]) ?_
  refine z_iret (pc := 11) C dX5_wasAt_11 rfl (Nat.zero_le _) (Nat.zero_le _) ⟨?_, ?_, rfl⟩
  · first | rfl | simp_all
  · rfl

set_option maxRecDepth 20000 in
set_option maxHeartbeats 1000000 in
theorem tX5_at {h : ZH} {s le tr t : Nat} {R S : Nat → Nat} {m : Nat} (hC : Scn h s le tr t R S) (hR : wfR R) (hm : m < R 3) : ZD mX5_at 1 [.ref s, .int (nI m)] h (some (.int (nI (S (8 * m))))) h := by
  intro n
  obtain ⟨hT, fl, ft, s0, s1, s2, rl, rt⟩ := id hC
  refine z_enter (lv := [(0, _), (1, _)]) (by decide) (Nat.le_of_ble_eq_true rfl) rfl (fun X C => ?_)
  refine z_aload_n (pc := 0) C dX5_at_0 0 rfl ?_
  refine z_iload_n (pc := 1) C dX5_at_1 1 rfl ?_
  refine z_iconst (pc := 2) C dX5_at_2 (nI 0) (by decide) ?_
  refine z_cV1 (pc := 3) mX5_wasAt C [_, _] dX5_at_3 lX5_35 mtX5_wasAt (tX5_wasAt hC hR hm (by decide)) (by assumption) rfl rfl (by decide) (Nat.le_of_ble_eq_true rfl) (Nat.zero_le _) (Nat.zero_le _) ?_
  refine z_iret (pc := 6) C dX5_at_6 rfl (Nat.zero_le _) (Nat.zero_le _) ⟨?_, ?_, rfl⟩
  · first | rfl | simp_all
  · rfl

set_option maxRecDepth 20000 in
set_option maxHeartbeats 1000000 in
theorem tX5_isLit {h : ZH} {s le tr t : Nat} {R S : Nat → Nat} {p : Nat} (hC : Scn h s le tr t R S) (hS : wfS R S) (hp : p < 32) : ZD mX5_isLit 1 [.ref s, .int (nI p)] h (some (.int (zb ((S 38).testBit p)))) h := by
  intro n
  obtain ⟨wT, wL, wB⟩ := id hS
  obtain ⟨hT, fl, ft, s0, s1, s2, rl, rt⟩ := id hC
  refine z_enter (lv := [(0, _), (1, _)]) (by decide) (Nat.le_of_ble_eq_true rfl) rfl (fun X C => ?_)
  refine z_aload_n (pc := 0) C dX5_isLit_0 0 rfl ?_
  refine z_getf (pc := 1) C dX5_isLit_1 fX5_28 (by assumption) (by first | rfl | assumption) ?_
  refine z_iload_n (pc := 4) C dX5_isLit_4 1 rfl ?_
  refine z_cSN1 (pc := 5) mX11_has C [_, _] dX5_isLit_5 lX5_48 mtX11_has (tX11_has (by first | assumption | omega) (by first | assumption | omega)) rfl rfl (by decide) (Nat.le_of_ble_eq_true rfl) (Nat.zero_le _) (Nat.zero_le _) ?_
  refine z_zret (pc := 8) C dX5_isLit_8 rfl (by first | exact zb_nar _ | rfl) (Nat.zero_le _) (Nat.zero_le _) ⟨?_, ?_, rfl⟩
  · first | rfl | simp_all
  · rfl

set_option maxRecDepth 20000 in
set_option maxHeartbeats 1000000 in
theorem tX5_mayGo {h : ZH} {s le tr t : Nat} {R S : Nat → Nat} {m p : Nat} (hC : Scn h s le tr t R S) (hR : wfR R) (hS : wfS R S) (hm : m < R 3) (hp : p < R 1) : ZD mX5_mayGo 2 [.ref s, .int (nI m), .int (nI p)] h (some (.int (zb (decide (p = S (8 * m)) || (R (23 + S (8 * m))).testBit p)))) h := by
  intro n
  obtain ⟨w1, w3, w4, w5, w0, wP, wM, wK, wX⟩ := id hR
  obtain ⟨wT, wL, wB⟩ := id hS
  obtain ⟨hT, fl, ft, s0, s1, s2, rl, rt⟩ := id hC
  obtain ⟨fc, fh, fn, fk, fs, ff, fw, fe, t0, t1, t2, t3, t4, t5, t6, t7, t8, rc, rh, rn, rk, rs, rf, rv, re⟩ := id hT
  have e1 : S (8 * m) < R 1 := wT m hm 0 (by omega)
  have e2 := (wP _ e1).2.1
  refine z_enter (lv := [(0, _), (1, _), (2, _)]) (by decide) (Nat.le_of_ble_eq_true rfl) rfl (fun X C => ?_)
  refine z_iload_n (pc := 0) C dX5_mayGo_0 2 rfl ?_
  refine z_aload_n (pc := 1) C dX5_mayGo_1 0 rfl ?_
  refine z_iload_n (pc := 2) C dX5_mayGo_2 1 rfl ?_
  refine z_cV1 (pc := 3) mX5_at C [_] dX5_mayGo_3 lX5_39 mtX5_at (tX5_at (by first | assumption | omega) (by first | assumption | omega) (by first | assumption | omega)) (by assumption) rfl rfl (by decide) (Nat.le_of_ble_eq_true rfl) (Nat.zero_le _) (Nat.zero_le _) ?_
  first | refine z_icmpeqN (pc := 6) C 29 dX5_mayGo_6 (by decide) (by omega) (by omega) (fun hc6 => ?_) (fun hc6 => ?_) | refine z_icmp_eq (pc := 6) C 29 dX5_mayGo_6 (by decide) (fun hc6 => ?_) (fun hc6 => ?_)
  · skip
    refine z_iconst (pc := 29) C dX5_mayGo_29 (nI 1) (by decide) ?_
    refine z_goto (pc := 30) C 34 dX5_mayGo_30 (by decide) ?_
    refine z_zret (pc := 34) C dX5_mayGo_34 rfl (by first | exact zb_nar _ | rfl) (Nat.zero_le _) (Nat.zero_le _) ⟨?_, ?_, rfl⟩
    · simp [*] <;> rfl
    · rfl
  · skip
    refine z_aload_n (pc := 9) C dX5_mayGo_9 0 rfl ?_
    refine z_getf (pc := 10) C dX5_mayGo_10 fX5_18 (by assumption) (by first | rfl | assumption) ?_
    refine z_getf (pc := 13) C dX5_mayGo_13 fX5_43 (by assumption) (by first | rfl | assumption) ?_
    refine z_aload_n (pc := 16) C dX5_mayGo_16 0 rfl ?_
    refine z_iload_n (pc := 17) C dX5_mayGo_17 1 rfl ?_
    refine z_cV1 (pc := 18) mX5_at C [_] dX5_mayGo_18 lX5_39 mtX5_at (tX5_at (by first | assumption | omega) (by first | assumption | omega) (by first | assumption | omega)) (by assumption) rfl rfl (by decide) (Nat.le_of_ble_eq_true rfl) (Nat.zero_le _) (Nat.zero_le _) ?_
    refine z_ialdE (pc := 21) C dX5_mayGo_21 (by assumption) (by omega) (by decide) (rn _ e1) ?_
    refine z_iload_n (pc := 22) C dX5_mayGo_22 2 rfl ?_
    refine z_cSN1 (pc := 23) mX11_has C [_, _] dX5_mayGo_23 lX5_48 mtX11_has (tX11_has (by first | assumption | omega) (by first | assumption | omega)) rfl rfl (by decide) (Nat.le_of_ble_eq_true rfl) (Nat.zero_le _) (Nat.zero_le _) ?_
    first | refine z_ifeqB (pc := 26) C 33 dX5_mayGo_26 (by decide) (fun hc26 => ?_) (fun hc26 => ?_) | refine z_ifeqN (pc := 26) C 33 dX5_mayGo_26 (by decide) (by omega) (fun hc26 => ?_) (fun hc26 => ?_) | refine z_if_eq (pc := 26) C 33 dX5_mayGo_26 (by decide) (fun hc26 => ?_) (fun hc26 => ?_)
    · skip
      refine z_iconst (pc := 33) C dX5_mayGo_33 (nI 0) (by decide) ?_
      refine z_zret (pc := 34) C dX5_mayGo_34 rfl (by first | exact zb_nar _ | rfl) (Nat.zero_le _) (Nat.zero_le _) ⟨?_, ?_, rfl⟩
      · simp [*] <;> rfl
      · rfl
    · skip
      refine z_iconst (pc := 29) C dX5_mayGo_29 (nI 1) (by decide) ?_
      refine z_goto (pc := 30) C 34 dX5_mayGo_30 (by decide) ?_
      refine z_zret (pc := 34) C dX5_mayGo_34 rfl (by first | exact zb_nar _ | rfl) (Nat.zero_le _) (Nat.zero_le _) ⟨?_, ?_, rfl⟩
      · simp [*] <;> rfl
      · rfl

set_option maxRecDepth 20000 in
set_option maxHeartbeats 1000000 in
theorem tX5_standBehind {h : ZH} {s le tr t : Nat} {R S : Nat → Nat} {m far : Nat} (hC : Scn h s le tr t R S) (hR : wfR R) (hS : wfS R S) (hm : m < R 3) (hf : far ≤ 3) : ZD mX5_standBehind 1 [.ref s, .int (nI m), .int (nI far)] h (some (.int (zo (sdark S m (8 - sbeh R m far) (sbeh R m far))))) h := by
  intro n
  obtain ⟨w1, w3, w4, w5, w0, wP, wM, wK, wX⟩ := id hR
  obtain ⟨wT, wL, wB⟩ := id hS
  obtain ⟨hT, fl, ft, s0, s1, s2, rl, rt⟩ := id hC
  obtain ⟨fc, fh, fn, fk, fs, ff, fw, fe, t0, t1, t2, t3, t4, t5, t6, t7, t8, rc, rh, rn, rk, rs, rf, rv, re⟩ := id hT
  have e0 := sbeh_le R (m := m) hf
  refine z_enter (lv := [(0, _), (1, _), (2, _)]) (by decide) (Nat.le_of_ble_eq_true rfl) rfl (fun X C => ?_)
  refine z_aload_n (pc := 0) C dX5_standBehind_0 0 rfl ?_
  refine z_getf (pc := 1) C dX5_standBehind_1 fX5_18 (by assumption) (by first | rfl | assumption) ?_
  refine z_iload_n (pc := 4) C dX5_standBehind_4 1 rfl ?_
  refine z_iload_n (pc := 5) C dX5_standBehind_5 2 rfl ?_
  refine z_cV1 (pc := 6) mX8_stepsBehind C [_, _] dX5_standBehind_6 lX5_52 mtX8_stepsBehind (tX8_stepsBehind hT hR hm hf) (by assumption) rfl rfl (by decide) (Nat.le_of_ble_eq_true rfl) (Nat.zero_le _) (Nat.zero_le _) ?_
  refine z_istore_n (pc := 9) (lv' := [(3, _), (0, _), (1, _), (2, _)]) C dX5_standBehind_9 (by decide) rfl ?_
  refine z_sub (lv' := [(0, _), (1, _), (2, _), (3, _)]) [1, 2, 3, 0] rfl ?_
  have lp10 : ∀ (f : Nat) (k : Nat), (k + f = 8 ∧ sdark S m (8 - sbeh R m far) (sbeh R m far) = sdark S m f k) → Zc X mX5_standBehind (zEnd X (fun r hh n' => r = (some (.int (zo (sdark S m (8 - sbeh R m far) (sbeh R m far))))) ∧ hh = h ∧ n' = n) 0 0) 10 [(0, .ref s), (1, .int (nI m)), (2, .int (nI far)), (3, .int (nI k))] [] h n 0 0 := by
    intro f
    induction f using Nat.strongRecOn with
    | _ f ih =>
      intro k hk
      obtain ⟨hk, he⟩ := hk
      refine z_iload_n (pc := 10) C dX5_standBehind_10 3 rfl ?_
      refine z_bipush (pc := 11) C dX5_standBehind_11 (nI 8) (by decide) ?_
      first | refine z_icmpgeN (pc := 13) C 50 dX5_standBehind_13 (by decide) (by omega) (by omega) (fun hc13 => ?_) (fun hc13 => ?_) | refine z_icmp_ge (pc := 13) C 50 dX5_standBehind_13 (by decide) (fun hc13 => ?_) (fun hc13 => ?_)
      · skip
        refine z_bipush (pc := 50) C dX5_standBehind_50 (-2) (by decide) ?_
        refine z_iret (pc := 52) C dX5_standBehind_52 rfl (Nat.zero_le _) (Nat.zero_le _) ⟨?_, ?_, rfl⟩
        · rw [he]; obtain rfl : f = 0 := (by omega); rfl
        · rfl
      · skip
        refine z_aload_n (pc := 16) C dX5_standBehind_16 0 rfl ?_
        refine z_getf (pc := 17) C dX5_standBehind_17 fX5_15 (by assumption) (by first | rfl | assumption) ?_
        refine z_iload_n (pc := 20) C dX5_standBehind_20 1 rfl ?_
        refine z_bipush (pc := 21) C dX5_standBehind_21 (nI 8) (by decide) ?_
        first | refine z_imulN (pc := 23) C dX5_standBehind_23 ?_ | refine z_imul (pc := 23) C dX5_standBehind_23 ?_
        refine z_iload_n (pc := 24) C dX5_standBehind_24 3 rfl ?_
        first | refine z_iaddN (pc := 25) C dX5_standBehind_25 ?_ | refine z_iadd (pc := 25) C dX5_standBehind_25 ?_
        refine z_ialdE (pc := 26) C dX5_standBehind_26 (by assumption) (by omega) (by decide) (show ft (m * 8 + k) = S (8 * m + k) from by rw [rt _ (by omega), Nat.mul_comm]) ?_
        have e1 := wT m hm k (by omega)
        refine z_istore (pc := 27) (lv' := [(4, _), (0, _), (1, _), (2, _), (3, _)]) C dX5_standBehind_27 (by decide) rfl ?_
        refine z_aload_n (pc := 29) C dX5_standBehind_29 1 rfl ?_
        refine z_getf (pc := 30) C dX5_standBehind_30 fX5_28 (by assumption) (by first | rfl | assumption) ?_
        refine z_iload (pc := 33) C dX5_standBehind_33 0 rfl ?_
        refine z_cSN1 (pc := 35) mX11_has C [_, _] dX5_standBehind_35 lX5_48 mtX11_has (tX11_has (by first | assumption | omega) (by first | assumption | omega)) rfl rfl (by decide) (Nat.le_of_ble_eq_true rfl) (Nat.zero_le _) (Nat.zero_le _) ?_
        first | refine z_ifneB (pc := 38) C 44 dX5_standBehind_38 (by decide) (fun hc38 => ?_) (fun hc38 => ?_) | refine z_ifneN (pc := 38) C 44 dX5_standBehind_38 (by decide) (by omega) (fun hc38 => ?_) (fun hc38 => ?_) | refine z_if_ne (pc := 38) C 44 dX5_standBehind_38 (by decide) (fun hc38 => ?_) (fun hc38 => ?_)
        · skip
          first | refine z_iincN (pc := 44) (lv' := [(3, _), (4, _), (0, _), (1, _), (2, _)]) C 1 dX5_standBehind_44 4 rfl (by decide) (by decide) rfl ?_ | refine z_iinc (pc := 44) (lv' := [(3, _), (4, _), (0, _), (1, _), (2, _)]) C dX5_standBehind_44 4 rfl _ rfl (by decide) rfl ?_
          refine z_goto (pc := 47) C 10 dX5_standBehind_47 (by decide) ?_
          refine z_sub (lv' := [(0, _), (1, _), (2, _), (3, _)]) [2, 3, 4, 0] rfl ?_
          exact ih (f - 1) (by omega) (k + 1) ⟨by omega, by rw [he]; obtain ⟨f, rfl⟩ : ∃ g, f = g + 1 := ⟨f - 1, by omega⟩; simp [sdark, hc38]⟩
        · skip
          refine z_iload (pc := 41) C dX5_standBehind_41 0 rfl ?_
          refine z_iret (pc := 43) C dX5_standBehind_43 rfl (Nat.zero_le _) (Nat.zero_le _) ⟨?_, ?_, rfl⟩
          · rw [he]; obtain ⟨f, rfl⟩ : ∃ g, f = g + 1 := ⟨f - 1, by omega⟩; simp [sdark, hc38, zo]
          · rfl
  exact lp10 (8 - sbeh R m far) (sbeh R m far) ⟨by omega, rfl⟩

set_option maxRecDepth 20000 in
set_option maxHeartbeats 1000000 in
theorem tX5_standOf {h : ZH} {s le tr t : Nat} {R S : Nat → Nat} {k : Nat} (hC : Scn h s le tr t R S) (hR : wfR R) (hS : wfS R S) (hk : k < R 4) : ZD mX5_standOf 2 [.ref s, .int (nI k)] h (some (.int (zo (sstd R S k)))) h := by
  intro n
  obtain ⟨w1, w3, w4, w5, w0, wP, wM, wK, wX⟩ := id hR
  obtain ⟨wT, wL, wB⟩ := id hS
  obtain ⟨hT, fl, ft, s0, s1, s2, rl, rt⟩ := id hC
  obtain ⟨fc, fh, fn, fk, fs, ff, fw, fe, t0, t1, t2, t3, t4, t5, t6, t7, t8, rc, rh, rn, rk, rs, rf, rv, re⟩ := id hT
  have e1 := wL k hk
  have e2 := wK k hk
  refine z_enter (lv := [(0, _), (1, _)]) (by decide) (Nat.le_of_ble_eq_true rfl) rfl (fun X C => ?_)
  refine z_aload_n (pc := 0) C dX5_standOf_0 0 rfl ?_
  refine z_aload_n (pc := 1) C dX5_standOf_1 0 rfl ?_
  refine z_getf (pc := 2) C dX5_standOf_2 fX5_9 (by assumption) (by first | rfl | assumption) ?_
  refine z_iload_n (pc := 5) C dX5_standOf_5 1 rfl ?_
  refine z_ialdE (pc := 6) C dX5_standOf_6 (by assumption) (by omega) (by decide) (rl k hk) ?_
  refine z_aload_n (pc := 7) C dX5_standOf_7 0 rfl ?_
  refine z_getf (pc := 8) C dX5_standOf_8 fX5_18 (by assumption) (by first | rfl | assumption) ?_
  refine z_getf (pc := 11) C dX5_standOf_11 fX5_55 (by assumption) (by first | rfl | assumption) ?_
  refine z_iload_n (pc := 14) C dX5_standOf_14 1 rfl ?_
  refine z_ialdE (pc := 15) C dX5_standOf_15 (by assumption) (by omega) (by decide) (rf k hk) ?_
  refine z_cV1 (pc := 16) mX5_standBehind C [_, _] dX5_standOf_16 lX5_58 mtX5_standBehind (tX5_standBehind hC hR hS e1 e2.2.1) (by assumption) rfl rfl (by decide) (Nat.le_of_ble_eq_true rfl) (Nat.zero_le _) (Nat.zero_le _) ?_
  refine z_iret (pc := 19) C dX5_standOf_19 rfl (Nat.zero_le _) (Nat.zero_le _) ⟨?_, ?_, rfl⟩
  · first | rfl | simp_all
  · rfl

set_option maxRecDepth 20000 in
set_option maxHeartbeats 1000000 in
theorem tX5_killsWithin {h : ZH} {s le tr t : Nat} {R S : Nat → Nat} {p : Nat} (hC : Scn h s le tr t R S) (hR : wfR R) (hS : wfS R S) (hp : p < 2147483648) : ZD mX5_killsWithin 3 [.ref s, .int (nI p)] h (some (.int (nI (sKw R S p)))) h := by
  intro n
  obtain ⟨w1, w3, w4, w5, w0, wP, wM, wK, wX⟩ := id hR
  obtain ⟨wT, wL, wB⟩ := id hS
  obtain ⟨hT, fl, ft, s0, s1, s2, rl, rt⟩ := id hC
  obtain ⟨fc, fh, fn, fk, fs, ff, fw, fe, t0, t1, t2, t3, t4, t5, t6, t7, t8, rc, rh, rn, rk, rs, rf, rv, re⟩ := id hT
  refine z_enter (lv := [(0, _), (1, _)]) (by decide) (Nat.le_of_ble_eq_true rfl) rfl (fun X C => ?_)
  refine z_iconst (pc := 0) C dX5_killsWithin_0 (nI 0) (by decide) ?_
  refine z_istore_n (pc := 1) (lv' := [(2, _), (0, _), (1, _)]) C dX5_killsWithin_1 (by decide) rfl ?_
  refine z_iconst (pc := 2) C dX5_killsWithin_2 (nI 0) (by decide) ?_
  refine z_istore_n (pc := 3) (lv' := [(3, _), (2, _), (0, _), (1, _)]) C dX5_killsWithin_3 (by decide) rfl ?_
  refine z_sub (lv' := [(0, _), (1, _), (2, _), (3, _)]) [2, 3, 1, 0] rfl ?_
  have lp4 : ∀ (f : Nat) (k acc : Nat), (k + f = R 4 ∧ acc = sbits (fun k => match sstd R S k with | some q => p.testBit q | none => false) k) → Zc X mX5_killsWithin (zEnd X (fun r hh n' => r = (some (.int (nI (sKw R S p)))) ∧ hh = h ∧ n' = n) 0 0) 4 [(0, .ref s), (1, .int (nI p)), (2, .int (nI acc)), (3, .int (nI k))] [] h n 0 0 := by
    intro f
    induction f using Nat.strongRecOn with
    | _ f ih =>
      intro k acc hk
      obtain ⟨hk, he⟩ := hk
      refine z_iload_n (pc := 4) C dX5_killsWithin_4 3 rfl ?_
      refine z_aload_n (pc := 5) C dX5_killsWithin_5 0 rfl ?_
      refine z_getf (pc := 6) C dX5_killsWithin_6 fX5_18 (by assumption) (by first | rfl | assumption) ?_
      refine z_getf (pc := 9) C dX5_killsWithin_9 fX5_64 (by assumption) (by first | rfl | assumption) ?_
      refine z_iconst (pc := 12) C dX5_killsWithin_12 (nI 4) (by decide) ?_
      refine z_ialdE (pc := 13) C dX5_killsWithin_13 (by assumption) (by omega) (by decide) (rc 4 (by decide) (by decide)) ?_
      first | refine z_icmpgeN (pc := 14) C 50 dX5_killsWithin_14 (by decide) (by omega) (by omega) (fun hc14 => ?_) (fun hc14 => ?_) | refine z_icmp_ge (pc := 14) C 50 dX5_killsWithin_14 (by decide) (fun hc14 => ?_) (fun hc14 => ?_)
      · skip
        refine z_iload_n (pc := 50) C dX5_killsWithin_50 2 rfl ?_
        refine z_iret (pc := 51) C dX5_killsWithin_51 rfl (Nat.zero_le _) (Nat.zero_le _) ⟨?_, ?_, rfl⟩
        · obtain rfl : f = 0 := (by omega); obtain rfl : k = R 4 := (by omega); rw [he] <;> rfl
        · rfl
      · skip
        refine z_aload_n (pc := 17) C dX5_killsWithin_17 0 rfl ?_
        refine z_iload_n (pc := 18) C dX5_killsWithin_18 3 rfl ?_
        refine z_cV1 (pc := 19) mX5_standOf C [_] dX5_killsWithin_19 lX5_67 mtX5_standOf (tX5_standOf hC hR hS (by omega)) (by assumption) rfl rfl (by decide) (Nat.le_of_ble_eq_true rfl) (Nat.zero_le _) (Nat.zero_le _) ?_
        refine z_istore (pc := 22) (lv' := [(4, _), (0, _), (1, _), (2, _), (3, _)]) C dX5_killsWithin_22 (by decide) rfl ?_
        have e1 : ∀ q, sstd R S k = some q → q < 2147483648 := fun q hq => by have := sstd_lt hR hS (by omega) hq; omega
        refine z_iload (pc := 24) C dX5_killsWithin_24 0 rfl ?_
        first | refine z_ifltO (pc := 26) C 44 dX5_killsWithin_26 (by decide) (by assumption) (fun hc26 => ?_) (fun hc26 => ?_) | refine z_ifltN (pc := 26) C 44 dX5_killsWithin_26 (by decide) (by omega) (fun hc26 => ?_) (fun hc26 => ?_) | refine z_if_lt (pc := 26) C 44 dX5_killsWithin_26 (by decide) (fun hc26 => ?_) (fun hc26 => ?_)
        · skip
          first | refine z_iincN (pc := 44) (lv' := [(3, _), (4, _), (0, _), (1, _), (2, _)]) C 1 dX5_killsWithin_44 4 rfl (by decide) (by decide) rfl ?_ | refine z_iinc (pc := 44) (lv' := [(3, _), (4, _), (0, _), (1, _), (2, _)]) C dX5_killsWithin_44 4 rfl _ rfl (by decide) rfl ?_
          refine z_goto (pc := 47) C 4 dX5_killsWithin_47 (by decide) ?_
          refine z_sub (lv' := [(0, _), (1, _), (2, _), (3, _)]) [2, 3, 4, 0] rfl ?_
          exact ih (f - 1) (by omega) (k + 1) _ ⟨by omega, by rw [he, sbits]; clear he ih; simp [*]⟩
        · skip
          obtain ⟨q, hq⟩ := hc26
          have e2 := sstd_lt hR hS (by omega) hq
          rw [hq]
          refine z_iload_n (pc := 29) C dX5_killsWithin_29 2 rfl ?_
          refine z_iload (pc := 30) C dX5_killsWithin_30 0 rfl ?_
          refine z_top (show zo (some q) = nI q from rfl) ?_
          refine z_cSN1 (pc := 32) mX11_has C [_, _] dX5_killsWithin_32 lX5_48 mtX11_has (tX11_has (by first | assumption | omega) (by first | assumption | omega)) rfl rfl (by decide) (Nat.le_of_ble_eq_true rfl) (Nat.zero_le _) (Nat.zero_le _) ?_
          first | refine z_ifeqB (pc := 35) C 44 dX5_killsWithin_35 (by decide) (fun hc35 => ?_) (fun hc35 => ?_) | refine z_ifeqN (pc := 35) C 44 dX5_killsWithin_35 (by decide) (by omega) (fun hc35 => ?_) (fun hc35 => ?_) | refine z_if_eq (pc := 35) C 44 dX5_killsWithin_35 (by decide) (fun hc35 => ?_) (fun hc35 => ?_)
          · skip
            first | refine z_iincN (pc := 44) (lv' := [(3, _), (4, _), (0, _), (1, _), (2, _)]) C 1 dX5_killsWithin_44 4 rfl (by decide) (by decide) rfl ?_ | refine z_iinc (pc := 44) (lv' := [(3, _), (4, _), (0, _), (1, _), (2, _)]) C dX5_killsWithin_44 4 rfl _ rfl (by decide) rfl ?_
            refine z_goto (pc := 47) C 4 dX5_killsWithin_47 (by decide) ?_
            refine z_sub (lv' := [(0, _), (1, _), (2, _), (3, _)]) [2, 3, 4, 0] rfl ?_
            exact ih (f - 1) (by omega) (k + 1) _ ⟨by omega, by rw [he, sbits]; clear he ih; simp [*]⟩
          · skip
            refine z_iload_n (pc := 38) C dX5_killsWithin_38 3 rfl ?_
            refine z_iconst (pc := 39) C dX5_killsWithin_39 (nI 1) (by decide) ?_
            refine z_iload_n (pc := 40) C dX5_killsWithin_40 4 rfl ?_
            first | refine z_ishlN (pc := 41) C dX5_killsWithin_41 (by omega) ?_ | refine z_ishl (pc := 41) C dX5_killsWithin_41 ?_
            first | refine z_iorN (pc := 42) C dX5_killsWithin_42 ?_ | refine z_ior (pc := 42) C dX5_killsWithin_42 ?_
            refine z_istore_n (pc := 43) (lv' := [(2, _), (4, _), (0, _), (1, _), (3, _)]) C dX5_killsWithin_43 (by decide) rfl ?_
            first | refine z_iincN (pc := 44) (lv' := [(3, _), (2, _), (4, _), (0, _), (1, _)]) C 1 dX5_killsWithin_44 4 rfl (by decide) (by decide) rfl ?_ | refine z_iinc (pc := 44) (lv' := [(3, _), (2, _), (4, _), (0, _), (1, _)]) C dX5_killsWithin_44 4 rfl _ rfl (by decide) rfl ?_
            refine z_goto (pc := 47) C 4 dX5_killsWithin_47 (by decide) ?_
            refine z_sub (lv' := [(0, _), (1, _), (2, _), (3, _)]) [3, 4, 1, 0] rfl ?_
            exact ih (f - 1) (by omega) (k + 1) _ ⟨by omega, by rw [he, sbits]; clear he ih; simp [*]⟩
  exact lp4 (R 4) 0 0 ⟨by omega, rfl⟩

set_option maxRecDepth 20000 in
set_option maxHeartbeats 1000000 in
theorem tX5_killsAt {h : ZH} {s le tr t : Nat} {R S : Nat → Nat} {p : Nat} (hC : Scn h s le tr t R S) (hR : wfR R) (hS : wfS R S) (hp : p < R 1) : ZD mX5_killsAt 4 [.ref s, .int (nI p)] h (some (.int (nI (sKat R S p)))) h := by
  intro n
  obtain ⟨w1, w3, w4, w5, w0, wP, wM, wK, wX⟩ := id hR
  obtain ⟨hT, fl, ft, s0, s1, s2, rl, rt⟩ := id hC
  have e1 := s1_lt (p := p) (by omega)
  refine z_enter (lv := [(0, _), (1, _)]) (by decide) (Nat.le_of_ble_eq_true rfl) rfl (fun X C => ?_)
  refine z_aload_n (pc := 0) C dX5_killsAt_0 0 rfl ?_
  refine z_iconst (pc := 1) C dX5_killsAt_1 (nI 1) (by decide) ?_
  refine z_iload_n (pc := 2) C dX5_killsAt_2 1 rfl ?_
  first | refine z_ishlN (pc := 3) C dX5_killsAt_3 (by omega) ?_ | refine z_ishl (pc := 3) C dX5_killsAt_3 ?_
  refine z_cV1 (pc := 4) mX5_killsWithin C [_] dX5_killsAt_4 lX5_61 mtX5_killsWithin (tX5_killsWithin (by first | assumption | omega) (by first | assumption | omega) (by first | assumption | omega) (by first | assumption | omega)) (by assumption) rfl rfl (by decide) (Nat.le_of_ble_eq_true rfl) (Nat.zero_le _) (Nat.zero_le _) ?_
  refine z_iret (pc := 7) C dX5_killsAt_7 rfl (Nat.zero_le _) (Nat.zero_le _) ⟨?_, ?_, rfl⟩
  · rw [sKw_1]
  · rfl

set_option maxRecDepth 20000 in
set_option maxHeartbeats 1000000 in
theorem tX5_killsAround {h : ZH} {s le tr t : Nat} {R S : Nat → Nat} {m : Nat} (hC : Scn h s le tr t R S) (hR : wfR R) (hS : wfS R S) (hm : m < R 3) : ZD mX5_killsAround 4 [.ref s, .int (nI m)] h (some (.int (nI (sKw R S (R (23 + S (8 * m)) ||| 1 <<< S (8 * m)))))) h := by
  intro n
  obtain ⟨w1, w3, w4, w5, w0, wP, wM, wK, wX⟩ := id hR
  obtain ⟨wT, wL, wB⟩ := id hS
  obtain ⟨hT, fl, ft, s0, s1, s2, rl, rt⟩ := id hC
  obtain ⟨fc, fh, fn, fk, fs, ff, fw, fe, t0, t1, t2, t3, t4, t5, t6, t7, t8, rc, rh, rn, rk, rs, rf, rv, re⟩ := id hT
  have e1 : S (8 * m) < R 1 := wT m hm 0 (by omega)
  have e3 : R (23 + S (8 * m)) ||| 1 <<< S (8 * m) < 128 := Nat.or_lt_two_pow (n := 7) (wP _ e1).2.1 (s1_lt (by omega))
  refine z_enter (lv := [(0, _), (1, _)]) (by decide) (Nat.le_of_ble_eq_true rfl) rfl (fun X C => ?_)
  refine z_aload_n (pc := 0) C dX5_killsAround_0 0 rfl ?_
  refine z_aload_n (pc := 1) C dX5_killsAround_1 0 rfl ?_
  refine z_getf (pc := 2) C dX5_killsAround_2 fX5_18 (by assumption) (by first | rfl | assumption) ?_
  refine z_getf (pc := 5) C dX5_killsAround_5 fX5_43 (by assumption) (by first | rfl | assumption) ?_
  refine z_aload_n (pc := 8) C dX5_killsAround_8 0 rfl ?_
  refine z_iload_n (pc := 9) C dX5_killsAround_9 1 rfl ?_
  refine z_cV1 (pc := 10) mX5_at C [_] dX5_killsAround_10 lX5_39 mtX5_at (tX5_at (by first | assumption | omega) (by first | assumption | omega) (by first | assumption | omega)) (by assumption) rfl rfl (by decide) (Nat.le_of_ble_eq_true rfl) (Nat.zero_le _) (Nat.zero_le _) ?_
  refine z_ialdE (pc := 13) C dX5_killsAround_13 (by assumption) (by omega) (by decide) (rn _ e1) ?_
  refine z_iconst (pc := 14) C dX5_killsAround_14 (nI 1) (by decide) ?_
  refine z_aload_n (pc := 15) C dX5_killsAround_15 0 rfl ?_
  refine z_iload_n (pc := 16) C dX5_killsAround_16 1 rfl ?_
  refine z_cV1 (pc := 17) mX5_at C [_] dX5_killsAround_17 lX5_39 mtX5_at (tX5_at (by first | assumption | omega) (by first | assumption | omega) (by first | assumption | omega)) (by assumption) rfl rfl (by decide) (Nat.le_of_ble_eq_true rfl) (Nat.zero_le _) (Nat.zero_le _) ?_
  first | refine z_ishlN (pc := 20) C dX5_killsAround_20 (by omega) ?_ | refine z_ishl (pc := 20) C dX5_killsAround_20 ?_
  first | refine z_iorN (pc := 21) C dX5_killsAround_21 ?_ | refine z_ior (pc := 21) C dX5_killsAround_21 ?_
  refine z_cV1 (pc := 22) mX5_killsWithin C [_] dX5_killsAround_22 lX5_61 mtX5_killsWithin (tX5_killsWithin (by first | assumption | omega) (by first | assumption | omega) (by first | assumption | omega) (by first | assumption | omega)) (by assumption) rfl rfl (by decide) (Nat.le_of_ble_eq_true rfl) (Nat.zero_le _) (Nat.zero_le _) ?_
  refine z_iret (pc := 25) C dX5_killsAround_25 rfl (Nat.zero_le _) (Nat.zero_le _) ⟨?_, ?_, rfl⟩
  · first | rfl | simp_all
  · rfl

set_option maxRecDepth 20000 in
set_option maxHeartbeats 1000000 in
theorem tX5_killsBehind {h : ZH} {s le tr t : Nat} {R S : Nat → Nat} {p : Nat} (hC : Scn h s le tr t R S) (hR : wfR R) (hS : wfS R S) (hp : p < 2147483648) : ZD mX5_killsBehind 0 [.ref s, .int (nI p)] h (some (.int (nI (sFol R S p)))) h := by
  intro n
  obtain ⟨w1, w3, w4, w5, w0, wP, wM, wK, wX⟩ := id hR
  obtain ⟨wT, wL, wB⟩ := id hS
  obtain ⟨hT, fl, ft, s0, s1, s2, rl, rt⟩ := id hC
  obtain ⟨fc, fh, fn, fk, fs, ff, fw, fe, t0, t1, t2, t3, t4, t5, t6, t7, t8, rc, rh, rn, rk, rs, rf, rv, re⟩ := id hT
  refine z_enter (lv := [(0, _), (1, _)]) (by decide) (Nat.le_of_ble_eq_true rfl) rfl (fun X C => ?_)
  refine z_iconst (pc := 0) C dX5_killsBehind_0 (nI 0) (by decide) ?_
  refine z_istore_n (pc := 1) (lv' := [(2, _), (0, _), (1, _)]) C dX5_killsBehind_1 (by decide) rfl ?_
  refine z_iconst (pc := 2) C dX5_killsBehind_2 (nI 0) (by decide) ?_
  refine z_istore_n (pc := 3) (lv' := [(3, _), (2, _), (0, _), (1, _)]) C dX5_killsBehind_3 (by decide) rfl ?_
  refine z_sub (lv' := [(0, _), (1, _), (2, _), (3, _)]) [2, 3, 1, 0] rfl ?_
  have lp4 : ∀ (f : Nat) (k acc : Nat), (k + f = R 4 ∧ acc = sbits (fun k => decide (S (32 + k) = p)) k) → Zc X mX5_killsBehind (zEnd X (fun r hh n' => r = (some (.int (nI (sFol R S p)))) ∧ hh = h ∧ n' = n) 0 0) 4 [(0, .ref s), (1, .int (nI p)), (2, .int (nI acc)), (3, .int (nI k))] [] h n 0 0 := by
    intro f
    induction f using Nat.strongRecOn with
    | _ f ih =>
      intro k acc hk
      obtain ⟨hk, he⟩ := hk
      refine z_iload_n (pc := 4) C dX5_killsBehind_4 3 rfl ?_
      refine z_aload_n (pc := 5) C dX5_killsBehind_5 0 rfl ?_
      refine z_getf (pc := 6) C dX5_killsBehind_6 fX5_18 (by assumption) (by first | rfl | assumption) ?_
      refine z_getf (pc := 9) C dX5_killsBehind_9 fX5_64 (by assumption) (by first | rfl | assumption) ?_
      refine z_iconst (pc := 12) C dX5_killsBehind_12 (nI 4) (by decide) ?_
      refine z_ialdE (pc := 13) C dX5_killsBehind_13 (by assumption) (by omega) (by decide) (rc 4 (by decide) (by decide)) ?_
      first | refine z_icmpgeN (pc := 14) C 39 dX5_killsBehind_14 (by decide) (by omega) (by omega) (fun hc14 => ?_) (fun hc14 => ?_) | refine z_icmp_ge (pc := 14) C 39 dX5_killsBehind_14 (by decide) (fun hc14 => ?_) (fun hc14 => ?_)
      · skip
        refine z_iload_n (pc := 39) C dX5_killsBehind_39 2 rfl ?_
        refine z_iret (pc := 40) C dX5_killsBehind_40 rfl (Nat.zero_le _) (Nat.zero_le _) ⟨?_, ?_, rfl⟩
        · obtain rfl : f = 0 := (by omega); obtain rfl : k = R 4 := (by omega); rw [he] <;> rfl
        · rfl
      · skip
        refine z_aload_n (pc := 17) C dX5_killsBehind_17 0 rfl ?_
        refine z_getf (pc := 18) C dX5_killsBehind_18 fX5_9 (by assumption) (by first | rfl | assumption) ?_
        refine z_iload_n (pc := 21) C dX5_killsBehind_21 3 rfl ?_
        refine z_ialdE (pc := 22) C dX5_killsBehind_22 (by assumption) (by omega) (by decide) (rl k (by omega)) ?_
        refine z_iload_n (pc := 23) C dX5_killsBehind_23 1 rfl ?_
        have e1 := wL k (by omega)
        first | refine z_icmpneN (pc := 24) C 33 dX5_killsBehind_24 (by decide) (by omega) (by omega) (fun hc24 => ?_) (fun hc24 => ?_) | refine z_icmp_ne (pc := 24) C 33 dX5_killsBehind_24 (by decide) (fun hc24 => ?_) (fun hc24 => ?_)
        · skip
          first | refine z_iincN (pc := 33) (lv' := [(3, _), (0, _), (1, _), (2, _)]) C 1 dX5_killsBehind_33 3 rfl (by decide) (by decide) rfl ?_ | refine z_iinc (pc := 33) (lv' := [(3, _), (0, _), (1, _), (2, _)]) C dX5_killsBehind_33 3 rfl _ rfl (by decide) rfl ?_
          refine z_goto (pc := 36) C 4 dX5_killsBehind_36 (by decide) ?_
          refine z_sub (lv' := [(0, _), (1, _), (2, _), (3, _)]) [1, 2, 3, 0] rfl ?_
          exact ih (f - 1) (by omega) (k + 1) _ ⟨by omega, by rw [he, sbits]; clear he ih; simp [*]⟩
        · skip
          refine z_iload_n (pc := 27) C dX5_killsBehind_27 2 rfl ?_
          refine z_iconst (pc := 28) C dX5_killsBehind_28 (nI 1) (by decide) ?_
          refine z_iload_n (pc := 29) C dX5_killsBehind_29 3 rfl ?_
          first | refine z_ishlN (pc := 30) C dX5_killsBehind_30 (by omega) ?_ | refine z_ishl (pc := 30) C dX5_killsBehind_30 ?_
          first | refine z_iorN (pc := 31) C dX5_killsBehind_31 ?_ | refine z_ior (pc := 31) C dX5_killsBehind_31 ?_
          refine z_istore_n (pc := 32) (lv' := [(2, _), (0, _), (1, _), (3, _)]) C dX5_killsBehind_32 (by decide) rfl ?_
          first | refine z_iincN (pc := 33) (lv' := [(3, _), (2, _), (0, _), (1, _)]) C 1 dX5_killsBehind_33 3 rfl (by decide) (by decide) rfl ?_ | refine z_iinc (pc := 33) (lv' := [(3, _), (2, _), (0, _), (1, _)]) C dX5_killsBehind_33 3 rfl _ rfl (by decide) rfl ?_
          refine z_goto (pc := 36) C 4 dX5_killsBehind_36 (by decide) ?_
          refine z_sub (lv' := [(0, _), (1, _), (2, _), (3, _)]) [2, 3, 1, 0] rfl ?_
          exact ih (f - 1) (by omega) (k + 1) _ ⟨by omega, by rw [he, sbits]; clear he ih; simp [*]⟩
  exact lp4 (R 4) 0 0 ⟨by omega, rfl⟩

set_option maxRecDepth 20000 in
set_option maxHeartbeats 1000000 in
theorem tX5_menAt {h : ZH} {s le tr t : Nat} {R S : Nat → Nat} {p : Nat} (hC : Scn h s le tr t R S) (hR : wfR R) (hS : wfS R S) (hp : p < 2147483648) : ZD mX5_menAt 2 [.ref s, .int (nI p)] h (some (.int (nI (sMen R S p)))) h := by
  intro n
  obtain ⟨w1, w3, w4, w5, w0, wP, wM, wK, wX⟩ := id hR
  obtain ⟨wT, wL, wB⟩ := id hS
  obtain ⟨hT, fl, ft, s0, s1, s2, rl, rt⟩ := id hC
  obtain ⟨fc, fh, fn, fk, fs, ff, fw, fe, t0, t1, t2, t3, t4, t5, t6, t7, t8, rc, rh, rn, rk, rs, rf, rv, re⟩ := id hT
  refine z_enter (lv := [(0, _), (1, _)]) (by decide) (Nat.le_of_ble_eq_true rfl) rfl (fun X C => ?_)
  refine z_iconst (pc := 0) C dX5_menAt_0 (nI 0) (by decide) ?_
  refine z_istore_n (pc := 1) (lv' := [(2, _), (0, _), (1, _)]) C dX5_menAt_1 (by decide) rfl ?_
  refine z_iconst (pc := 2) C dX5_menAt_2 (nI 0) (by decide) ?_
  refine z_istore_n (pc := 3) (lv' := [(3, _), (2, _), (0, _), (1, _)]) C dX5_menAt_3 (by decide) rfl ?_
  refine z_sub (lv' := [(0, _), (1, _), (2, _), (3, _)]) [2, 3, 1, 0] rfl ?_
  have lp4 : ∀ (f : Nat) (k acc : Nat), (k + f = R 3 ∧ acc = sbits (fun m => decide (S (8 * m) = p)) k) → Zc X mX5_menAt (zEnd X (fun r hh n' => r = (some (.int (nI (sMen R S p)))) ∧ hh = h ∧ n' = n) 0 0) 4 [(0, .ref s), (1, .int (nI p)), (2, .int (nI acc)), (3, .int (nI k))] [] h n 0 0 := by
    intro f
    induction f using Nat.strongRecOn with
    | _ f ih =>
      intro k acc hk
      obtain ⟨hk, he⟩ := hk
      refine z_iload_n (pc := 4) C dX5_menAt_4 3 rfl ?_
      refine z_aload_n (pc := 5) C dX5_menAt_5 0 rfl ?_
      refine z_getf (pc := 6) C dX5_menAt_6 fX5_18 (by assumption) (by first | rfl | assumption) ?_
      refine z_getf (pc := 9) C dX5_menAt_9 fX5_64 (by assumption) (by first | rfl | assumption) ?_
      refine z_iconst (pc := 12) C dX5_menAt_12 (nI 3) (by decide) ?_
      refine z_ialdE (pc := 13) C dX5_menAt_13 (by assumption) (by omega) (by decide) (rc 3 (by decide) (by decide)) ?_
      first | refine z_icmpgeN (pc := 14) C 38 dX5_menAt_14 (by decide) (by omega) (by omega) (fun hc14 => ?_) (fun hc14 => ?_) | refine z_icmp_ge (pc := 14) C 38 dX5_menAt_14 (by decide) (fun hc14 => ?_) (fun hc14 => ?_)
      · skip
        refine z_iload_n (pc := 38) C dX5_menAt_38 2 rfl ?_
        refine z_iret (pc := 39) C dX5_menAt_39 rfl (Nat.zero_le _) (Nat.zero_le _) ⟨?_, ?_, rfl⟩
        · obtain rfl : f = 0 := (by omega); obtain rfl : k = R 3 := (by omega); rw [he] <;> rfl
        · rfl
      · skip
        refine z_aload_n (pc := 17) C dX5_menAt_17 0 rfl ?_
        refine z_iload_n (pc := 18) C dX5_menAt_18 3 rfl ?_
        refine z_cV1 (pc := 19) mX5_at C [_] dX5_menAt_19 lX5_39 mtX5_at (tX5_at hC hR (by omega)) (by assumption) rfl rfl (by decide) (Nat.le_of_ble_eq_true rfl) (Nat.zero_le _) (Nat.zero_le _) ?_
        refine z_iload_n (pc := 22) C dX5_menAt_22 1 rfl ?_
        have e1 : S (8 * k) < R 1 := wT k (by omega) 0 (by omega)
        first | refine z_icmpneN (pc := 23) C 32 dX5_menAt_23 (by decide) (by omega) (by omega) (fun hc23 => ?_) (fun hc23 => ?_) | refine z_icmp_ne (pc := 23) C 32 dX5_menAt_23 (by decide) (fun hc23 => ?_) (fun hc23 => ?_)
        · skip
          first | refine z_iincN (pc := 32) (lv' := [(3, _), (0, _), (1, _), (2, _)]) C 1 dX5_menAt_32 3 rfl (by decide) (by decide) rfl ?_ | refine z_iinc (pc := 32) (lv' := [(3, _), (0, _), (1, _), (2, _)]) C dX5_menAt_32 3 rfl _ rfl (by decide) rfl ?_
          refine z_goto (pc := 35) C 4 dX5_menAt_35 (by decide) ?_
          refine z_sub (lv' := [(0, _), (1, _), (2, _), (3, _)]) [1, 2, 3, 0] rfl ?_
          exact ih (f - 1) (by omega) (k + 1) _ ⟨by omega, by rw [he, sbits]; clear he ih; simp [*]⟩
        · skip
          refine z_iload_n (pc := 26) C dX5_menAt_26 2 rfl ?_
          refine z_iconst (pc := 27) C dX5_menAt_27 (nI 1) (by decide) ?_
          refine z_iload_n (pc := 28) C dX5_menAt_28 3 rfl ?_
          first | refine z_ishlN (pc := 29) C dX5_menAt_29 (by omega) ?_ | refine z_ishl (pc := 29) C dX5_menAt_29 ?_
          first | refine z_iorN (pc := 30) C dX5_menAt_30 ?_ | refine z_ior (pc := 30) C dX5_menAt_30 ?_
          refine z_istore_n (pc := 31) (lv' := [(2, _), (0, _), (1, _), (3, _)]) C dX5_menAt_31 (by decide) rfl ?_
          first | refine z_iincN (pc := 32) (lv' := [(3, _), (2, _), (0, _), (1, _)]) C 1 dX5_menAt_32 3 rfl (by decide) (by decide) rfl ?_ | refine z_iinc (pc := 32) (lv' := [(3, _), (2, _), (0, _), (1, _)]) C dX5_menAt_32 3 rfl _ rfl (by decide) rfl ?_
          refine z_goto (pc := 35) C 4 dX5_menAt_35 (by decide) ?_
          refine z_sub (lv' := [(0, _), (1, _), (2, _), (3, _)]) [2, 3, 1, 0] rfl ?_
          exact ih (f - 1) (by omega) (k + 1) _ ⟨by omega, by rw [he, sbits]; clear he ih; simp [*]⟩
  exact lp4 (R 3) 0 0 ⟨by omega, rfl⟩

set_option maxRecDepth 20000 in
set_option maxHeartbeats 1000000 in
theorem tX5_roomAt {h : ZH} {s le tr t : Nat} {R S : Nat → Nat} {p : Nat} (hC : Scn h s le tr t R S) (hR : wfR R) (hS : wfS R S) (hp : p < R 1) : ZD mX5_roomAt 4 [.ref s, .int (nI p)] h (some (.int (nI (R (9 + p)) - nI (sone (sKat R S p) 8)))) h := by
  intro n
  obtain ⟨w1, w3, w4, w5, w0, wP, wM, wK, wX⟩ := id hR
  obtain ⟨wT, wL, wB⟩ := id hS
  obtain ⟨hT, fl, ft, s0, s1, s2, rl, rt⟩ := id hC
  obtain ⟨fc, fh, fn, fk, fs, ff, fw, fe, t0, t1, t2, t3, t4, t5, t6, t7, t8, rc, rh, rn, rk, rs, rf, rv, re⟩ := id hT
  have e1 := s1_lt (p := p) (by omega)
  have e4 : sKat R S p < 128 := sbits_lt7 _ (by omega)
  refine z_enter (lv := [(0, _), (1, _)]) (by decide) (Nat.le_of_ble_eq_true rfl) rfl (fun X C => ?_)
  refine z_aload_n (pc := 0) C dX5_roomAt_0 0 rfl ?_
  refine z_getf (pc := 1) C dX5_roomAt_1 fX5_18 (by assumption) (by first | rfl | assumption) ?_
  refine z_getf (pc := 4) C dX5_roomAt_4 fX5_81 (by assumption) (by first | rfl | assumption) ?_
  refine z_iload_n (pc := 7) C dX5_roomAt_7 1 rfl ?_
  refine z_ialdE (pc := 8) C dX5_roomAt_8 (by assumption) (by omega) (by decide) (rh p hp) ?_
  refine z_aload_n (pc := 9) C dX5_roomAt_9 0 rfl ?_
  refine z_iconst (pc := 10) C dX5_roomAt_10 (nI 1) (by decide) ?_
  refine z_iload_n (pc := 11) C dX5_roomAt_11 1 rfl ?_
  first | refine z_ishlN (pc := 12) C dX5_roomAt_12 (by omega) ?_ | refine z_ishl (pc := 12) C dX5_roomAt_12 ?_
  refine z_cV1 (pc := 13) mX5_killsWithin C [_] dX5_roomAt_13 lX5_61 mtX5_killsWithin (tX5_killsWithin (by first | assumption | omega) (by first | assumption | omega) (by first | assumption | omega) (by first | assumption | omega)) (by assumption) rfl rfl (by decide) (Nat.le_of_ble_eq_true rfl) (Nat.zero_le _) (Nat.zero_le _) ?_
  rw [sKw_1]
  refine z_cS1 (pc := 16) mJ6_bitCount_0f7a4 C [_] dX5_roomAt_16 lX5_73 mtJ6_bitCount_0f7a4 (tJ6_bitCount_0f7a4 (by first | assumption | omega)) rfl rfl (by decide) (Nat.le_of_ble_eq_true rfl) (Nat.zero_le _) (Nat.zero_le _) ?_
  refine z_isub (pc := 19) C dX5_roomAt_19 ?_
  refine z_iret (pc := 20) C dX5_roomAt_20 rfl (Nat.zero_le _) (Nat.zero_le _) ⟨?_, ?_, rfl⟩
  · first | rfl | simp_all
  · rfl

set_option maxRecDepth 20000 in
set_option maxHeartbeats 1000000 in
theorem tX5_isCrowded {h : ZH} {s le tr t : Nat} {R S : Nat → Nat} {p : Nat} (hC : Scn h s le tr t R S) (hR : wfR R) (hS : wfS R S) (hp : p < R 1) : ZD mX5_isCrowded 5 [.ref s, .int (nI p)] h (some (.int (zb (sCrw R S p)))) h := by
  intro n
  obtain ⟨w1, w3, w4, w5, w0, wP, wM, wK, wX⟩ := id hR
  obtain ⟨hT, fl, ft, s0, s1, s2, rl, rt⟩ := id hC
  have e1 := (wP p hp).1
  have e2 := sone_le (sKat R S p) 8
  refine z_enter (lv := [(0, _), (1, _)]) (by decide) (Nat.le_of_ble_eq_true rfl) rfl (fun X C => ?_)
  refine z_aload_n (pc := 0) C dX5_isCrowded_0 0 rfl ?_
  refine z_iload_n (pc := 1) C dX5_isCrowded_1 1 rfl ?_
  refine z_cV1 (pc := 2) mX5_roomAt C [_] dX5_isCrowded_2 lX5_84 mtX5_roomAt (tX5_roomAt (by first | assumption | omega) (by first | assumption | omega) (by first | assumption | omega) (by first | assumption | omega)) (by assumption) rfl rfl (by decide) (Nat.le_of_ble_eq_true rfl) (Nat.zero_le _) (Nat.zero_le _) ?_
  refine z_if_ge (pc := 5) C 12 dX5_isCrowded_5 (by decide) (fun hc5 => ?_) (fun hc5 => ?_)
  · skip
    refine z_iconst (pc := 12) C dX5_isCrowded_12 (nI 0) (by decide) ?_
    refine z_zret (pc := 13) C dX5_isCrowded_13 rfl (by first | exact zb_nar _ | rfl) (Nat.zero_le _) (Nat.zero_le _) ⟨?_, ?_, rfl⟩
    · first | (rw [sCrw, decide_eq_false (by have := (sub_ge (by omega) (by omega)).mp hc5; omega)]; rfl) | (rw [sCrw, decide_eq_true (Nat.not_le.mp fun z => hc5 ((sub_ge (by omega) (by omega)).mpr z))]; rfl)
    · rfl
  · skip
    refine z_iconst (pc := 8) C dX5_isCrowded_8 (nI 1) (by decide) ?_
    refine z_goto (pc := 9) C 13 dX5_isCrowded_9 (by decide) ?_
    refine z_zret (pc := 13) C dX5_isCrowded_13 rfl (by first | exact zb_nar _ | rfl) (Nat.zero_le _) (Nat.zero_le _) ⟨?_, ?_, rfl⟩
    · first | (rw [sCrw, decide_eq_false (by have := (sub_ge (by omega) (by omega)).mp hc5; omega)]; rfl) | (rw [sCrw, decide_eq_true (Nat.not_le.mp fun z => hc5 ((sub_ge (by omega) (by omega)).mpr z))]; rfl)
    · rfl

set_option maxRecDepth 20000 in
set_option maxHeartbeats 1000000 in
theorem tX10_all {h : ZH} {t : Nat} {R : Nat → Nat} (hT : Tld h t R) (hR : wfR R) : ZD mX10_all 0 [.ref t] h (some (.int (nI ((1 <<< R 1) - 1)))) h := by
  intro n
  obtain ⟨w1, w3, w4, w5, w0, wP, wM, wK, wX⟩ := id hR
  obtain ⟨fc, fh, fn, fk, fs, ff, fw, fe, t0, t1, t2, t3, t4, t5, t6, t7, t8, rc, rh, rn, rk, rs, rf, rv, re⟩ := id hT
  have e1 := sall_lt w1
  refine z_enter (lv := [(0, _)]) (by decide) (Nat.le_of_ble_eq_true rfl) rfl (fun X C => ?_)
  refine z_iconst (pc := 0) C dX10_all_0 (nI 1) (by decide) ?_
  refine z_aload_n (pc := 1) C dX10_all_1 0 rfl ?_
  refine z_getf (pc := 2) C dX10_all_2 fX10_9 (by assumption) (by first | rfl | assumption) ?_
  refine z_iconst (pc := 5) C dX10_all_5 (nI 1) (by decide) ?_
  refine z_ialdE (pc := 6) C dX10_all_6 (by assumption) (by omega) (by decide) (rc 1 (by decide) (by decide)) ?_
  first | refine z_ishlN (pc := 7) C dX10_all_7 (by omega) ?_ | refine z_ishl (pc := 7) C dX10_all_7 ?_
  refine z_iconst (pc := 8) C dX10_all_8 (nI 1) (by decide) ?_
  first | refine z_isubN (pc := 9) C dX10_all_9 (by omega) ?_ | refine z_isub (pc := 9) C dX10_all_9 ?_
  refine z_iret (pc := 10) C dX10_all_10 rfl (Nat.zero_le _) (Nat.zero_le _) ⟨?_, ?_, rfl⟩
  · first | rfl | simp_all
  · rfl

set_option maxRecDepth 20000 in
set_option maxHeartbeats 1000000 in
theorem tX10_spread {h : ZH} {t : Nat} {R : Nat → Nat} {a op : Nat} (hT : Tld h t R) (hR : wfR R) (ha : a < 128) : ZD mX10_spread 1 [.ref t, .int (nI a), .int (nI op)] h (some (.int (nI (sSpr R a op)))) h := by
  intro n
  obtain ⟨w1, w3, w4, w5, w0, wP, wM, wK, wX⟩ := id hR
  obtain ⟨fc, fh, fn, fk, fs, ff, fw, fe, t0, t1, t2, t3, t4, t5, t6, t7, t8, rc, rh, rn, rk, rs, rf, rv, re⟩ := id hT
  refine z_enter (lv := [(0, _), (1, _), (2, _)]) (by decide) (Nat.le_of_ble_eq_true rfl) rfl (fun X C => ?_)
  refine z_iload_n (pc := 0) C dX10_spread_0 1 rfl ?_
  refine z_istore_n (pc := 1) (lv' := [(3, _), (0, _), (1, _), (2, _)]) C dX10_spread_1 (by decide) rfl ?_
  refine z_iconst (pc := 2) C dX10_spread_2 (nI 0) (by decide) ?_
  refine z_istore (pc := 3) (lv' := [(4, _), (3, _), (0, _), (1, _), (2, _)]) C dX10_spread_3 (by decide) rfl ?_
  refine z_sub (lv' := [(0, _), (1, _), (2, _), (3, _), (4, _)]) [2, 3, 4, 1, 0] rfl ?_
  have lp5 : ∀ (f : Nat) (k acc : Nat), (k + f = R 1 ∧ acc = sspr R a op k) → Zc X mX10_spread (zEnd X (fun r hh n' => r = (some (.int (nI (sSpr R a op)))) ∧ hh = h ∧ n' = n) 0 0) 5 [(0, .ref t), (1, .int (nI a)), (2, .int (nI op)), (3, .int (nI acc)), (4, .int (nI k))] [] h n 0 0 := by
    intro f
    induction f using Nat.strongRecOn with
    | _ f ih =>
      intro k acc hk
      obtain ⟨hk, he⟩ := hk
      refine z_iload (pc := 5) C dX10_spread_5 4 rfl ?_
      refine z_aload_n (pc := 7) C dX10_spread_7 0 rfl ?_
      refine z_getf (pc := 8) C dX10_spread_8 fX10_9 (by assumption) (by first | rfl | assumption) ?_
      refine z_iconst (pc := 11) C dX10_spread_11 (nI 1) (by decide) ?_
      refine z_ialdE (pc := 12) C dX10_spread_12 (by assumption) (by omega) (by decide) (rc 1 (by decide) (by decide)) ?_
      first | refine z_icmpgeN (pc := 13) C 43 dX10_spread_13 (by decide) (by omega) (by omega) (fun hc13 => ?_) (fun hc13 => ?_) | refine z_icmp_ge (pc := 13) C 43 dX10_spread_13 (by decide) (fun hc13 => ?_) (fun hc13 => ?_)
      · skip
        refine z_iload_n (pc := 43) C dX10_spread_43 3 rfl ?_
        refine z_iret (pc := 44) C dX10_spread_44 rfl (Nat.zero_le _) (Nat.zero_le _) ⟨?_, ?_, rfl⟩
        · obtain rfl : f = 0 := (by omega); obtain rfl : k = R 1 := (by omega); rw [he] <;> rfl
        · rfl
      · skip
        refine z_iload_n (pc := 16) C dX10_spread_16 1 rfl ?_
        refine z_iload (pc := 17) C dX10_spread_17 4 rfl ?_
        refine z_cSN1 (pc := 19) mX11_has C [_, _] dX10_spread_19 lX10_15 mtX11_has (tX11_has (by first | assumption | omega) (by first | assumption | omega)) rfl rfl (by decide) (Nat.le_of_ble_eq_true rfl) (Nat.zero_le _) (Nat.zero_le _) ?_
        first | refine z_ifeqB (pc := 22) C 37 dX10_spread_22 (by decide) (fun hc22 => ?_) (fun hc22 => ?_) | refine z_ifeqN (pc := 22) C 37 dX10_spread_22 (by decide) (by omega) (fun hc22 => ?_) (fun hc22 => ?_) | refine z_if_eq (pc := 22) C 37 dX10_spread_22 (by decide) (fun hc22 => ?_) (fun hc22 => ?_)
        · skip
          first | refine z_iincN (pc := 37) (lv' := [(4, _), (0, _), (1, _), (2, _), (3, _)]) C 1 dX10_spread_37 4 rfl (by decide) (by decide) rfl ?_ | refine z_iinc (pc := 37) (lv' := [(4, _), (0, _), (1, _), (2, _), (3, _)]) C dX10_spread_37 4 rfl _ rfl (by decide) rfl ?_
          refine z_goto (pc := 40) C 5 dX10_spread_40 (by decide) ?_
          refine z_sub (lv' := [(0, _), (1, _), (2, _), (3, _), (4, _)]) [1, 2, 3, 4, 0] rfl ?_
          exact ih (f - 1) (by omega) (k + 1) _ ⟨by omega, by rw [he, sspr, hc22]; simp⟩
        · skip
          refine z_iload_n (pc := 25) C dX10_spread_25 3 rfl ?_
          refine z_aload_n (pc := 26) C dX10_spread_26 0 rfl ?_
          refine z_getf (pc := 27) C dX10_spread_27 fX10_19 (by assumption) (by first | rfl | assumption) ?_
          refine z_iload (pc := 30) C dX10_spread_30 4 rfl ?_
          refine z_ialdE (pc := 32) C dX10_spread_32 (by assumption) (by omega) (by decide) (rn k (by omega)) ?_
          refine z_iload_n (pc := 33) C dX10_spread_33 2 rfl ?_
          first | refine z_iandN (pc := 34) C dX10_spread_34 ?_ | refine z_iand (pc := 34) C dX10_spread_34 ?_
          first | refine z_iorN (pc := 35) C dX10_spread_35 ?_ | refine z_ior (pc := 35) C dX10_spread_35 ?_
          refine z_istore_n (pc := 36) (lv' := [(3, _), (0, _), (1, _), (2, _), (4, _)]) C dX10_spread_36 (by decide) rfl ?_
          first | refine z_iincN (pc := 37) (lv' := [(4, _), (3, _), (0, _), (1, _), (2, _)]) C 1 dX10_spread_37 4 rfl (by decide) (by decide) rfl ?_ | refine z_iinc (pc := 37) (lv' := [(4, _), (3, _), (0, _), (1, _), (2, _)]) C dX10_spread_37 4 rfl _ rfl (by decide) rfl ?_
          refine z_goto (pc := 40) C 5 dX10_spread_40 (by decide) ?_
          refine z_sub (lv' := [(0, _), (1, _), (2, _), (3, _), (4, _)]) [2, 3, 4, 1, 0] rfl ?_
          exact ih (f - 1) (by omega) (k + 1) _ ⟨by omega, by rw [he, sspr, hc22]; simp⟩
  exact lp5 (R 1) 0 a ⟨by omega, rfl⟩

set_option maxRecDepth 20000 in
set_option maxHeartbeats 1000000 in
theorem tX10_reach {h : ZH} {t : Nat} {R : Nat → Nat} {p op : Nat} (hT : Tld h t R) (hR : wfR R) (hp : p < 7) : ZD mX10_reach 2 [.ref t, .int (nI p), .int (nI op)] h (some (.int (nI (srch R op 6 (1 <<< p))))) h := by
  intro n
  obtain ⟨w1, w3, w4, w5, w0, wP, wM, wK, wX⟩ := id hR
  obtain ⟨fc, fh, fn, fk, fs, ff, fw, fe, t0, t1, t2, t3, t4, t5, t6, t7, t8, rc, rh, rn, rk, rs, rf, rv, re⟩ := id hT
  refine z_enter (lv := [(0, _), (1, _), (2, _)]) (by decide) (Nat.le_of_ble_eq_true rfl) rfl (fun X C => ?_)
  refine z_iconst (pc := 0) C dX10_reach_0 (nI 1) (by decide) ?_
  refine z_iload_n (pc := 1) C dX10_reach_1 1 rfl ?_
  first | refine z_ishlN (pc := 2) C dX10_reach_2 (by omega) ?_ | refine z_ishl (pc := 2) C dX10_reach_2 ?_
  refine z_istore_n (pc := 3) (lv' := [(3, _), (0, _), (1, _), (2, _)]) C dX10_reach_3 (by decide) rfl ?_
  refine z_iconst (pc := 4) C dX10_reach_4 (nI 1) (by decide) ?_
  refine z_istore (pc := 5) (lv' := [(4, _), (3, _), (0, _), (1, _), (2, _)]) C dX10_reach_5 (by decide) rfl ?_
  refine z_sub (lv' := [(0, _), (1, _), (2, _), (3, _), (4, _)]) [2, 3, 4, 1, 0] rfl ?_
  have lp7 : ∀ (f : Nat) (k a : Nat), (k + f = 7 ∧ a < 128 ∧ srch R op 6 (1 <<< p) = srch R op f a) → Zc X mX10_reach (zEnd X (fun r hh n' => r = (some (.int (nI (srch R op 6 (1 <<< p))))) ∧ hh = h ∧ n' = n) 0 0) 7 [(0, .ref t), (1, .int (nI p)), (2, .int (nI op)), (3, .int (nI a)), (4, .int (nI k))] [] h n 0 0 := by
    intro f
    induction f using Nat.strongRecOn with
    | _ f ih =>
      intro k a hk
      obtain ⟨hk, ha, he⟩ := hk
      refine z_iload (pc := 7) C dX10_reach_7 4 rfl ?_
      refine z_bipush (pc := 9) C dX10_reach_9 (nI 7) (by decide) ?_
      first | refine z_icmpgeN (pc := 11) C 27 dX10_reach_11 (by decide) (by omega) (by omega) (fun hc11 => ?_) (fun hc11 => ?_) | refine z_icmp_ge (pc := 11) C 27 dX10_reach_11 (by decide) (fun hc11 => ?_) (fun hc11 => ?_)
      · skip
        refine z_iload_n (pc := 27) C dX10_reach_27 3 rfl ?_
        refine z_iret (pc := 28) C dX10_reach_28 rfl (Nat.zero_le _) (Nat.zero_le _) ⟨?_, ?_, rfl⟩
        · rw [he]; obtain rfl : f = 0 := (by omega); rfl
        · rfl
      · skip
        refine z_aload_n (pc := 14) C dX10_reach_14 0 rfl ?_
        refine z_iload_n (pc := 15) C dX10_reach_15 3 rfl ?_
        refine z_iload_n (pc := 16) C dX10_reach_16 2 rfl ?_
        refine z_cS1 (pc := 17) mX10_spread C [_, _, _] dX10_reach_17 lX10_22 mtX10_spread (tX10_spread (by first | assumption | omega) (by first | assumption | omega) (by first | assumption | omega)) rfl rfl (by decide) (Nat.le_of_ble_eq_true rfl) (Nat.zero_le _) (Nat.zero_le _) ?_
        refine z_istore_n (pc := 20) (lv' := [(3, _), (0, _), (1, _), (2, _), (4, _)]) C dX10_reach_20 (by decide) rfl ?_
        first | refine z_iincN (pc := 21) (lv' := [(4, _), (3, _), (0, _), (1, _), (2, _)]) C 1 dX10_reach_21 4 rfl (by decide) (by decide) rfl ?_ | refine z_iinc (pc := 21) (lv' := [(4, _), (3, _), (0, _), (1, _), (2, _)]) C dX10_reach_21 4 rfl _ rfl (by decide) rfl ?_
        refine z_goto (pc := 24) C 7 dX10_reach_24 (by decide) ?_
        refine z_sub (lv' := [(0, _), (1, _), (2, _), (3, _), (4, _)]) [2, 3, 4, 1, 0] rfl ?_
        exact ih (f - 1) (by omega) (k + 1) _ ⟨by omega, sSpr_lt hR ha _, by rw [he]; obtain ⟨f, rfl⟩ : ∃ g, f = g + 1 := ⟨f - 1, by omega⟩; rfl⟩
  exact lp7 6 1 _ ⟨rfl, s1_lt hp, rfl⟩

set_option maxRecDepth 20000 in
set_option maxHeartbeats 1000000 in
theorem tX10_distance {h : ZH} {t : Nat} {R : Nat → Nat} {p q op : Nat} (hT : Tld h t R) (hR : wfR R) (hp : p < 7) (hq : q < 7) : ZD mX10_distance 2 [.ref t, .int (nI p), .int (nI q), .int (nI op)] h (some (.int (zo (sstp R op q 7 0 (1 <<< p))))) h := by
  intro n
  obtain ⟨w1, w3, w4, w5, w0, wP, wM, wK, wX⟩ := id hR
  obtain ⟨fc, fh, fn, fk, fs, ff, fw, fe, t0, t1, t2, t3, t4, t5, t6, t7, t8, rc, rh, rn, rk, rs, rf, rv, re⟩ := id hT
  refine z_enter (lv := [(0, _), (1, _), (2, _), (3, _)]) (by decide) (Nat.le_of_ble_eq_true rfl) rfl (fun X C => ?_)
  refine z_iconst (pc := 0) C dX10_distance_0 (nI 1) (by decide) ?_
  refine z_iload_n (pc := 1) C dX10_distance_1 1 rfl ?_
  first | refine z_ishlN (pc := 2) C dX10_distance_2 (by omega) ?_ | refine z_ishl (pc := 2) C dX10_distance_2 ?_
  refine z_istore (pc := 3) (lv' := [(4, _), (0, _), (1, _), (2, _), (3, _)]) C dX10_distance_3 (by decide) rfl ?_
  refine z_iconst (pc := 5) C dX10_distance_5 (nI 0) (by decide) ?_
  refine z_istore (pc := 6) (lv' := [(5, _), (4, _), (0, _), (1, _), (2, _), (3, _)]) C dX10_distance_6 (by decide) rfl ?_
  refine z_sub (lv' := [(0, _), (1, _), (2, _), (3, _), (4, _), (5, _)]) [2, 3, 4, 5, 1, 0] rfl ?_
  have lp8 : ∀ (f : Nat) (k a : Nat), (k + f = 7 ∧ a < 128 ∧ sstp R op q 7 0 (1 <<< p) = sstp R op q f k a) → Zc X mX10_distance (zEnd X (fun r hh n' => r = (some (.int (zo (sstp R op q 7 0 (1 <<< p))))) ∧ hh = h ∧ n' = n) 0 0) 8 [(0, .ref t), (1, .int (nI p)), (2, .int (nI q)), (3, .int (nI op)), (4, .int (nI a)), (5, .int (nI k))] [] h n 0 0 := by
    intro f
    induction f using Nat.strongRecOn with
    | _ f ih =>
      intro k a hk
      obtain ⟨hk, ha, he⟩ := hk
      refine z_iload (pc := 8) C dX10_distance_8 5 rfl ?_
      refine z_bipush (pc := 10) C dX10_distance_10 (nI 7) (by decide) ?_
      first | refine z_icmpgeN (pc := 12) C 42 dX10_distance_12 (by decide) (by omega) (by omega) (fun hc12 => ?_) (fun hc12 => ?_) | refine z_icmp_ge (pc := 12) C 42 dX10_distance_12 (by decide) (fun hc12 => ?_) (fun hc12 => ?_)
      · skip
        refine z_bipush (pc := 42) C dX10_distance_42 (-2) (by decide) ?_
        refine z_iret (pc := 44) C dX10_distance_44 rfl (Nat.zero_le _) (Nat.zero_le _) ⟨?_, ?_, rfl⟩
        · rw [he]; obtain rfl : f = 0 := (by omega); rfl
        · rfl
      · skip
        refine z_iload (pc := 15) C dX10_distance_15 4 rfl ?_
        refine z_iload_n (pc := 17) C dX10_distance_17 2 rfl ?_
        refine z_cSN1 (pc := 18) mX11_has C [_, _] dX10_distance_18 lX10_15 mtX11_has (tX11_has (by first | assumption | omega) (by first | assumption | omega)) rfl rfl (by decide) (Nat.le_of_ble_eq_true rfl) (Nat.zero_le _) (Nat.zero_le _) ?_
        first | refine z_ifeqB (pc := 21) C 27 dX10_distance_21 (by decide) (fun hc21 => ?_) (fun hc21 => ?_) | refine z_ifeqN (pc := 21) C 27 dX10_distance_21 (by decide) (by omega) (fun hc21 => ?_) (fun hc21 => ?_) | refine z_if_eq (pc := 21) C 27 dX10_distance_21 (by decide) (fun hc21 => ?_) (fun hc21 => ?_)
        · skip
          refine z_aload_n (pc := 27) C dX10_distance_27 0 rfl ?_
          refine z_iload (pc := 28) C dX10_distance_28 4 rfl ?_
          refine z_iload_n (pc := 30) C dX10_distance_30 3 rfl ?_
          refine z_cS1 (pc := 31) mX10_spread C [_, _, _] dX10_distance_31 lX10_22 mtX10_spread (tX10_spread (by first | assumption | omega) (by first | assumption | omega) (by first | assumption | omega)) rfl rfl (by decide) (Nat.le_of_ble_eq_true rfl) (Nat.zero_le _) (Nat.zero_le _) ?_
          refine z_istore (pc := 34) (lv' := [(4, _), (0, _), (1, _), (2, _), (3, _), (5, _)]) C dX10_distance_34 (by decide) rfl ?_
          first | refine z_iincN (pc := 36) (lv' := [(5, _), (4, _), (0, _), (1, _), (2, _), (3, _)]) C 1 dX10_distance_36 5 rfl (by decide) (by decide) rfl ?_ | refine z_iinc (pc := 36) (lv' := [(5, _), (4, _), (0, _), (1, _), (2, _), (3, _)]) C dX10_distance_36 5 rfl _ rfl (by decide) rfl ?_
          refine z_goto (pc := 39) C 8 dX10_distance_39 (by decide) ?_
          refine z_sub (lv' := [(0, _), (1, _), (2, _), (3, _), (4, _), (5, _)]) [2, 3, 4, 5, 1, 0] rfl ?_
          exact ih (f - 1) (by omega) (k + 1) _ ⟨by omega, sSpr_lt hR ha _, by rw [he]; obtain ⟨f, rfl⟩ : ∃ g, f = g + 1 := ⟨f - 1, by omega⟩; simp [sstp, hc21]⟩
        · skip
          refine z_iload (pc := 24) C dX10_distance_24 5 rfl ?_
          refine z_iret (pc := 26) C dX10_distance_26 rfl (Nat.zero_le _) (Nat.zero_le _) ⟨?_, ?_, rfl⟩
          · rw [he]; obtain ⟨f, rfl⟩ : ∃ g, f = g + 1 := ⟨f - 1, by omega⟩; simp [sstp, hc21, zo]
          · rfl
  exact lp8 7 0 _ ⟨rfl, s1_lt hp, rfl⟩
