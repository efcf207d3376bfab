/-- how many below k, and the one that has i before it -/
def scn (P : Nat → Bool) : Nat → Nat
  | 0 => 0
  | k + 1 => scn P k + (if P k then 1 else 0)
def snth (P : Nat → Bool) (i : Int32) : Nat → Option Nat
  | 0 => none
  | k + 1 => match snth P i k with
    | some x => some x
    | none => if P k = true ∧ nI (scn P k) = i then some k else none
theorem scn_le (P : Nat → Bool) : ∀ k, scn P k ≤ k := by
  intro k
  induction k with
  | zero => exact Nat.le_refl _
  | succ k ih => rw [scn]; split <;> omega
theorem snth_up {P : Nat → Bool} {i : Int32} {k x : Nat} (h : snth P i (k + 1) = some x) : ∀ n, k < n → snth P i n = some x := by
  intro n
  induction n with
  | zero => intro hn; omega
  | succ n ih =>
    intro hn
    by_cases e : k = n
    · subst e; exact h
    · rw [snth, ih (by omega)]
theorem snth_hit {P : Nat → Bool} {i : Int32} {k : Nat} (h0 : snth P i k = none) (h1 : P k = true) (h2 : nI (scn P k) = i) (n : Nat) (hn : k < n) : snth P i n = some k := snth_up (by rw [snth, h0]; exact if_pos ⟨h1, h2⟩) n hn
theorem snth_no1 {P : Nat → Bool} {i : Int32} {k : Nat} (h0 : snth P i k = none) (h1 : P k = false) : snth P i (k + 1) = none := by rw [snth, h0]; exact if_neg (fun z => by rw [h1] at z; cases z.1)
theorem snth_no2 {P : Nat → Bool} {i : Int32} {k : Nat} (h0 : snth P i k = none) (h2 : ¬ nI (scn P k) = i) : snth P i (k + 1) = none := by rw [snth, h0]; exact if_neg (fun z => h2 z.2)
theorem scn_t {P : Nat → Bool} {k : Nat} (h : P k = true) : scn P (k + 1) = scn P k + 1 := by rw [scn, if_pos h]
theorem scn_f {P : Nat → Bool} {k : Nat} (h : P k = false) : scn P (k + 1) = scn P k := by rw [scn, h]; rfl
theorem snth_some {P : Nat → Bool} {i : Int32} : ∀ k, k < 2147483648 → (snth P i k).isSome = zlt i (scn P k) := by
  intro k
  induction k with
  | zero => intro _; rw [scn, zlt_0]; rfl
  | succ k ih =>
    intro hk
    have ih := ih (by omega)
    have hl := scn_le P k
    cases e : snth P i k with
    | some x =>
      rw [e] at ih
      rw [snth, e]
      have h1 : zlt i (scn P k) = true := ih.symm
      obtain ⟨j, hj, rfl⟩ := zlt_of (by omega) h1
      rw [zlt_nI (by omega)]
      refine (decide_eq_true ?_).symm
      rw [scn]; omega
    | none =>
      rw [e] at ih
      have h1 : zlt i (scn P k) = false := ih.symm
      cases hp : P k with
      | false => rw [snth_no1 e hp, scn_f hp, h1]; rfl
      | true =>
        rw [scn_t hp]
        by_cases q : nI (scn P k) = i
        · rw [snth, e]
          show (if P k = true ∧ nI (scn P k) = i then some k else none).isSome = _
          rw [if_pos ⟨hp, q⟩, ← q, zlt_nI (by omega)]
          exact (decide_eq_true (by omega)).symm
        · rw [snth_no2 e q]
          refine Eq.symm ?_
          show zlt i _ = false
          cases z : zlt i (scn P k + 1) with
          | false => rfl
          | true =>
            obtain ⟨j, hj, rfl⟩ := zlt_of (by omega) z
            rw [zlt_nI (by omega)] at h1
            have := of_decide_eq_false h1
            exact absurd (by rw [show scn P k = j by omega]) q
def sctb (o : Option Nat) (a : Nat) : Bool := match o with
  | some x => decide (sone x 8 ≤ sone a 8)
  | none => false
theorem scut_s (R : Nat → Nat) (here p a : Nat) : scut R here p (a + 1) = (if (a.testBit here || a.testBit p || sctb (scut R here p a) a) = true then scut R here p a else if sStp R here p (a ^^^ 127) = none then some a else scut R here p a) := by
  rw [scut]; rfl
def sPf (R F : Nat → Nat) (s : Nat) : Nat → Bool := fun k => sfit R F s (k / 4) (k % 4)
theorem scn_fit (R F : Nat → Nat) (s : Nat) : ∀ m, scn (sPf R F s) (4 * m) = sfs R F s m := by
  intro m
  induction m with
  | zero => rfl
  | succ m ih =>
    have h : ∀ q, q ≤ 4 → scn (sPf R F s) (4 * m + q) = sfs R F s m + sfi R F s m q := by
      intro q
      induction q with
      | zero => intro _; exact ih
      | succ q ihq =>
        intro hq
        rw [← Nat.add_assoc, scn, ihq (by omega), sfi]
        show _ + (if sfit R F s ((4 * m + q) / 4) ((4 * m + q) % 4) = true then 1 else 0) = _
        rw [show (4 * m + q) / 4 = m by omega, show (4 * m + q) % 4 = q by omega, Nat.add_assoc]
    rw [show 4 * (m + 1) = 4 * m + 4 by omega, h 4 (by omega), sfs]
def aFitAt (R F : Nat → Nat) (s i : Int32) : Int32 × Int32 := if zlt s (R 5) then (match snth (sPf R F (pn s)) i (4 * R 3) with
  | some k => (nI (10 * (k / 4) + k % 4), 0)
  | none => (-1, 1)) else (-1, 1)
def aSize (R S : Nat → Nat) (w un im tp : Int32) : Int32 := if zlt w 8 then nI (R (pn w)) else if w = nI 8 then nI (S 39) else if w = nI 9 then un else if w = nI 10 then im else if w = nI 11 then tp else -1
def sNo (R S : Nat → Nat) : Nat → Bool := fun k => decide (sstd R S k = none)
def aLed (R S : Nat → Nat) (i : Int32) : Option Nat := snth (sNo R S) i (R 4)
def sLow (a b : Nat) (lo : Bool) : Int64 := lN ((if lo then b else a) / Nat.gcd a b)
def aWl (a b : Bool) (x : Int64) : Int64 × Int32 := if swhy a b = 0 then (x, 0) else (-1, nI (swhy a b))
def sDead (R : Nat → Nat) (n : Nat) : Nat := 100 ^ n - (100 - R 0) ^ n
def aBre (R : Nat → Nat) (k n : Int32) (lo : Bool) : Int64 × Int32 := aWl (zlt k (R 4)) (zlt n 3) (sLow (sDead R (pn n)) (100 ^ pn n) lo)
def aSil (R : Nat → Nat) (n : Int32) (lo : Bool) : Int64 × Int32 := aWl (decide (0 < R 1)) (zlt n 3) (sLow (sDead R (pn n) ^ R 3) ((100 ^ pn n) ^ R 3) lo)
def aMea (R : Nat → Nat) (n : Int32) (lo : Bool) : Int64 × Int32 := aWl (decide (0 < R 1)) (zlt n 3) (sLow (R 4 * sDead R (pn n)) (100 ^ pn n) lo)
theorem sDead_le {R : Nat → Nat} {n : Nat} (hn : n < 3) : sDead R n ≤ 10000 ∧ 100 ^ n ≤ 10000 ∧ 0 < 100 ^ n := by
  have h : 100 ^ n ≤ 10000 := Nat.le_trans (Nat.pow_le_pow_right (by decide) (show n ≤ 2 by omega)) (by decide)
  exact ⟨Nat.le_trans (Nat.sub_le _ _) h, h, Nat.pow_pos (by decide)⟩
theorem sDead_p {a n : Nat} (ha : a ≤ 10000) (hn : n ≤ 4) : a ^ n ≤ 10000000000000000 := Nat.le_trans (Nat.pow_le_pow_left ha n) (Nat.le_trans (Nat.pow_le_pow_right (by decide) hn) (by decide))

set_option maxRecDepth 20000 in
set_option maxHeartbeats 1000000 in
theorem tX12_surely {h : ZH} {v : Nat → Int32} {R S F : Nat → Nat} {b : Bool} {s : Int32} (hM : h 1063 = some (zO 8 (mfs v))) (hA : h 1066 = some (zI 241 R)) (hB : h 1070 = some (zI 40 S)) (hG : h 1068 = some (zI 40 F)) (hR : wfR R) (hS : wfS R S) (hT : wfS R F) (hF : v 14 = zb b) (hb : wfB b R) : ZD mX12_surely 4 [.ref 1063, .int s] h (some (.int (aSure R F s).1)) (zup h 1063 (zO 8 (mfs (mv v (aSure R F s).2)))) := by
  intro n
  obtain ⟨w1, w3, w4, w5, w0, wP, wM, wK, wX⟩ := id hR
  obtain ⟨wT, wL, wB⟩ := id hS
  refine z_enter (lv := [(0, _), (1, _)]) (by decide) (Nat.le_of_ble_eq_true rfl) rfl (fun X C => ?_)
  refine z_aload_n (pc := 0) C dX12_surely_0 0 rfl ?_
  refine z_cV0 (pc := 1) mX12_good C [] dX12_surely_1 lX12_167 mtX12_good (tX12_good (by first | assumption | omega)) (by assumption) rfl rfl (by decide) (Nat.le_of_ble_eq_true rfl) (Nat.zero_le _) (Nat.zero_le _) ?_
  have hM1 : zup h 1063 (zO 8 (mfs (upd (upd v 0 0) 11 0))) 1063 = some (zO 8 (mfs (upd (upd v 0 0) 11 0))) := zup_same _ _ _
  have hA1 : zup h 1063 (zO 8 (mfs (upd (upd v 0 0) 11 0))) 1066 = some (zI 241 R) := (zup_ne (by decide)).trans hA
  have hB1 : zup h 1063 (zO 8 (mfs (upd (upd v 0 0) 11 0))) 1070 = some (zI 40 S) := (zup_ne (by decide)).trans hB
  have hG1 : zup h 1063 (zO 8 (mfs (upd (upd v 0 0) 11 0))) 1068 = some (zI 40 F) := (zup_ne (by decide)).trans hG
  have hF1 : upd (upd v 0 0) 11 0 14 = zb b := hF
  generalize hg : zup h 1063 (zO 8 (mfs (upd (upd v 0 0) 11 0))) = h1 at hM1 hA1 hB1 hG1 ⊢
  refine z_aload_n (pc := 4) C dX12_surely_4 0 rfl ?_
  refine z_iload_n (pc := 5) C dX12_surely_5 1 rfl ?_
  refine z_cV1 (pc := 6) mX12_isStray C [_] dX12_surely_6 lX12_358 mtX12_isStray (tX12_isStray (by first | assumption | omega) (by first | assumption | omega) (by first | assumption | omega) (by first | assumption | omega)) (by assumption) rfl rfl (by decide) (Nat.le_of_ble_eq_true rfl) (Nat.zero_le _) (Nat.zero_le _) ?_
  rw [wfB_s hb s]
  first | refine z_ifneB (pc := 9) C 18 dX12_surely_9 (by decide) (fun hc9 => ?_) (fun hc9 => ?_) | refine z_ifneN (pc := 9) C 18 dX12_surely_9 (by decide) (by omega) (fun hc9 => ?_) (fun hc9 => ?_) | refine z_if_ne (pc := 9) C 18 dX12_surely_9 (by decide) (fun hc9 => ?_) (fun hc9 => ?_)
  · skip
    obtain ⟨j, hj, rfl⟩ := zlt_of (by omega) hc9
    have pj := pn_nI (j := j) (by omega)
    refine z_iconst (pc := 18) C dX12_surely_18 (nI 0) (by decide) ?_
    refine z_istore_n (pc := 19) (lv' := [(2, _), (0, _), (1, _)]) C dX12_surely_19 (by decide) rfl ?_
    refine z_sub (lv' := [(0, _), (1, _), (2, _)]) [1, 2, 0] rfl ?_
    have lp20 : ∀ (f : Nat) (k : Nat), (k + f = R 3 ∧ sfst (fun m => decide (0 < sfi R F j m 4) && decide (sfi R F j m 4 = sfs R F j (R 3))) (R 3) 0 = sfst (fun m => decide (0 < sfi R F j m 4) && decide (sfi R F j m 4 = sfs R F j (R 3))) f k) → Zc X mX12_surely (zEnd X (fun r hh n' => r = (some (.int (aSure R F (nI j)).1)) ∧ hh = (zup h 1063 (zO 8 (mfs (mv v (aSure R F (nI j)).2)))) ∧ n' = n) 0 0) 20 [(0, .ref 1063), (1, .int (nI j)), (2, .int (nI k))] [] h1 n 0 0 := by
      intro f
      induction f using Nat.strongRecOn with
      | _ f ih =>
        intro k hk
        obtain ⟨hk, he⟩ := hk
        refine z_iload_n (pc := 20) C dX12_surely_20 2 rfl ?_
        refine z_aload_n (pc := 21) C dX12_surely_21 0 rfl ?_
        refine z_getf (pc := 22) C dX12_surely_22 fX12_20 (by assumption) (by first | rfl | assumption) ?_
        refine z_iconst (pc := 25) C dX12_surely_25 (nI 3) (by decide) ?_
        first | refine z_ialdN (pc := 26) C dX12_surely_26 (by assumption) (by omega) (by decide) ?_ | refine z_ialdI (pc := 26) C dX12_surely_26 (by assumption) (by omega) (by decide) ?_
        first | refine z_icmpgeN (pc := 27) C 62 dX12_surely_27 (by decide) (by omega) (by omega) (fun hc27 => ?_) (fun hc27 => ?_) | refine z_icmp_ge (pc := 27) C 62 dX12_surely_27 (by decide) (fun hc27 => ?_) (fun hc27 => ?_)
        · skip
          refine z_bipush (pc := 62) C dX12_surely_62 (-2) (by decide) ?_
          refine z_iret (pc := 64) C dX12_surely_64 rfl (Nat.zero_le _) (Nat.zero_le _) ⟨?_, ?_, rfl⟩
          · simp only [aSure, aS, zlt_nI (show j < 2147483648 by omega), hj, decide_true, if_true, pj]; rw [he]; obtain rfl : f = 0 := (by omega); rfl
          · first | exact mz0 hg (by simp [aSure, aS, *]) | exact mz1 hg (by simp [aSure, aS, *] <;> rfl)
        · skip
          refine z_aload_n (pc := 30) C dX12_surely_30 0 rfl ?_
          refine z_iload_n (pc := 31) C dX12_surely_31 1 rfl ?_
          refine z_iload_n (pc := 32) C dX12_surely_32 2 rfl ?_
          refine z_top (show nI k = zm (some k) from rfl) ?_
          refine z_cV1 (pc := 33) mX12_fitting C [_, _] dX12_surely_33 lX12_361 mtX12_fitting (tX12_fitting hM1 hA1 hG1 hR hT hj (fun z hz => by cases hz; omega)) (by assumption) rfl rfl (by decide) (Nat.le_of_ble_eq_true rfl) (Nat.zero_le _) (Nat.zero_le _) ?_
          rw [sfq_s, if_pos (show k < R 3 by omega)]
          have e4 := sfi_le R F j k 4
          first | refine z_ifleN (pc := 36) C 56 dX12_surely_36 (by decide) (by omega) (fun hc36 => ?_) (fun hc36 => ?_) | refine z_if_le (pc := 36) C 56 dX12_surely_36 (by decide) (fun hc36 => ?_) (fun hc36 => ?_)
          · skip
            have e5 : (fun m => decide (0 < sfi R F j m 4) && decide (sfi R F j m 4 = sfs R F j (R 3))) k = false := by simp [hc36]
            first | refine z_iincN (pc := 56) (lv' := [(2, _), (0, _), (1, _)]) C 1 dX12_surely_56 2 rfl (by decide) (by decide) rfl ?_ | refine z_iinc (pc := 56) (lv' := [(2, _), (0, _), (1, _)]) C dX12_surely_56 2 rfl _ rfl (by decide) rfl ?_
            refine z_goto (pc := 59) C 20 dX12_surely_59 (by decide) ?_
            refine z_sub (lv' := [(0, _), (1, _), (2, _)]) [1, 2, 0] rfl ?_
            exact ih (f - 1) (by omega) (k + 1) ⟨by omega, by rw [he]; obtain ⟨f, rfl⟩ : ∃ g, f = g + 1 := ⟨f - 1, by omega⟩; rw [sfst, if_neg (fun z => absurd (e5.symm.trans z) (by decide))]; rfl⟩
          · skip
            refine z_aload_n (pc := 39) C dX12_surely_39 0 rfl ?_
            refine z_iload_n (pc := 40) C dX12_surely_40 1 rfl ?_
            refine z_iload_n (pc := 41) C dX12_surely_41 2 rfl ?_
            refine z_top (show nI k = zm (some k) from rfl) ?_
            refine z_cV1 (pc := 42) mX12_fitting C [_, _] dX12_surely_42 lX12_361 mtX12_fitting (tX12_fitting hM1 hA1 hG1 hR hT hj (fun z hz => by cases hz; omega)) (by assumption) rfl rfl (by decide) (Nat.le_of_ble_eq_true rfl) (Nat.zero_le _) (Nat.zero_le _) ?_
            rw [sfq_s, if_pos (show k < R 3 by omega)]
            refine z_aload_n (pc := 45) C dX12_surely_45 0 rfl ?_
            refine z_iload_n (pc := 46) C dX12_surely_46 1 rfl ?_
            refine z_iconst (pc := 47) C dX12_surely_47 (zm none) (by decide) ?_
            refine z_cV1 (pc := 48) mX12_fitting C [_, _] dX12_surely_48 lX12_361 mtX12_fitting (tX12_fitting hM1 hA1 hG1 hR hT hj (fun z hz => by cases hz)) (by assumption) rfl rfl (by decide) (Nat.le_of_ble_eq_true rfl) (Nat.zero_le _) (Nat.zero_le _) ?_
            rw [sfq_n]
            have e3 := sfs_le R F j (R 3)
            first | refine z_icmpneN (pc := 51) C 56 dX12_surely_51 (by decide) (by omega) (by omega) (fun hc51 => ?_) (fun hc51 => ?_) | refine z_icmp_ne (pc := 51) C 56 dX12_surely_51 (by decide) (fun hc51 => ?_) (fun hc51 => ?_)
            · skip
              have e5 : (fun m => decide (0 < sfi R F j m 4) && decide (sfi R F j m 4 = sfs R F j (R 3))) k = false := by simp [hc51]
              first | refine z_iincN (pc := 56) (lv' := [(2, _), (0, _), (1, _)]) C 1 dX12_surely_56 2 rfl (by decide) (by decide) rfl ?_ | refine z_iinc (pc := 56) (lv' := [(2, _), (0, _), (1, _)]) C dX12_surely_56 2 rfl _ rfl (by decide) rfl ?_
              refine z_goto (pc := 59) C 20 dX12_surely_59 (by decide) ?_
              refine z_sub (lv' := [(0, _), (1, _), (2, _)]) [1, 2, 0] rfl ?_
              exact ih (f - 1) (by omega) (k + 1) ⟨by omega, by rw [he]; obtain ⟨f, rfl⟩ : ∃ g, f = g + 1 := ⟨f - 1, by omega⟩; rw [sfst, if_neg (fun z => absurd (e5.symm.trans z) (by decide))]; rfl⟩
            · skip
              have e5 : (fun m => decide (0 < sfi R F j m 4) && decide (sfi R F j m 4 = sfs R F j (R 3))) k = true := by show (decide _ && decide _) = true; rw [decide_eq_true hc36, decide_eq_true hc51]; rfl
              refine z_iload_n (pc := 54) C dX12_surely_54 2 rfl ?_
              refine z_iret (pc := 55) C dX12_surely_55 rfl (Nat.zero_le _) (Nat.zero_le _) ⟨?_, ?_, rfl⟩
              · simp only [aSure, aS, zlt_nI (show j < 2147483648 by omega), hj, decide_true, if_true, pj]; rw [he]; obtain ⟨f, rfl⟩ : ∃ g, f = g + 1 := ⟨f - 1, by omega⟩; rw [sfst, if_pos e5]; rfl
              · first | exact mz0 hg (by simp [aSure, aS, *]) | exact mz1 hg (by simp [aSure, aS, *] <;> rfl)
    exact lp20 (R 3) 0 ⟨by omega, rfl⟩
  · skip
    refine z_aload_n (pc := 12) C dX12_surely_12 0 rfl ?_
    refine z_iconst (pc := 13) C dX12_surely_13 (nI 1) (by decide) ?_
    refine z_cV1 (pc := 14) mX12_no C [_] dX12_surely_14 lX12_170 mtX12_no (tX12_no (by first | assumption | omega)) (by assumption) rfl rfl (by decide) (Nat.le_of_ble_eq_true rfl) (Nat.zero_le _) (Nat.zero_le _) ?_
    refine z_iret (pc := 17) C dX12_surely_17 rfl (Nat.zero_le _) (Nat.zero_le _) ⟨?_, ?_, rfl⟩
    · simp [aSure, aS, *]
    · first | exact mz0 hg (by simp [aSure, aS, *]) | exact mz1 hg (by simp [aSure, aS, *] <;> rfl)

set_option maxRecDepth 20000 in
set_option maxHeartbeats 1000000 in
theorem tX12_fitAt {h : ZH} {v : Nat → Int32} {R S F : Nat → Nat} {b : Bool} {s i : Int32} (hM : h 1063 = some (zO 8 (mfs v))) (hA : h 1066 = some (zI 241 R)) (hB : h 1070 = some (zI 40 S)) (hG : h 1068 = some (zI 40 F)) (hR : wfR R) (hS : wfS R S) (hT : wfS R F) (hF : v 14 = zb b) (hb : wfB b R) : ZD mX12_fitAt 3 [.ref 1063, .int s, .int i] h (some (.int (aFitAt R F s i).1)) (zup h 1063 (zO 8 (mfs (mv v (aFitAt R F s i).2)))) := by
  intro n
  obtain ⟨w1, w3, w4, w5, w0, wP, wM, wK, wX⟩ := id hR
  obtain ⟨wT, wL, wB⟩ := id hS
  refine z_enter (lv := [(0, _), (1, _), (2, _)]) (by decide) (Nat.le_of_ble_eq_true rfl) rfl (fun X C => ?_)
  refine z_aload_n (pc := 0) C dX12_fitAt_0 0 rfl ?_
  refine z_cV0 (pc := 1) mX12_good C [] dX12_fitAt_1 lX12_167 mtX12_good (tX12_good (by first | assumption | omega)) (by assumption) rfl rfl (by decide) (Nat.le_of_ble_eq_true rfl) (Nat.zero_le _) (Nat.zero_le _) ?_
  have hM1 : zup h 1063 (zO 8 (mfs (upd (upd v 0 0) 11 0))) 1063 = some (zO 8 (mfs (upd (upd v 0 0) 11 0))) := zup_same _ _ _
  have hA1 : zup h 1063 (zO 8 (mfs (upd (upd v 0 0) 11 0))) 1066 = some (zI 241 R) := (zup_ne (by decide)).trans hA
  have hB1 : zup h 1063 (zO 8 (mfs (upd (upd v 0 0) 11 0))) 1070 = some (zI 40 S) := (zup_ne (by decide)).trans hB
  have hG1 : zup h 1063 (zO 8 (mfs (upd (upd v 0 0) 11 0))) 1068 = some (zI 40 F) := (zup_ne (by decide)).trans hG
  have hF1 : upd (upd v 0 0) 11 0 14 = zb b := hF
  generalize hg : zup h 1063 (zO 8 (mfs (upd (upd v 0 0) 11 0))) = h1 at hM1 hA1 hB1 hG1 ⊢
  refine z_aload_n (pc := 4) C dX12_fitAt_4 0 rfl ?_
  refine z_iload_n (pc := 5) C dX12_fitAt_5 1 rfl ?_
  refine z_cV1 (pc := 6) mX12_isStray C [_] dX12_fitAt_6 lX12_358 mtX12_isStray (tX12_isStray (by first | assumption | omega) (by first | assumption | omega) (by first | assumption | omega) (by first | assumption | omega)) (by assumption) rfl rfl (by decide) (Nat.le_of_ble_eq_true rfl) (Nat.zero_le _) (Nat.zero_le _) ?_
  rw [wfB_s hb s]
  first | refine z_ifneB (pc := 9) C 18 dX12_fitAt_9 (by decide) (fun hc9 => ?_) (fun hc9 => ?_) | refine z_ifneN (pc := 9) C 18 dX12_fitAt_9 (by decide) (by omega) (fun hc9 => ?_) (fun hc9 => ?_) | refine z_if_ne (pc := 9) C 18 dX12_fitAt_9 (by decide) (fun hc9 => ?_) (fun hc9 => ?_)
  · skip
    obtain ⟨j, hj, rfl⟩ := zlt_of (by omega) hc9
    have pj := pn_nI (j := j) (by omega)
    refine z_iconst (pc := 18) C dX12_fitAt_18 (nI 0) (by decide) ?_
    refine z_istore_n (pc := 19) (lv' := [(3, _), (0, _), (1, _), (2, _)]) C dX12_fitAt_19 (by decide) rfl ?_
    refine z_iconst (pc := 20) C dX12_fitAt_20 (nI 0) (by decide) ?_
    refine z_istore (pc := 21) (lv' := [(4, _), (3, _), (0, _), (1, _), (2, _)]) C dX12_fitAt_21 (by decide) rfl ?_
    refine z_sub (lv' := [(0, _), (1, _), (2, _), (3, _), (4, _)]) [2, 3, 4, 1, 0] rfl ?_
    have lp23 : ∀ (f : Nat) (k : Nat), (k + f = 4 * R 3 ∧ snth (sPf R F j) i k = none) → Zc X mX12_fitAt (zEnd X (fun r hh n' => r = (some (.int (aFitAt R F (nI j) i).1)) ∧ hh = (zup h 1063 (zO 8 (mfs (mv v (aFitAt R F (nI j) i).2)))) ∧ n' = n) 0 0) 23 [(0, .ref 1063), (1, .int (nI j)), (2, .int i), (3, .int (nI (scn (sPf R F j) k))), (4, .int (nI k))] [] h1 n 0 0 := by
      intro f
      induction f using Nat.strongRecOn with
      | _ f ih =>
        intro k hk
        obtain ⟨hk, he⟩ := hk
        refine z_iload (pc := 23) C dX12_fitAt_23 4 rfl ?_
        refine z_iconst (pc := 25) C dX12_fitAt_25 (nI 4) (by decide) ?_
        refine z_aload_n (pc := 26) C dX12_fitAt_26 0 rfl ?_
        refine z_getf (pc := 27) C dX12_fitAt_27 fX12_20 (by assumption) (by first | rfl | assumption) ?_
        refine z_iconst (pc := 30) C dX12_fitAt_30 (nI 3) (by decide) ?_
        first | refine z_ialdN (pc := 31) C dX12_fitAt_31 (by assumption) (by omega) (by decide) ?_ | refine z_ialdI (pc := 31) C dX12_fitAt_31 (by assumption) (by omega) (by decide) ?_
        first | refine z_imulN (pc := 32) C dX12_fitAt_32 ?_ | refine z_imul (pc := 32) C dX12_fitAt_32 ?_
        first | refine z_icmpgeN (pc := 33) C 82 dX12_fitAt_33 (by decide) (by omega) (by omega) (fun hc33 => ?_) (fun hc33 => ?_) | refine z_icmp_ge (pc := 33) C 82 dX12_fitAt_33 (by decide) (fun hc33 => ?_) (fun hc33 => ?_)
        · skip
          refine z_aload_n (pc := 82) C dX12_fitAt_82 0 rfl ?_
          refine z_iconst (pc := 83) C dX12_fitAt_83 (nI 1) (by decide) ?_
          refine z_cV1 (pc := 84) mX12_no C [_] dX12_fitAt_84 lX12_170 mtX12_no (tX12_no (by first | assumption | omega)) (by assumption) rfl rfl (by decide) (Nat.le_of_ble_eq_true rfl) (Nat.zero_le _) (Nat.zero_le _) ?_
          refine z_iret (pc := 87) C dX12_fitAt_87 rfl (Nat.zero_le _) (Nat.zero_le _) ⟨?_, ?_, rfl⟩
          · obtain rfl : k = 4 * R 3 := (by omega); simp [aFitAt, *]
          · obtain rfl : k = 4 * R 3 := (by omega); exact mz1 hg (by simp [aFitAt, *] <;> rfl)
        · skip
          refine z_aload_n (pc := 36) C dX12_fitAt_36 0 rfl ?_
          refine z_iload_n (pc := 37) C dX12_fitAt_37 1 rfl ?_
          refine z_iload (pc := 38) C dX12_fitAt_38 4 rfl ?_
          refine z_iconst (pc := 40) C dX12_fitAt_40 (nI 4) (by decide) ?_
          first | refine z_idivN (pc := 41) C dX12_fitAt_41 (by omega) (by omega) (by omega) ?_ | refine z_idiv (pc := 41) C dX12_fitAt_41 (by decide) ?_
          refine z_iload (pc := 42) C dX12_fitAt_42 4 rfl ?_
          refine z_iconst (pc := 44) C dX12_fitAt_44 (nI 4) (by decide) ?_
          first | refine z_iremN (pc := 45) C dX12_fitAt_45 (by omega) (by omega) (by omega) ?_ | refine z_irem (pc := 45) C dX12_fitAt_45 (by decide) ?_
          refine z_cV1 (pc := 46) mX12_doesFit C [_, _, _] dX12_fitAt_46 lX12_355 mtX12_doesFit (tX12_doesFit hM1 hA1 hG1 hR hT hj (by omega) (by omega)) (by assumption) rfl rfl (by decide) (Nat.le_of_ble_eq_true rfl) (Nat.zero_le _) (Nat.zero_le _) ?_
          first | refine z_ifneB (pc := 49) C 55 dX12_fitAt_49 (by decide) (fun hc49 => ?_) (fun hc49 => ?_) | refine z_ifneN (pc := 49) C 55 dX12_fitAt_49 (by decide) (by omega) (fun hc49 => ?_) (fun hc49 => ?_) | refine z_if_ne (pc := 49) C 55 dX12_fitAt_49 (by decide) (fun hc49 => ?_) (fun hc49 => ?_)
          · skip
            have e6 : (sPf R F j) k = true := hc49
            refine z_iload_n (pc := 55) C dX12_fitAt_55 3 rfl ?_
            refine z_iload_n (pc := 56) C dX12_fitAt_56 2 rfl ?_
            refine z_icmp_ne (pc := 57) C 73 dX12_fitAt_57 (by decide) (fun hc57 => ?_) (fun hc57 => ?_)
            · skip
              have e4 := scn_t e6
              have e5 := snth_no2 he hc57
              first | refine z_iincN (pc := 73) (lv' := [(3, _), (0, _), (1, _), (2, _), (4, _)]) C 1 dX12_fitAt_73 3 rfl (by decide) (by decide) rfl ?_ | refine z_iinc (pc := 73) (lv' := [(3, _), (0, _), (1, _), (2, _), (4, _)]) C dX12_fitAt_73 3 rfl _ rfl (by decide) rfl ?_
              first | refine z_iincN (pc := 76) (lv' := [(4, _), (3, _), (0, _), (1, _), (2, _)]) C 1 dX12_fitAt_76 4 rfl (by decide) (by decide) rfl ?_ | refine z_iinc (pc := 76) (lv' := [(4, _), (3, _), (0, _), (1, _), (2, _)]) C dX12_fitAt_76 4 rfl _ rfl (by decide) rfl ?_
              refine z_goto (pc := 79) C 23 dX12_fitAt_79 (by decide) ?_
              refine z_sub (lv' := [(0, _), (1, _), (2, _), (3, _), (4, _)]) [2, 3, 4, 1, 0] rfl ?_
              (rw [← e4]; exact ih (f - 1) (by omega) (k + 1) ⟨by omega, e5⟩)
            · skip
              have e5 := snth_hit he e6 hc57 (4 * R 3) (by omega)
              refine z_bipush (pc := 60) C dX12_fitAt_60 (nI 10) (by decide) ?_
              refine z_iload (pc := 62) C dX12_fitAt_62 4 rfl ?_
              refine z_iconst (pc := 64) C dX12_fitAt_64 (nI 4) (by decide) ?_
              first | refine z_idivN (pc := 65) C dX12_fitAt_65 (by omega) (by omega) (by omega) ?_ | refine z_idiv (pc := 65) C dX12_fitAt_65 (by decide) ?_
              first | refine z_imulN (pc := 66) C dX12_fitAt_66 ?_ | refine z_imul (pc := 66) C dX12_fitAt_66 ?_
              refine z_iload (pc := 67) C dX12_fitAt_67 4 rfl ?_
              refine z_iconst (pc := 69) C dX12_fitAt_69 (nI 4) (by decide) ?_
              first | refine z_iremN (pc := 70) C dX12_fitAt_70 (by omega) (by omega) (by omega) ?_ | refine z_irem (pc := 70) C dX12_fitAt_70 (by decide) ?_
              first | refine z_iaddN (pc := 71) C dX12_fitAt_71 ?_ | refine z_iadd (pc := 71) C dX12_fitAt_71 ?_
              refine z_iret (pc := 72) C dX12_fitAt_72 rfl (Nat.zero_le _) (Nat.zero_le _) ⟨?_, ?_, rfl⟩
              · simp [aFitAt, *]
              · first | exact mz0 hg (by simp [aFitAt, *]) | exact mz1 hg (by simp [aFitAt, *] <;> rfl)
          · skip
            have e6 : (sPf R F j) k = false := hc49
            have e4 := scn_f e6
            have e5 := snth_no1 he e6
            refine z_goto (pc := 52) C 76 dX12_fitAt_52 (by decide) ?_
            first | refine z_iincN (pc := 76) (lv' := [(4, _), (0, _), (1, _), (2, _), (3, _)]) C 1 dX12_fitAt_76 4 rfl (by decide) (by decide) rfl ?_ | refine z_iinc (pc := 76) (lv' := [(4, _), (0, _), (1, _), (2, _), (3, _)]) C dX12_fitAt_76 4 rfl _ rfl (by decide) rfl ?_
            refine z_goto (pc := 79) C 23 dX12_fitAt_79 (by decide) ?_
            refine z_sub (lv' := [(0, _), (1, _), (2, _), (3, _), (4, _)]) [1, 2, 3, 4, 0] rfl ?_
            (rw [← e4]; exact ih (f - 1) (by omega) (k + 1) ⟨by omega, e5⟩)
    exact lp23 (4 * R 3) 0 ⟨by omega, rfl⟩
  · skip
    refine z_aload_n (pc := 12) C dX12_fitAt_12 0 rfl ?_
    refine z_iconst (pc := 13) C dX12_fitAt_13 (nI 1) (by decide) ?_
    refine z_cV1 (pc := 14) mX12_no C [_] dX12_fitAt_14 lX12_170 mtX12_no (tX12_no (by first | assumption | omega)) (by assumption) rfl rfl (by decide) (Nat.le_of_ble_eq_true rfl) (Nat.zero_le _) (Nat.zero_le _) ?_
    refine z_iret (pc := 17) C dX12_fitAt_17 rfl (Nat.zero_le _) (Nat.zero_le _) ⟨?_, ?_, rfl⟩
    · simp [aFitAt, *]
    · exact mz1 hg (by simp [aFitAt, *] <;> rfl)

set_option maxRecDepth 20000 in
set_option maxHeartbeats 1000000 in
theorem tX12_cut {h : ZH} {v : Nat → Int32} {R S : Nat → Nat} {b : Bool} {m p : Int32} (hM : h 1063 = some (zO 8 (mfs v))) (hA : h 1066 = some (zI 241 R)) (hB : h 1070 = some (zI 40 S)) (hR : wfR R) (hS : wfS R S) (hF : v 14 = zb b) (hb : wfB b R) : ZD mX12_cut 3 [.ref 1063, .int m, .int p] h (some (.int (aCut R S m p).1)) (zup h 1063 (zO 8 (mfs (mv v (aCut R S m p).2)))) := by
  intro n
  obtain ⟨w1, w3, w4, w5, w0, wP, wM, wK, wX⟩ := id hR
  obtain ⟨wT, wL, wB⟩ := id hS
  refine z_enter (lv := [(0, _), (1, _), (2, _)]) (by decide) (Nat.le_of_ble_eq_true rfl) rfl (fun X C => ?_)
  refine z_aload_n (pc := 0) C dX12_cut_0 0 rfl ?_
  refine z_cV0 (pc := 1) mX12_good C [] dX12_cut_1 lX12_167 mtX12_good (tX12_good (by first | assumption | omega)) (by assumption) rfl rfl (by decide) (Nat.le_of_ble_eq_true rfl) (Nat.zero_le _) (Nat.zero_le _) ?_
  have hM1 : zup h 1063 (zO 8 (mfs (upd (upd v 0 0) 11 0))) 1063 = some (zO 8 (mfs (upd (upd v 0 0) 11 0))) := zup_same _ _ _
  have hA1 : zup h 1063 (zO 8 (mfs (upd (upd v 0 0) 11 0))) 1066 = some (zI 241 R) := (zup_ne (by decide)).trans hA
  have hB1 : zup h 1063 (zO 8 (mfs (upd (upd v 0 0) 11 0))) 1070 = some (zI 40 S) := (zup_ne (by decide)).trans hB
  have hF1 : upd (upd v 0 0) 11 0 14 = zb b := hF
  generalize hg : zup h 1063 (zO 8 (mfs (upd (upd v 0 0) 11 0))) = h1 at hM1 hA1 hB1 ⊢
  refine z_aload_n (pc := 4) C dX12_cut_4 0 rfl ?_
  refine z_iload_n (pc := 5) C dX12_cut_5 1 rfl ?_
  refine z_cV1 (pc := 6) mX12_isMan C [_] dX12_cut_6 lX12_288 mtX12_isMan (tX12_isMan (by first | assumption | omega) (by first | assumption | omega) (by first | assumption | omega) (by first | assumption | omega)) (by assumption) rfl rfl (by decide) (Nat.le_of_ble_eq_true rfl) (Nat.zero_le _) (Nat.zero_le _) ?_
  rw [wfB_m hb m]
  first | refine z_ifeqB (pc := 9) C 20 dX12_cut_9 (by decide) (fun hc9 => ?_) (fun hc9 => ?_) | refine z_ifeqN (pc := 9) C 20 dX12_cut_9 (by decide) (by omega) (fun hc9 => ?_) (fun hc9 => ?_) | refine z_if_eq (pc := 9) C 20 dX12_cut_9 (by decide) (fun hc9 => ?_) (fun hc9 => ?_)
  · skip
    refine z_aload_n (pc := 20) C dX12_cut_20 0 rfl ?_
    refine z_iconst (pc := 21) C dX12_cut_21 (nI 1) (by decide) ?_
    refine z_cV1 (pc := 22) mX12_no C [_] dX12_cut_22 lX12_170 mtX12_no (tX12_no (by first | assumption | omega)) (by assumption) rfl rfl (by decide) (Nat.le_of_ble_eq_true rfl) (Nat.zero_le _) (Nat.zero_le _) ?_
    refine z_iret (pc := 25) C dX12_cut_25 rfl (Nat.zero_le _) (Nat.zero_le _) ⟨?_, ?_, rfl⟩
    · simp [aCut, aMP, *]
    · first | exact mz0 hg (by simp [aCut, aMP, *]) | exact mz1 hg (by simp [aCut, aMP, *] <;> rfl)
  · skip
    refine z_aload_n (pc := 12) C dX12_cut_12 0 rfl ?_
    refine z_iload_n (pc := 13) C dX12_cut_13 2 rfl ?_
    refine z_cV1 (pc := 14) mX12_isPlace C [_] dX12_cut_14 lX12_279 mtX12_isPlace (tX12_isPlace (by first | assumption | omega) (by first | assumption | omega) (by first | assumption | omega) (by first | assumption | omega)) (by assumption) rfl rfl (by decide) (Nat.le_of_ble_eq_true rfl) (Nat.zero_le _) (Nat.zero_le _) ?_
    rw [wfB_p hb p]
    first | refine z_ifneB (pc := 17) C 26 dX12_cut_17 (by decide) (fun hc17 => ?_) (fun hc17 => ?_) | refine z_ifneN (pc := 17) C 26 dX12_cut_17 (by decide) (by omega) (fun hc17 => ?_) (fun hc17 => ?_) | refine z_if_ne (pc := 17) C 26 dX12_cut_17 (by decide) (fun hc17 => ?_) (fun hc17 => ?_)
    · skip
      obtain ⟨j, hj, rfl⟩ := zlt_of (by omega) hc9
      have pj := pn_nI (j := j) (by omega)
      obtain ⟨i, hi, rfl⟩ := zlt_of (by omega) hc17
      have pi := pn_nI (j := i) (by omega)
      have e1 : S (8 * j) < R 1 := wT j hj 0 (by omega)
      have s4 := sall_lt w1
      refine z_aload_n (pc := 26) C dX12_cut_26 0 rfl ?_
      refine z_getf (pc := 27) C dX12_cut_27 fX12_32 (by assumption) (by first | rfl | assumption) ?_
      refine z_bipush (pc := 30) C dX12_cut_30 (nI 8) (by decide) ?_
      refine z_iload_n (pc := 32) C dX12_cut_32 1 rfl ?_
      first | refine z_imulN (pc := 33) C dX12_cut_33 ?_ | refine z_imul (pc := 33) C dX12_cut_33 ?_
      first | refine z_ialdN (pc := 34) C dX12_cut_34 (by assumption) (by omega) (by decide) ?_ | refine z_ialdI (pc := 34) C dX12_cut_34 (by assumption) (by omega) (by decide) ?_
      refine z_istore_n (pc := 35) (lv' := [(3, _), (0, _), (1, _), (2, _)]) C dX12_cut_35 (by decide) rfl ?_
      refine z_bipush (pc := 36) C dX12_cut_36 (zo none) (by decide) ?_
      refine z_istore (pc := 38) (lv' := [(4, _), (3, _), (0, _), (1, _), (2, _)]) C dX12_cut_38 (by decide) rfl ?_
      refine z_iconst (pc := 40) C dX12_cut_40 (nI 0) (by decide) ?_
      refine z_istore (pc := 41) (lv' := [(5, _), (4, _), (3, _), (0, _), (1, _), (2, _)]) C dX12_cut_41 (by decide) rfl ?_
      refine z_sub (lv' := [(0, _), (1, _), (2, _), (3, _), (4, _), (5, _)]) [3, 4, 5, 2, 1, 0] rfl ?_
      have lp43 : ∀ (f : Nat) (k : Nat) (t : Option Nat), (k + f = 1 <<< R 1 ∧ t = scut R (S (8 * j)) i k) → Zc X mX12_cut (zEnd X (fun r hh n' => r = (some (.int (aCut R S (nI j) (nI i)).1)) ∧ hh = (zup h 1063 (zO 8 (mfs (mv v (aCut R S (nI j) (nI i)).2)))) ∧ n' = n) 0 0) 43 [(0, .ref 1063), (1, .int (nI j)), (2, .int (nI i)), (3, .int (nI (S (8 * j)))), (4, .int (zo t)), (5, .int (nI k))] [] h1 n 0 0 := by
        intro f
        induction f using Nat.strongRecOn with
        | _ f ih =>
          intro k t hk
          obtain ⟨hk, he⟩ := hk
          have e8 : ∀ x, t = some x → x < k := fun x hx => scut_lt _ _ _ _ _ (by rw [← he]; exact hx)
          have e3 := sone_le k 8
          refine z_iload (pc := 43) C dX12_cut_43 5 rfl ?_
          refine z_iconst (pc := 45) C dX12_cut_45 (nI 1) (by decide) ?_
          refine z_aload_n (pc := 46) C dX12_cut_46 0 rfl ?_
          refine z_getf (pc := 47) C dX12_cut_47 fX12_20 (by assumption) (by first | rfl | assumption) ?_
          refine z_iconst (pc := 50) C dX12_cut_50 (nI 1) (by decide) ?_
          first | refine z_ialdN (pc := 51) C dX12_cut_51 (by assumption) (by omega) (by decide) ?_ | refine z_ialdI (pc := 51) C dX12_cut_51 (by assumption) (by omega) (by decide) ?_
          first | refine z_ishlN (pc := 52) C dX12_cut_52 (by omega) ?_ | refine z_ishl (pc := 52) C dX12_cut_52 ?_
          first | refine z_icmpgeN (pc := 53) C 116 dX12_cut_53 (by decide) (by omega) (by omega) (fun hc53 => ?_) (fun hc53 => ?_) | refine z_icmp_ge (pc := 53) C 116 dX12_cut_53 (by decide) (fun hc53 => ?_) (fun hc53 => ?_)
          · skip
            refine z_iload (pc := 116) C dX12_cut_116 4 rfl ?_
            refine z_iret (pc := 118) C dX12_cut_118 rfl (Nat.zero_le _) (Nat.zero_le _) ⟨?_, ?_, rfl⟩
            · obtain rfl : f = 0 := (by omega); obtain rfl : k = 1 <<< R 1 := (by omega); simp [aCut, aMP, *]
            · first | exact mz0 hg (by simp [aCut, aMP, *]) | exact mz1 hg (by simp [aCut, aMP, *] <;> rfl)
          · skip
            refine z_iload (pc := 56) C dX12_cut_56 5 rfl ?_
            refine z_iload_n (pc := 58) C dX12_cut_58 3 rfl ?_
            refine z_cS1 (pc := 59) mX12_hasBit C [_, _] dX12_cut_59 lX12_236 mtX12_hasBit (tX12_hasBit (by first | assumption | omega) (by first | assumption | omega)) rfl rfl (by decide) (Nat.le_of_ble_eq_true rfl) (Nat.zero_le _) (Nat.zero_le _) ?_
            first | refine z_ifneB (pc := 62) C 110 dX12_cut_62 (by decide) (fun hc62 => ?_) (fun hc62 => ?_) | refine z_ifneN (pc := 62) C 110 dX12_cut_62 (by decide) (by omega) (fun hc62 => ?_) (fun hc62 => ?_) | refine z_if_ne (pc := 62) C 110 dX12_cut_62 (by decide) (fun hc62 => ?_) (fun hc62 => ?_)
            · skip
              have e5 : t = scut R (S (8 * j)) i (k + 1) := by rw [scut_s, hc62]; exact he
              first | refine z_iincN (pc := 110) (lv' := [(5, _), (0, _), (1, _), (2, _), (3, _), (4, _)]) C 1 dX12_cut_110 5 rfl (by decide) (by decide) rfl ?_ | refine z_iinc (pc := 110) (lv' := [(5, _), (0, _), (1, _), (2, _), (3, _), (4, _)]) C dX12_cut_110 5 rfl _ rfl (by decide) rfl ?_
              refine z_goto (pc := 113) C 43 dX12_cut_113 (by decide) ?_
              refine z_sub (lv' := [(0, _), (1, _), (2, _), (3, _), (4, _), (5, _)]) [1, 2, 3, 4, 5, 0] rfl ?_
              first | exact ih (f - 1) (by omega) (k + 1) _ ⟨by omega, e5⟩ | (refine ih (f - 1) (by omega) (k + 1) _ ⟨by omega, ?_⟩; obtain ⟨y, hy⟩ := hc103; rw [scut_s, hc62, hc71, ← he, e6, hy]; first | rfl | (rw [hx]; rfl))
            · skip
              refine z_iload (pc := 65) C dX12_cut_65 5 rfl ?_
              refine z_iload_n (pc := 67) C dX12_cut_67 2 rfl ?_
              refine z_cS1 (pc := 68) mX12_hasBit C [_, _] dX12_cut_68 lX12_236 mtX12_hasBit (tX12_hasBit (by first | assumption | omega) (by first | assumption | omega)) rfl rfl (by decide) (Nat.le_of_ble_eq_true rfl) (Nat.zero_le _) (Nat.zero_le _) ?_
              first | refine z_ifneB (pc := 71) C 110 dX12_cut_71 (by decide) (fun hc71 => ?_) (fun hc71 => ?_) | refine z_ifneN (pc := 71) C 110 dX12_cut_71 (by decide) (by omega) (fun hc71 => ?_) (fun hc71 => ?_) | refine z_if_ne (pc := 71) C 110 dX12_cut_71 (by decide) (fun hc71 => ?_) (fun hc71 => ?_)
              · skip
                have e5 : t = scut R (S (8 * j)) i (k + 1) := by rw [scut_s, hc62, hc71]; exact he
                first | refine z_iincN (pc := 110) (lv' := [(5, _), (0, _), (1, _), (2, _), (3, _), (4, _)]) C 1 dX12_cut_110 5 rfl (by decide) (by decide) rfl ?_ | refine z_iinc (pc := 110) (lv' := [(5, _), (0, _), (1, _), (2, _), (3, _), (4, _)]) C dX12_cut_110 5 rfl _ rfl (by decide) rfl ?_
                refine z_goto (pc := 113) C 43 dX12_cut_113 (by decide) ?_
                refine z_sub (lv' := [(0, _), (1, _), (2, _), (3, _), (4, _), (5, _)]) [1, 2, 3, 4, 5, 0] rfl ?_
                first | exact ih (f - 1) (by omega) (k + 1) _ ⟨by omega, e5⟩ | (refine ih (f - 1) (by omega) (k + 1) _ ⟨by omega, ?_⟩; obtain ⟨y, hy⟩ := hc103; rw [scut_s, hc62, hc71, ← he, e6, hy]; first | rfl | (rw [hx]; rfl))
              · skip
                refine z_iload (pc := 74) C dX12_cut_74 4 rfl ?_
                first | refine z_ifltO (pc := 76) C 95 dX12_cut_76 (by decide) (fun x hx => by have := e8 x hx; omega) (fun hc76 => ?_) (fun hc76 => ?_) | refine z_ifltN (pc := 76) C 95 dX12_cut_76 (by decide) (by omega) (fun hc76 => ?_) (fun hc76 => ?_) | refine z_if_lt (pc := 76) C 95 dX12_cut_76 (by decide) (fun hc76 => ?_) (fun hc76 => ?_)
                · skip
                  have e6 : sctb t k = false := by rw [hc76]; rfl
                  refine z_aload_n (pc := 95) C dX12_cut_95 0 rfl ?_
                  refine z_iload_n (pc := 96) C dX12_cut_96 3 rfl ?_
                  refine z_iload_n (pc := 97) C dX12_cut_97 2 rfl ?_
                  refine z_iload (pc := 98) C dX12_cut_98 5 rfl ?_
                  refine z_cV1 (pc := 100) mX12_stepsTo C [_, _, _] dX12_cut_100 lX12_310 mtX12_stepsTo (tX12_stepsTo hM1 hA1 hR (by omega) (by omega) (by omega)) (by assumption) rfl rfl (by decide) (Nat.le_of_ble_eq_true rfl) (Nat.zero_le _) (Nat.zero_le _) ?_
                  first | refine z_ifgeO (pc := 103) C 110 dX12_cut_103 (by decide) (fun x hx => by have := sStp_lt hx; omega) (fun hc103 => ?_) (fun hc103 => ?_) | refine z_ifgeN (pc := 103) C 110 dX12_cut_103 (by decide) (by omega) (fun hc103 => ?_) (fun hc103 => ?_) | refine z_if_ge (pc := 103) C 110 dX12_cut_103 (by decide) (fun hc103 => ?_) (fun hc103 => ?_)
                  · skip
                    have e5 : zo t = zo t := rfl
                    first | refine z_iincN (pc := 110) (lv' := [(5, _), (0, _), (1, _), (2, _), (3, _), (4, _)]) C 1 dX12_cut_110 5 rfl (by decide) (by decide) rfl ?_ | refine z_iinc (pc := 110) (lv' := [(5, _), (0, _), (1, _), (2, _), (3, _), (4, _)]) C dX12_cut_110 5 rfl _ rfl (by decide) rfl ?_
                    refine z_goto (pc := 113) C 43 dX12_cut_113 (by decide) ?_
                    refine z_sub (lv' := [(0, _), (1, _), (2, _), (3, _), (4, _), (5, _)]) [1, 2, 3, 4, 5, 0] rfl ?_
                    first | exact ih (f - 1) (by omega) (k + 1) _ ⟨by omega, e5⟩ | (refine ih (f - 1) (by omega) (k + 1) _ ⟨by omega, ?_⟩; obtain ⟨y, hy⟩ := hc103; rw [scut_s, hc62, hc71, ← he, e6, hy]; first | rfl | (rw [hx]; rfl))
                  · skip
                    have e5 : some k = scut R (S (8 * j)) i (k + 1) := by rw [scut_s, hc62, hc71, ← he, e6, hc103]; rfl
                    refine z_iload (pc := 106) C dX12_cut_106 5 rfl ?_
                    refine z_top (show nI k = zo (some k) from rfl) ?_
                    refine z_istore (pc := 108) (lv' := [(4, _), (0, _), (1, _), (2, _), (3, _), (5, _)]) C dX12_cut_108 (by decide) rfl ?_
                    first | refine z_iincN (pc := 110) (lv' := [(5, _), (4, _), (0, _), (1, _), (2, _), (3, _)]) C 1 dX12_cut_110 5 rfl (by decide) (by decide) rfl ?_ | refine z_iinc (pc := 110) (lv' := [(5, _), (4, _), (0, _), (1, _), (2, _), (3, _)]) C dX12_cut_110 5 rfl _ rfl (by decide) rfl ?_
                    refine z_goto (pc := 113) C 43 dX12_cut_113 (by decide) ?_
                    refine z_sub (lv' := [(0, _), (1, _), (2, _), (3, _), (4, _), (5, _)]) [2, 3, 4, 5, 1, 0] rfl ?_
                    first | exact ih (f - 1) (by omega) (k + 1) _ ⟨by omega, e5⟩ | (refine ih (f - 1) (by omega) (k + 1) _ ⟨by omega, ?_⟩; obtain ⟨y, hy⟩ := hc103; rw [scut_s, hc62, hc71, ← he, e6, hy]; first | rfl | (rw [hx]; rfl))
                · skip
                  obtain ⟨x, hx⟩ := hc76
                  have e2 := e8 x hx
                  have e4 := sone_le x 8
                  rw [hx]
                  refine z_iload (pc := 79) C dX12_cut_79 5 rfl ?_
                  refine z_cS1 (pc := 81) mX12_ones C [_] dX12_cut_81 lX12_276 mtX12_ones (tX12_ones (by first | assumption | omega)) rfl rfl (by decide) (Nat.le_of_ble_eq_true rfl) (Nat.zero_le _) (Nat.zero_le _) ?_
                  refine z_iload (pc := 84) C dX12_cut_84 4 rfl ?_
                  refine z_top (show zo (some x) = nI x from rfl) ?_
                  refine z_cS1 (pc := 86) mX12_ones C [_] dX12_cut_86 lX12_276 mtX12_ones (tX12_ones (by first | assumption | omega)) rfl rfl (by decide) (Nat.le_of_ble_eq_true rfl) (Nat.zero_le _) (Nat.zero_le _) ?_
                  first | refine z_icmpltN (pc := 89) C 95 dX12_cut_89 (by decide) (by omega) (by omega) (fun hc89 => ?_) (fun hc89 => ?_) | refine z_icmp_lt (pc := 89) C 95 dX12_cut_89 (by decide) (fun hc89 => ?_) (fun hc89 => ?_)
                  · skip
                    have e6 : sctb t k = false := by rw [hx]; exact decide_eq_false (by omega)
                    have e7 := hx
                    refine z_aload_n (pc := 95) C dX12_cut_95 0 rfl ?_
                    refine z_iload_n (pc := 96) C dX12_cut_96 3 rfl ?_
                    refine z_iload_n (pc := 97) C dX12_cut_97 2 rfl ?_
                    refine z_iload (pc := 98) C dX12_cut_98 5 rfl ?_
                    refine z_cV1 (pc := 100) mX12_stepsTo C [_, _, _] dX12_cut_100 lX12_310 mtX12_stepsTo (tX12_stepsTo hM1 hA1 hR (by omega) (by omega) (by omega)) (by assumption) rfl rfl (by decide) (Nat.le_of_ble_eq_true rfl) (Nat.zero_le _) (Nat.zero_le _) ?_
                    first | refine z_ifgeO (pc := 103) C 110 dX12_cut_103 (by decide) (fun x hx => by have := sStp_lt hx; omega) (fun hc103 => ?_) (fun hc103 => ?_) | refine z_ifgeN (pc := 103) C 110 dX12_cut_103 (by decide) (by omega) (fun hc103 => ?_) (fun hc103 => ?_) | refine z_if_ge (pc := 103) C 110 dX12_cut_103 (by decide) (fun hc103 => ?_) (fun hc103 => ?_)
                    · skip
                      have e5 : zo t = zo t := rfl
                      first | refine z_iincN (pc := 110) (lv' := [(5, _), (0, _), (1, _), (2, _), (3, _), (4, _)]) C 1 dX12_cut_110 5 rfl (by decide) (by decide) rfl ?_ | refine z_iinc (pc := 110) (lv' := [(5, _), (0, _), (1, _), (2, _), (3, _), (4, _)]) C dX12_cut_110 5 rfl _ rfl (by decide) rfl ?_
                      refine z_goto (pc := 113) C 43 dX12_cut_113 (by decide) ?_
                      refine z_sub (lv' := [(0, _), (1, _), (2, _), (3, _), (4, _), (5, _)]) [1, 2, 3, 4, 5, 0] rfl ?_
                      first | exact ih (f - 1) (by omega) (k + 1) _ ⟨by omega, e5⟩ | (refine ih (f - 1) (by omega) (k + 1) _ ⟨by omega, ?_⟩; obtain ⟨y, hy⟩ := hc103; rw [scut_s, hc62, hc71, ← he, e6, hy]; first | rfl | (rw [hx]; rfl))
                    · skip
                      have e5 : some k = scut R (S (8 * j)) i (k + 1) := by rw [scut_s, hc62, hc71, ← he, e6, hc103]; rfl
                      refine z_iload (pc := 106) C dX12_cut_106 5 rfl ?_
                      refine z_top (show nI k = zo (some k) from rfl) ?_
                      refine z_istore (pc := 108) (lv' := [(4, _), (0, _), (1, _), (2, _), (3, _), (5, _)]) C dX12_cut_108 (by decide) rfl ?_
                      first | refine z_iincN (pc := 110) (lv' := [(5, _), (4, _), (0, _), (1, _), (2, _), (3, _)]) C 1 dX12_cut_110 5 rfl (by decide) (by decide) rfl ?_ | refine z_iinc (pc := 110) (lv' := [(5, _), (4, _), (0, _), (1, _), (2, _), (3, _)]) C dX12_cut_110 5 rfl _ rfl (by decide) rfl ?_
                      refine z_goto (pc := 113) C 43 dX12_cut_113 (by decide) ?_
                      refine z_sub (lv' := [(0, _), (1, _), (2, _), (3, _), (4, _), (5, _)]) [2, 3, 4, 5, 1, 0] rfl ?_
                      first | exact ih (f - 1) (by omega) (k + 1) _ ⟨by omega, e5⟩ | (refine ih (f - 1) (by omega) (k + 1) _ ⟨by omega, ?_⟩; obtain ⟨y, hy⟩ := hc103; rw [scut_s, hc62, hc71, ← he, e6, hy]; first | rfl | (rw [hx]; rfl))
                  · skip
                    have e5 : some x = scut R (S (8 * j)) i (k + 1) := by rw [scut_s, hc62, hc71, ← he, hx, show sctb (some x) k = true from decide_eq_true hc89]; rfl
                    refine z_goto (pc := 92) C 110 dX12_cut_92 (by decide) ?_
                    first | refine z_iincN (pc := 110) (lv' := [(5, _), (0, _), (1, _), (2, _), (3, _), (4, _)]) C 1 dX12_cut_110 5 rfl (by decide) (by decide) rfl ?_ | refine z_iinc (pc := 110) (lv' := [(5, _), (0, _), (1, _), (2, _), (3, _), (4, _)]) C dX12_cut_110 5 rfl _ rfl (by decide) rfl ?_
                    refine z_goto (pc := 113) C 43 dX12_cut_113 (by decide) ?_
                    refine z_sub (lv' := [(0, _), (1, _), (2, _), (3, _), (4, _), (5, _)]) [1, 2, 3, 4, 5, 0] rfl ?_
                    first | exact ih (f - 1) (by omega) (k + 1) _ ⟨by omega, e5⟩ | (refine ih (f - 1) (by omega) (k + 1) _ ⟨by omega, ?_⟩; obtain ⟨y, hy⟩ := hc103; rw [scut_s, hc62, hc71, ← he, e6, hy]; first | rfl | (rw [hx]; rfl))
      exact lp43 (1 <<< R 1) 0 none ⟨by omega, rfl⟩
    · skip
      refine z_aload_n (pc := 20) C dX12_cut_20 0 rfl ?_
      refine z_iconst (pc := 21) C dX12_cut_21 (nI 1) (by decide) ?_
      refine z_cV1 (pc := 22) mX12_no C [_] dX12_cut_22 lX12_170 mtX12_no (tX12_no (by first | assumption | omega)) (by assumption) rfl rfl (by decide) (Nat.le_of_ble_eq_true rfl) (Nat.zero_le _) (Nat.zero_le _) ?_
      refine z_iret (pc := 25) C dX12_cut_25 rfl (Nat.zero_le _) (Nat.zero_le _) ⟨?_, ?_, rfl⟩
      · simp [aCut, aMP, *]
      · first | exact mz0 hg (by simp [aCut, aMP, *]) | exact mz1 hg (by simp [aCut, aMP, *] <;> rfl)

set_option maxRecDepth 20000 in
set_option maxHeartbeats 1000000 in
theorem tX12_led {h : ZH} {v : Nat → Int32} {R S : Nat → Nat} {b : Bool} {i : Int32} (hM : h 1063 = some (zO 8 (mfs v))) (hA : h 1066 = some (zI 241 R)) (hB : h 1070 = some (zI 40 S)) (hR : wfR R) (hS : wfS R S) (hF : v 14 = zb b) (hb : wfB b R) : ZD mX12_led 3 [.ref 1063, .int i] h (some (.int (match aLed R S i with | some k => nI k | none => 0))) (zup h 1063 (zO 8 (mfs (upd v 0 (match aLed R S i with | some _ => 0 | none => 1))))) := by
  intro n
  obtain ⟨w1, w3, w4, w5, w0, wP, wM, wK, wX⟩ := id hR
  obtain ⟨wT, wL, wB⟩ := id hS
  refine z_enter (lv := [(0, _), (1, _)]) (by decide) (Nat.le_of_ble_eq_true rfl) rfl (fun X C => ?_)
  refine z_iconst (pc := 0) C dX12_led_0 (nI 0) (by decide) ?_
  refine z_istore_n (pc := 1) (lv' := [(2, _), (0, _), (1, _)]) C dX12_led_1 (by decide) rfl ?_
  refine z_iconst (pc := 2) C dX12_led_2 (nI 0) (by decide) ?_
  refine z_istore_n (pc := 3) (lv' := [(3, _), (2, _), (0, _), (1, _)]) C dX12_led_3 (by decide) rfl ?_
  refine z_sub (lv' := [(0, _), (1, _), (2, _), (3, _)]) [2, 3, 1, 0] rfl ?_
  have lp4 : ∀ (f : Nat) (k : Nat), (k + f = R 4 ∧ snth (sNo R S) i k = none) → Zc X mX12_led (zEnd X (fun r hh n' => r = (some (.int (match aLed R S i with | some k => nI k | none => 0))) ∧ hh = (zup h 1063 (zO 8 (mfs (upd v 0 (match aLed R S i with | some _ => 0 | none => 1))))) ∧ n' = n) 0 0) 4 [(0, .ref 1063), (1, .int i), (2, .int (nI (scn (sNo R S) k))), (3, .int (nI k))] [] h n 0 0 := by
    intro f
    induction f using Nat.strongRecOn with
    | _ f ih =>
      intro k hk
      obtain ⟨hk, he⟩ := hk
      refine z_aload_n (pc := 4) C dX12_led_4 0 rfl ?_
      refine z_getf (pc := 5) C dX12_led_5 fX12_180 (by assumption) (by first | rfl | assumption) ?_
      rw [hF]
      first | refine z_ifeqB (pc := 8) C 57 dX12_led_8 (by decide) (fun hc8 => ?_) (fun hc8 => ?_) | refine z_ifeqN (pc := 8) C 57 dX12_led_8 (by decide) (by omega) (fun hc8 => ?_) (fun hc8 => ?_) | refine z_if_eq (pc := 8) C 57 dX12_led_8 (by decide) (fun hc8 => ?_) (fun hc8 => ?_)
      · skip
        have e6 : k = R 4 := by
          rw [hb.1] at hc8
          have := of_decide_eq_false hc8
          have := hb.2 (by omega)
          omega
        refine z_aload_n (pc := 57) C dX12_led_57 0 rfl ?_
        refine z_iconst (pc := 58) C dX12_led_58 (nI 1) (by decide) ?_
        refine z_putf (pc := 59) (fs' := mfs (upd _ 0 _)) C dX12_led_59 gX12_56 (by assumption) (fun _ => ⟨rfl, rfl⟩) (by exact Nat.le_of_ble_eq_true rfl) (mfs_set _ 0 _ (by decide)) ?_
        refine z_iconst (pc := 62) C dX12_led_62 (nI 0) (by decide) ?_
        refine z_iret (pc := 63) C dX12_led_63 rfl (Nat.zero_le _) (Nat.zero_le _) ⟨?_, ?_, rfl⟩
        · rw [show aLed R S i = none from by unfold aLed; rw [← e6]; exact he]; rfl
        · rw [show aLed R S i = none from by unfold aLed; rw [← e6]; exact he]; rfl
      · skip
        refine z_iload_n (pc := 11) C dX12_led_11 3 rfl ?_
        refine z_aload_n (pc := 12) C dX12_led_12 0 rfl ?_
        refine z_getf (pc := 13) C dX12_led_13 fX12_20 (by assumption) (by first | rfl | assumption) ?_
        refine z_iconst (pc := 16) C dX12_led_16 (nI 4) (by decide) ?_
        first | refine z_ialdN (pc := 17) C dX12_led_17 (by assumption) (by omega) (by decide) ?_ | refine z_ialdI (pc := 17) C dX12_led_17 (by assumption) (by omega) (by decide) ?_
        first | refine z_icmpgeN (pc := 18) C 57 dX12_led_18 (by decide) (by omega) (by omega) (fun hc18 => ?_) (fun hc18 => ?_) | refine z_icmp_ge (pc := 18) C 57 dX12_led_18 (by decide) (fun hc18 => ?_) (fun hc18 => ?_)
        · skip
          have e6 : k = R 4 := by omega
          refine z_aload_n (pc := 57) C dX12_led_57 0 rfl ?_
          refine z_iconst (pc := 58) C dX12_led_58 (nI 1) (by decide) ?_
          refine z_putf (pc := 59) (fs' := mfs (upd _ 0 _)) C dX12_led_59 gX12_56 (by assumption) (fun _ => ⟨rfl, rfl⟩) (by exact Nat.le_of_ble_eq_true rfl) (mfs_set _ 0 _ (by decide)) ?_
          refine z_iconst (pc := 62) C dX12_led_62 (nI 0) (by decide) ?_
          refine z_iret (pc := 63) C dX12_led_63 rfl (Nat.zero_le _) (Nat.zero_le _) ⟨?_, ?_, rfl⟩
          · rw [show aLed R S i = none from by unfold aLed; rw [← e6]; exact he]; rfl
          · rw [show aLed R S i = none from by unfold aLed; rw [← e6]; exact he]; rfl
        · skip
          refine z_aload_n (pc := 21) C dX12_led_21 0 rfl ?_
          refine z_aload_n (pc := 22) C dX12_led_22 0 rfl ?_
          refine z_getf (pc := 23) C dX12_led_23 fX12_32 (by assumption) (by first | rfl | assumption) ?_
          refine z_iload_n (pc := 26) C dX12_led_26 3 rfl ?_
          refine z_cV1 (pc := 27) mX12_standsOf C [_, _] dX12_led_27 lX12_269 mtX12_standsOf (tX12_standsOf (by first | assumption | omega) (by first | assumption | omega) (by first | assumption | omega) (by first | assumption | omega) (by first | assumption | omega) (by first | assumption | omega)) (by assumption) rfl rfl (by decide) (Nat.le_of_ble_eq_true rfl) (Nat.zero_le _) (Nat.zero_le _) ?_
          have e1 : ∀ q, sstd R S k = some q → q < 2147483648 := fun q hq => by have := sstd_lt hR hS (by omega) hq; omega
          first | refine z_ifltO (pc := 30) C 36 dX12_led_30 (by decide) (by assumption) (fun hc30 => ?_) (fun hc30 => ?_) | refine z_ifltN (pc := 30) C 36 dX12_led_30 (by decide) (by omega) (fun hc30 => ?_) (fun hc30 => ?_) | refine z_if_lt (pc := 30) C 36 dX12_led_30 (by decide) (fun hc30 => ?_) (fun hc30 => ?_)
          · skip
            have e6 : sNo R S k = true := decide_eq_true hc30
            refine z_iload_n (pc := 36) C dX12_led_36 2 rfl ?_
            refine z_iload_n (pc := 37) C dX12_led_37 1 rfl ?_
            refine z_icmp_ne (pc := 38) C 48 dX12_led_38 (by decide) (fun hc38 => ?_) (fun hc38 => ?_)
            · skip
              have e4 := scn_t e6
              have e5 := snth_no2 he hc38
              first | refine z_iincN (pc := 48) (lv' := [(2, _), (0, _), (1, _), (3, _)]) C 1 dX12_led_48 2 rfl (by decide) (by decide) rfl ?_ | refine z_iinc (pc := 48) (lv' := [(2, _), (0, _), (1, _), (3, _)]) C dX12_led_48 2 rfl _ rfl (by decide) rfl ?_
              first | refine z_iincN (pc := 51) (lv' := [(3, _), (2, _), (0, _), (1, _)]) C 1 dX12_led_51 3 rfl (by decide) (by decide) rfl ?_ | refine z_iinc (pc := 51) (lv' := [(3, _), (2, _), (0, _), (1, _)]) C dX12_led_51 3 rfl _ rfl (by decide) rfl ?_
              refine z_goto (pc := 54) C 4 dX12_led_54 (by decide) ?_
              refine z_sub (lv' := [(0, _), (1, _), (2, _), (3, _)]) [2, 3, 1, 0] rfl ?_
              (rw [← e4]; exact ih (f - 1) (by omega) (k + 1) ⟨by omega, e5⟩)
            · skip
              have e5 : aLed R S i = some k := snth_hit he e6 hc38 (R 4) (by omega)
              refine z_aload_n (pc := 41) C dX12_led_41 0 rfl ?_
              refine z_iconst (pc := 42) C dX12_led_42 (nI 0) (by decide) ?_
              refine z_putf (pc := 43) (fs' := mfs (upd _ 0 _)) C dX12_led_43 gX12_56 (by assumption) (fun _ => ⟨rfl, rfl⟩) (by exact Nat.le_of_ble_eq_true rfl) (mfs_set _ 0 _ (by decide)) ?_
              refine z_iload_n (pc := 46) C dX12_led_46 3 rfl ?_
              refine z_iret (pc := 47) C dX12_led_47 rfl (Nat.zero_le _) (Nat.zero_le _) ⟨?_, ?_, rfl⟩
              · rw [e5]
              · rw [e5]; rfl
          · skip
            obtain ⟨q, hq⟩ := hc30
            have e6 : sNo R S k = false := decide_eq_false (by rw [hq]; simp)
            have e4 := scn_f e6
            have e5 := snth_no1 he e6
            refine z_goto (pc := 33) C 51 dX12_led_33 (by decide) ?_
            first | refine z_iincN (pc := 51) (lv' := [(3, _), (0, _), (1, _), (2, _)]) C 1 dX12_led_51 3 rfl (by decide) (by decide) rfl ?_ | refine z_iinc (pc := 51) (lv' := [(3, _), (0, _), (1, _), (2, _)]) C dX12_led_51 3 rfl _ rfl (by decide) rfl ?_
            refine z_goto (pc := 54) C 4 dX12_led_54 (by decide) ?_
            refine z_sub (lv' := [(0, _), (1, _), (2, _), (3, _)]) [1, 2, 3, 0] rfl ?_
            (rw [← e4]; exact ih (f - 1) (by omega) (k + 1) ⟨by omega, e5⟩)
  exact lp4 (R 4) 0 ⟨by omega, rfl⟩

set_option maxRecDepth 20000 in
set_option maxHeartbeats 1000000 in
theorem tX12_size {h : ZH} {v : Nat → Int32} {R S : Nat → Nat} {b : Bool} {w : Int32} (hM : h 1063 = some (zO 8 (mfs v))) (hA : h 1066 = some (zI 241 R)) (hB : h 1070 = some (zI 40 S)) (hF : v 14 = zb b) (hz : b = false → (∀ i, i < 8 → R i = 0) ∧ S 39 = 0 ∧ v 22 = 0 ∧ v 23 = 0) : ZD mX12_size 1 [.ref 1063, .int w] h (some (.int (aSize R S w (v 22) (v 23) (v 2)))) (zup h 1063 (zO 8 (mfs (upd v 0 0)))) := by
  intro n
  refine z_enter (lv := [(0, _), (1, _)]) (by decide) (Nat.le_of_ble_eq_true rfl) rfl (fun X C => ?_)
  refine z_aload_n (pc := 0) C dX12_size_0 0 rfl ?_
  refine z_iconst (pc := 1) C dX12_size_1 (nI 0) (by decide) ?_
  refine z_putf (pc := 2) (fs' := mfs (upd _ 0 _)) C dX12_size_2 gX12_56 (by assumption) (fun _ => ⟨rfl, rfl⟩) (by exact Nat.le_of_ble_eq_true rfl) (mfs_set _ 0 _ (by decide)) ?_
  have hM1 : zup h 1063 (zO 8 (mfs (upd v 0 0))) 1063 = some (zO 8 (mfs (upd v 0 0))) := zup_same _ _ _
  have hA1 : zup h 1063 (zO 8 (mfs (upd v 0 0))) 1066 = some (zI 241 R) := (zup_ne (by decide)).trans hA
  have hB1 : zup h 1063 (zO 8 (mfs (upd v 0 0))) 1070 = some (zI 40 S) := (zup_ne (by decide)).trans hB
  have hF1 : upd v 0 0 14 = zb b := hF
  refine z_iload_n (pc := 5) C dX12_size_5 1 rfl ?_
  refine z_bipush (pc := 6) C dX12_size_6 (nI 11) (by decide) ?_
  refine z_icmp_ne (pc := 8) C 16 dX12_size_8 (by decide) (fun hc8 => ?_) (fun hc8 => ?_)
  · skip
    refine z_aload_n (pc := 16) C dX12_size_16 0 rfl ?_
    refine z_getf (pc := 17) C dX12_size_17 fX12_180 (by assumption) (by first | rfl | assumption) ?_
    rw [hF1]
    first | refine z_ifneB (pc := 20) C 39 dX12_size_20 (by decide) (fun hc20 => ?_) (fun hc20 => ?_) | refine z_ifneN (pc := 20) C 39 dX12_size_20 (by decide) (by omega) (fun hc20 => ?_) (fun hc20 => ?_) | refine z_if_ne (pc := 20) C 39 dX12_size_20 (by decide) (fun hc20 => ?_) (fun hc20 => ?_)
    · skip
      refine z_iload_n (pc := 39) C dX12_size_39 1 rfl ?_
      refine z_iconst (pc := 40) C dX12_size_40 (nI 0) (by decide) ?_
      refine z_bipush (pc := 41) C dX12_size_41 (nI 7) (by decide) ?_
      refine z_cS1 (pc := 43) mX12_in C [_, _, _] dX12_size_43 lX12_146 mtX12_in tX12_in rfl rfl (by decide) (Nat.le_of_ble_eq_true rfl) (Nat.zero_le _) (Nat.zero_le _) ?_
      rw [show decide (nI 0 ≤ w ∧ w ≤ nI 7) = zlt w 8 from zlt_le2 w (by omega)]
      first | refine z_ifeqB (pc := 46) C 56 dX12_size_46 (by decide) (fun hc46 => ?_) (fun hc46 => ?_) | refine z_ifeqN (pc := 46) C 56 dX12_size_46 (by decide) (by omega) (fun hc46 => ?_) (fun hc46 => ?_) | refine z_if_eq (pc := 46) C 56 dX12_size_46 (by decide) (fun hc46 => ?_) (fun hc46 => ?_)
      · skip
        refine z_iload_n (pc := 56) C dX12_size_56 1 rfl ?_
        refine z_bipush (pc := 57) C dX12_size_57 (nI 8) (by decide) ?_
        refine z_icmp_ne (pc := 59) C 72 dX12_size_59 (by decide) (fun hc59 => ?_) (fun hc59 => ?_)
        · skip
          refine z_iload_n (pc := 72) C dX12_size_72 1 rfl ?_
          refine z_bipush (pc := 73) C dX12_size_73 (nI 9) (by decide) ?_
          refine z_icmp_ne (pc := 75) C 85 dX12_size_75 (by decide) (fun hc75 => ?_) (fun hc75 => ?_)
          · skip
            refine z_iload_n (pc := 85) C dX12_size_85 1 rfl ?_
            refine z_bipush (pc := 86) C dX12_size_86 (nI 10) (by decide) ?_
            refine z_icmp_ne (pc := 88) C 98 dX12_size_88 (by decide) (fun hc88 => ?_) (fun hc88 => ?_)
            · skip
              refine z_iconst (pc := 98) C dX12_size_98 (-1) (by decide) ?_
              refine z_iret (pc := 99) C dX12_size_99 rfl (Nat.zero_le _) (Nat.zero_le _) ⟨?_, ?_, rfl⟩
              · unfold aSize; rw [hc46, if_neg Bool.false_ne_true]; first | (rw [if_pos hc59]; done) | (rw [if_neg hc59, if_pos hc75]; rfl) | (rw [if_neg hc59, if_neg hc75, if_pos hc88]; rfl) | (rw [if_neg hc59, if_neg hc75, if_neg hc88, if_neg hc8])
              · rfl
            · skip
              refine z_aload_n (pc := 91) C dX12_size_91 0 rfl ?_
              refine z_getf (pc := 92) C dX12_size_92 fX12_186 (by assumption) (by first | rfl | assumption) ?_
              refine z_goto (pc := 95) C 99 dX12_size_95 (by decide) ?_
              refine z_iret (pc := 99) C dX12_size_99 rfl (Nat.zero_le _) (Nat.zero_le _) ⟨?_, ?_, rfl⟩
              · unfold aSize; rw [hc46, if_neg Bool.false_ne_true]; first | (rw [if_pos hc59]; done) | (rw [if_neg hc59, if_pos hc75]; rfl) | (rw [if_neg hc59, if_neg hc75, if_pos hc88]; rfl) | (rw [if_neg hc59, if_neg hc75, if_neg hc88, if_neg hc8])
              · rfl
          · skip
            refine z_aload_n (pc := 78) C dX12_size_78 0 rfl ?_
            refine z_getf (pc := 79) C dX12_size_79 fX12_183 (by assumption) (by first | rfl | assumption) ?_
            refine z_goto (pc := 82) C 99 dX12_size_82 (by decide) ?_
            refine z_iret (pc := 99) C dX12_size_99 rfl (Nat.zero_le _) (Nat.zero_le _) ⟨?_, ?_, rfl⟩
            · unfold aSize; rw [hc46, if_neg Bool.false_ne_true]; first | (rw [if_pos hc59]; done) | (rw [if_neg hc59, if_pos hc75]; rfl) | (rw [if_neg hc59, if_neg hc75, if_pos hc88]; rfl) | (rw [if_neg hc59, if_neg hc75, if_neg hc88, if_neg hc8])
            · rfl
        · skip
          refine z_aload_n (pc := 62) C dX12_size_62 0 rfl ?_
          refine z_getf (pc := 63) C dX12_size_63 fX12_32 (by assumption) (by first | rfl | assumption) ?_
          refine z_bipush (pc := 66) C dX12_size_66 (nI 39) (by decide) ?_
          first | refine z_ialdN (pc := 68) C dX12_size_68 (by assumption) (by omega) (by decide) ?_ | refine z_ialdI (pc := 68) C dX12_size_68 (by assumption) (by omega) (by decide) ?_
          refine z_goto (pc := 69) C 99 dX12_size_69 (by decide) ?_
          refine z_iret (pc := 99) C dX12_size_99 rfl (Nat.zero_le _) (Nat.zero_le _) ⟨?_, ?_, rfl⟩
          · unfold aSize; rw [hc46, if_neg Bool.false_ne_true]; first | (rw [if_pos hc59]; done) | (rw [if_neg hc59, if_pos hc75]; rfl) | (rw [if_neg hc59, if_neg hc75, if_pos hc88]; rfl) | (rw [if_neg hc59, if_neg hc75, if_neg hc88, if_neg hc8])
          · rfl
      · skip
        obtain ⟨q, hq, rfl⟩ := zlt_of (by omega) hc46
        have pq := pn_nI (j := q) (by omega)
        refine z_aload_n (pc := 49) C dX12_size_49 0 rfl ?_
        refine z_getf (pc := 50) C dX12_size_50 fX12_20 (by assumption) (by first | rfl | assumption) ?_
        refine z_iload_n (pc := 53) C dX12_size_53 1 rfl ?_
        first | refine z_ialdN (pc := 54) C dX12_size_54 (by assumption) (by omega) (by decide) ?_ | refine z_ialdI (pc := 54) C dX12_size_54 (by assumption) (by omega) (by decide) ?_
        refine z_iret (pc := 55) C dX12_size_55 rfl (Nat.zero_le _) (Nat.zero_le _) ⟨?_, ?_, rfl⟩
        · unfold aSize; rw [hc46, pq]; rfl
        · rfl
    · skip
      refine z_iload_n (pc := 23) C dX12_size_23 1 rfl ?_
      refine z_iconst (pc := 24) C dX12_size_24 (nI 0) (by decide) ?_
      refine z_bipush (pc := 25) C dX12_size_25 (nI 10) (by decide) ?_
      refine z_cS1 (pc := 27) mX12_in C [_, _, _] dX12_size_27 lX12_146 mtX12_in tX12_in rfl rfl (by decide) (Nat.le_of_ble_eq_true rfl) (Nat.zero_le _) (Nat.zero_le _) ?_
      rw [show decide (nI 0 ≤ w ∧ w ≤ nI 10) = zlt w 11 from zlt_le2 w (by omega)]
      first | refine z_ifeqB (pc := 30) C 37 dX12_size_30 (by decide) (fun hc30 => ?_) (fun hc30 => ?_) | refine z_ifeqN (pc := 30) C 37 dX12_size_30 (by decide) (by omega) (fun hc30 => ?_) (fun hc30 => ?_) | refine z_if_eq (pc := 30) C 37 dX12_size_30 (by decide) (fun hc30 => ?_) (fun hc30 => ?_)
      · skip
        have e5 : zlt w 8 = false := by cases z : zlt w 8 with | false => rfl | true => obtain ⟨q, hq, rfl⟩ := zlt_of (by omega) z; rw [zlt_nI (by omega)] at hc30; have := of_decide_eq_false hc30; omega
        have e6 : ∀ q, q < 11 → w ≠ nI q := fun q hq z => by rw [z, zlt_nI (by omega)] at hc30; have := of_decide_eq_false hc30; omega
        have e9 : aSize R S w (v 22) (v 23) (v 2) = -1 := by unfold aSize; rw [e5, if_neg (e6 8 (by decide)), if_neg (e6 9 (by decide)), if_neg (e6 10 (by decide)), if_neg hc8]; rfl
        refine z_iconst (pc := 37) C dX12_size_37 (-1) (by decide) ?_
        refine z_iret (pc := 38) C dX12_size_38 rfl (Nat.zero_le _) (Nat.zero_le _) ⟨?_, ?_, rfl⟩
        · rw [e9] <;> rfl
        · rfl
      · skip
        obtain ⟨q, hq, rfl⟩ := zlt_of (by omega) hc30
        have pq := pn_nI (j := q) (by omega)
        obtain ⟨z1, z2, z3, z4⟩ := hz hc20
        have e9 : aSize R S (nI q) (v 22) (v 23) (v 2) = 0 := by
          rcases (show q < 8 ∨ q = 8 ∨ q = 9 ∨ q = 10 by omega) with z | rfl | rfl | rfl
          · unfold aSize; rw [zlt_nI (by omega), decide_eq_true z, pq, z1 q z]; rfl
          · unfold aSize; rw [zlt_nI (by omega), z2]; rfl
          · unfold aSize; rw [zlt_nI (by omega), z3]; rfl
          · unfold aSize; rw [zlt_nI (by omega), z4]; rfl
        refine z_iconst (pc := 33) C dX12_size_33 (nI 0) (by decide) ?_
        refine z_goto (pc := 34) C 38 dX12_size_34 (by decide) ?_
        refine z_iret (pc := 38) C dX12_size_38 rfl (Nat.zero_le _) (Nat.zero_le _) ⟨?_, ?_, rfl⟩
        · rw [e9] <;> rfl
        · rfl
  · skip
    subst hc8
    refine z_aload_n (pc := 11) C dX12_size_11 0 rfl ?_
    refine z_getf (pc := 12) C dX12_size_12 fX12_62 (by assumption) (by first | rfl | assumption) ?_
    refine z_iret (pc := 15) C dX12_size_15 rfl (Nat.zero_le _) (Nat.zero_le _) ⟨?_, ?_, rfl⟩
    · rfl
    · rfl

set_option maxRecDepth 20000 in
set_option maxHeartbeats 1000000 in
theorem tX12_lowest {h : ZH} {a b : Nat} {lo : Bool} (ha : a < 2 ^ 63) (hb : b < 2 ^ 63) (h0 : 0 < b) : ZD mX12_lowest 0 [.long (lN a), .long (lN b), .int (zb lo)] h (some (.long (sLow a b lo))) h := by
  intro n
  refine z_enter (lv := [(0, _), (2, _), (4, _)]) (by decide) (Nat.le_of_ble_eq_true rfl) rfl (fun X C => ?_)
  refine z_lload_n (pc := 0) C dX12_lowest_0 1 rfl ?_
  refine z_lstore (pc := 1) (lv' := [(5, _), (0, _), (2, _), (4, _)]) C dX12_lowest_1 (by decide) rfl ?_
  refine z_lload_n (pc := 3) C dX12_lowest_3 1 rfl ?_
  refine z_lstore (pc := 4) (lv' := [(7, _), (5, _), (0, _), (2, _), (4, _)]) C dX12_lowest_4 (by decide) rfl ?_
  refine z_sub (lv' := [(0, _), (2, _), (4, _), (5, _), (7, _)]) [2, 3, 4, 1, 0] rfl ?_
  have lp6 : ∀ (f : Nat) (x y : Nat), (y ≤ f ∧ x < 2 ^ 63 ∧ y < 2 ^ 63 ∧ 0 < x ∧ Nat.gcd y x = Nat.gcd a b) → Zc X mX12_lowest (zEnd X (fun r hh n' => r = (some (.long (sLow a b lo))) ∧ hh = h ∧ n' = n) 0 0) 6 [(0, .long (lN a)), (2, .long (lN b)), (4, .int (zb lo)), (5, .long (lN x)), (7, .long (lN y))] [] h n 0 0 := by
    intro f
    induction f using Nat.strongRecOn with
    | _ f ih =>
      intro x y hk
      obtain ⟨hk, hx, hy, hx0, hg⟩ := hk
      refine z_lload (pc := 6) C dX12_lowest_6 4 rfl ?_
      refine z_lconst (pc := 8) C dX12_lowest_8 (0) (by decide) ?_
      refine z_lcmp (pc := 9) C dX12_lowest_9 ?_
      refine z_if_eq (pc := 10) C 31 dX12_lowest_10 (by decide) (fun hc10 => ?_) (fun hc10 => ?_)
      · skip
        have e1 : y = 0 := (lcz hy).mp hc10
        have e2 : x = Nat.gcd a b := by rw [← hg, e1, Nat.gcd_zero_left]
        refine z_iload (pc := 31) C dX12_lowest_31 2 rfl ?_
        first | refine z_ifeqB (pc := 33) C 40 dX12_lowest_33 (by decide) (fun hc33 => ?_) (fun hc33 => ?_) | refine z_ifeqN (pc := 33) C 40 dX12_lowest_33 (by decide) (by omega) (fun hc33 => ?_) (fun hc33 => ?_) | refine z_if_eq (pc := 33) C 40 dX12_lowest_33 (by decide) (fun hc33 => ?_) (fun hc33 => ?_)
        · skip
          refine z_lload_n (pc := 40) C dX12_lowest_40 0 rfl ?_
          refine z_lload (pc := 41) C dX12_lowest_41 3 rfl ?_
          refine z_ldiv (pc := 43) C dX12_lowest_43 (fun z => by have := (lz0 hx).mp z; omega) ?_
          refine z_lret (pc := 44) C dX12_lowest_44 rfl (Nat.zero_le _) (Nat.zero_le _) ⟨?_, ?_, rfl⟩
          · subst_vars; first | (rw [pk_lDiv hb hx0 hx]; rfl) | (rw [pk_lDiv ha hx0 hx]; rfl)
          · rfl
        · skip
          refine z_lload_n (pc := 36) C dX12_lowest_36 1 rfl ?_
          refine z_goto (pc := 37) C 41 dX12_lowest_37 (by decide) ?_
          refine z_lload (pc := 41) C dX12_lowest_41 3 rfl ?_
          refine z_ldiv (pc := 43) C dX12_lowest_43 (fun z => by have := (lz0 hx).mp z; omega) ?_
          refine z_lret (pc := 44) C dX12_lowest_44 rfl (Nat.zero_le _) (Nat.zero_le _) ⟨?_, ?_, rfl⟩
          · subst_vars; first | (rw [pk_lDiv hb hx0 hx]; rfl) | (rw [pk_lDiv ha hx0 hx]; rfl)
          · rfl
      · skip
        have e1 : ¬ y = 0 := fun z => hc10 ((lcz hy).mpr z)
        have e2 : 0 < y := (by omega)
        refine z_lload (pc := 13) C dX12_lowest_13 3 rfl ?_
        refine z_lload (pc := 15) C dX12_lowest_15 4 rfl ?_
        refine z_lrem (pc := 17) C dX12_lowest_17 (fun z => e1 ((lz0 hy).mp z)) ?_
        refine z_topl (pk_lRem hx e2 hy) ?_
        refine z_lstore (pc := 18) (lv' := [(9, _), (0, _), (2, _), (4, _), (5, _), (7, _)]) C dX12_lowest_18 (by decide) rfl ?_
        refine z_lload (pc := 20) C dX12_lowest_20 5 rfl ?_
        refine z_lstore (pc := 22) (lv' := [(5, _), (9, _), (0, _), (2, _), (4, _), (7, _)]) C dX12_lowest_22 (by decide) rfl ?_
        refine z_lload (pc := 24) C dX12_lowest_24 1 rfl ?_
        refine z_lstore (pc := 26) (lv' := [(7, _), (5, _), (9, _), (0, _), (2, _), (4, _)]) C dX12_lowest_26 (by decide) rfl ?_
        refine z_goto (pc := 28) C 6 dX12_lowest_28 (by decide) ?_
        refine z_sub (lv' := [(0, _), (2, _), (4, _), (5, _), (7, _)]) [3, 4, 5, 1, 0] rfl ?_
        exact ih (x % y) (by have := Nat.mod_lt x e2; omega) y (x % y) ⟨Nat.le_refl _, hy, by have := Nat.mod_lt x e2; omega, e2, by rw [← hg, Nat.gcd_rec y x]⟩
  exact lp6 a b a ⟨by omega, hb, ha, h0, rfl⟩

set_option maxRecDepth 20000 in
set_option maxHeartbeats 1000000 in
theorem tX12_breathes {h : ZH} {v : Nat → Int32} {R S : Nat → Nat} {b lo : Bool} {k n0 : Int32} (hM : h 1063 = some (zO 8 (mfs v))) (hA : h 1066 = some (zI 241 R)) (hB : h 1070 = some (zI 40 S)) (hR : wfR R) (hS : wfS R S) (hF : v 14 = zb b) (hb : wfB b R) : ZD mX12_breathes 2 [.ref 1063, .int k, .int n0, .int (zb lo)] h (some (.long (aBre R k n0 lo).1)) (zup h 1063 (zO 8 (mfs (mv v (aBre R k n0 lo).2)))) := by
  intro n
  obtain ⟨w1, w3, w4, w5, w0, wP, wM, wK, wX⟩ := id hR
  obtain ⟨wT, wL, wB⟩ := id hS
  refine z_enter (lv := [(0, _), (1, _), (2, _), (3, _)]) (by decide) (Nat.le_of_ble_eq_true rfl) rfl (fun X C => ?_)
  refine z_aload_n (pc := 0) C dX12_breathes_0 0 rfl ?_
  refine z_cV0 (pc := 1) mX12_good C [] dX12_breathes_1 lX12_167 mtX12_good (tX12_good (by first | assumption | omega)) (by assumption) rfl rfl (by decide) (Nat.le_of_ble_eq_true rfl) (Nat.zero_le _) (Nat.zero_le _) ?_
  have hM1 : zup h 1063 (zO 8 (mfs (upd (upd v 0 0) 11 0))) 1063 = some (zO 8 (mfs (upd (upd v 0 0) 11 0))) := zup_same _ _ _
  have hA1 : zup h 1063 (zO 8 (mfs (upd (upd v 0 0) 11 0))) 1066 = some (zI 241 R) := (zup_ne (by decide)).trans hA
  have hB1 : zup h 1063 (zO 8 (mfs (upd (upd v 0 0) 11 0))) 1070 = some (zI 40 S) := (zup_ne (by decide)).trans hB
  have hF1 : upd (upd v 0 0) 11 0 14 = zb b := hF
  generalize hg : zup h 1063 (zO 8 (mfs (upd (upd v 0 0) 11 0))) = h1 at hM1 hA1 hB1 ⊢
  refine z_aload_n (pc := 4) C dX12_breathes_4 0 rfl ?_
  refine z_aload_n (pc := 5) C dX12_breathes_5 0 rfl ?_
  refine z_iload_n (pc := 6) C dX12_breathes_6 1 rfl ?_
  refine z_cV1 (pc := 7) mX12_isKill C [_] dX12_breathes_7 lX12_300 mtX12_isKill (tX12_isKill (by first | assumption | omega) (by first | assumption | omega) (by first | assumption | omega) (by first | assumption | omega)) (by assumption) rfl rfl (by decide) (Nat.le_of_ble_eq_true rfl) (Nat.zero_le _) (Nat.zero_le _) ?_
  rw [wfB_k hb k]
  refine z_iload_n (pc := 10) C dX12_breathes_10 2 rfl ?_
  refine z_iconst (pc := 11) C dX12_breathes_11 (nI 0) (by decide) ?_
  refine z_iconst (pc := 12) C dX12_breathes_12 (nI 2) (by decide) ?_
  refine z_cS1 (pc := 13) mX12_in C [_, _, _] dX12_breathes_13 lX12_146 mtX12_in tX12_in rfl rfl (by decide) (Nat.le_of_ble_eq_true rfl) (Nat.zero_le _) (Nat.zero_le _) ?_
  rw [show decide (nI 0 ≤ n0 ∧ n0 ≤ nI 2) = zlt n0 3 from zlt_le2 n0 (by omega)]
  refine z_cV1 (pc := 16) mX12_why C [_, _] dX12_breathes_16 lX12_303 mtX12_why tX12_why (by assumption) rfl rfl (by decide) (Nat.le_of_ble_eq_true rfl) (Nat.zero_le _) (Nat.zero_le _) ?_
  have e9 := swhy_le (zlt k (R 4)) (zlt n0 3)
  refine z_istore (pc := 19) (lv' := [(4, _), (0, _), (1, _), (2, _), (3, _)]) C dX12_breathes_19 (by decide) rfl ?_
  refine z_iload (pc := 21) C dX12_breathes_21 0 rfl ?_
  first | refine z_ifeqB (pc := 23) C 36 dX12_breathes_23 (by decide) (fun hc23 => ?_) (fun hc23 => ?_) | refine z_ifeqN (pc := 23) C 36 dX12_breathes_23 (by decide) (by omega) (fun hc23 => ?_) (fun hc23 => ?_) | refine z_if_eq (pc := 23) C 36 dX12_breathes_23 (by decide) (fun hc23 => ?_) (fun hc23 => ?_)
  · skip
    obtain ⟨e6, e7⟩ := swhy_0.mp hc23
    obtain ⟨q, hq, rfl⟩ := zlt_of (by omega) e7
    have pq := pn_nI (j := q) (by omega)
    obtain ⟨d1, d2, d3⟩ := sDead_le (R := R) hq
    refine z_aload_n (pc := 36) C dX12_breathes_36 1 rfl ?_
    refine z_iload_n (pc := 37) C dX12_breathes_37 3 rfl ?_
    refine z_cV1 (pc := 38) mX12_deadBy C [_] dX12_breathes_38 lX12_393 mtX12_deadBy (tX12_deadBy (by first | assumption | omega) (by first | assumption | omega) (by first | assumption | omega) (by first | assumption | omega)) (by assumption) rfl rfl (by decide) (Nat.le_of_ble_eq_true rfl) (Nat.zero_le _) (Nat.zero_le _) ?_
    refine z_ldc2 (pc := 41) C dX12_breathes_41 kX12_387 ?_
    refine z_topl (show (100 : Int64) = lN 100 from rfl) ?_
    refine z_iload_n (pc := 44) C dX12_breathes_44 3 rfl ?_
    refine z_cS1 (pc := 45) mX12_power C [_, _] dX12_breathes_45 lX12_389 mtX12_power (tX12_power (by first | assumption | omega)) rfl rfl (by decide) (Nat.le_of_ble_eq_true rfl) (Nat.zero_le _) (Nat.zero_le _) ?_
    refine z_iload_n (pc := 48) C dX12_breathes_48 4 rfl ?_
    refine z_cS1 (pc := 49) mX12_lowest C [_, _, _] dX12_breathes_49 lX12_397 mtX12_lowest (tX12_lowest (a := sDead R q) (b := 100 ^ q) (by omega) (by omega) d3) rfl rfl (by decide) (Nat.le_of_ble_eq_true rfl) (Nat.zero_le _) (Nat.zero_le _) ?_
    refine z_lret (pc := 52) C dX12_breathes_52 rfl (Nat.zero_le _) (Nat.zero_le _) ⟨?_, ?_, rfl⟩
    · simp [aBre, aWl, swhy_tt, sDead, *] <;> rfl
    · first | exact mz0 hg (by simp [aBre, aWl, swhy_tt, *]) | exact mz1 hg (by simp [aBre, aWl, *] <;> rfl)
  · skip
    have e5 := Nat.ne_of_gt hc23
    refine z_aload_n (pc := 26) C dX12_breathes_26 1 rfl ?_
    refine z_iload (pc := 27) C dX12_breathes_27 0 rfl ?_
    refine z_cV1 (pc := 29) mX12_no C [_] dX12_breathes_29 lX12_170 mtX12_no (tX12_no (by first | assumption | omega)) (by assumption) rfl rfl (by decide) (Nat.le_of_ble_eq_true rfl) (Nat.zero_le _) (Nat.zero_le _) ?_
    refine z_i2l (pc := 32) C dX12_breathes_32 ?_
    refine z_goto (pc := 33) C 52 dX12_breathes_33 (by decide) ?_
    refine z_lret (pc := 52) C dX12_breathes_52 rfl (Nat.zero_le _) (Nat.zero_le _) ⟨?_, ?_, rfl⟩
    · simp [aBre, aWl, swhy_tt, sDead, *] <;> rfl
    · first | exact mz0 hg (by simp [aBre, aWl, swhy_tt, *]) | exact mz1 hg (by simp [aBre, aWl, *] <;> rfl)

set_option maxRecDepth 20000 in
set_option maxHeartbeats 1000000 in
theorem tX12_silent {h : ZH} {v : Nat → Int32} {R S : Nat → Nat} {b lo : Bool} {n0 : Int32} (hM : h 1063 = some (zO 8 (mfs v))) (hA : h 1066 = some (zI 241 R)) (hB : h 1070 = some (zI 40 S)) (hR : wfR R) (hS : wfS R S) (hF : v 14 = zb b) (hb : wfB b R) : ZD mX12_silent 2 [.ref 1063, .int n0, .int (zb lo)] h (some (.long (aSil R n0 lo).1)) (zup h 1063 (zO 8 (mfs (mv v (aSil R n0 lo).2)))) := by
  intro n
  obtain ⟨w1, w3, w4, w5, w0, wP, wM, wK, wX⟩ := id hR
  obtain ⟨wT, wL, wB⟩ := id hS
  refine z_enter (lv := [(0, _), (1, _), (2, _)]) (by decide) (Nat.le_of_ble_eq_true rfl) rfl (fun X C => ?_)
  refine z_aload_n (pc := 0) C dX12_silent_0 0 rfl ?_
  refine z_cV0 (pc := 1) mX12_good C [] dX12_silent_1 lX12_167 mtX12_good (tX12_good (by first | assumption | omega)) (by assumption) rfl rfl (by decide) (Nat.le_of_ble_eq_true rfl) (Nat.zero_le _) (Nat.zero_le _) ?_
  have hM1 : zup h 1063 (zO 8 (mfs (upd (upd v 0 0) 11 0))) 1063 = some (zO 8 (mfs (upd (upd v 0 0) 11 0))) := zup_same _ _ _
  have hA1 : zup h 1063 (zO 8 (mfs (upd (upd v 0 0) 11 0))) 1066 = some (zI 241 R) := (zup_ne (by decide)).trans hA
  have hB1 : zup h 1063 (zO 8 (mfs (upd (upd v 0 0) 11 0))) 1070 = some (zI 40 S) := (zup_ne (by decide)).trans hB
  have hF1 : upd (upd v 0 0) 11 0 14 = zb b := hF
  generalize hg : zup h 1063 (zO 8 (mfs (upd (upd v 0 0) 11 0))) = h1 at hM1 hA1 hB1 ⊢
  refine z_aload_n (pc := 4) C dX12_silent_4 0 rfl ?_
  refine z_aload_n (pc := 5) C dX12_silent_5 0 rfl ?_
  refine z_getf (pc := 6) C dX12_silent_6 fX12_180 (by assumption) (by first | rfl | assumption) ?_
  rw [hF1, hb.1]
  refine z_iload_n (pc := 9) C dX12_silent_9 1 rfl ?_
  refine z_iconst (pc := 10) C dX12_silent_10 (nI 0) (by decide) ?_
  refine z_iconst (pc := 11) C dX12_silent_11 (nI 2) (by decide) ?_
  refine z_cS1 (pc := 12) mX12_in C [_, _, _] dX12_silent_12 lX12_146 mtX12_in tX12_in rfl rfl (by decide) (Nat.le_of_ble_eq_true rfl) (Nat.zero_le _) (Nat.zero_le _) ?_
  rw [show decide (nI 0 ≤ n0 ∧ n0 ≤ nI 2) = zlt n0 3 from zlt_le2 n0 (by omega)]
  refine z_cV1 (pc := 15) mX12_why C [_, _] dX12_silent_15 lX12_303 mtX12_why tX12_why (by assumption) rfl rfl (by decide) (Nat.le_of_ble_eq_true rfl) (Nat.zero_le _) (Nat.zero_le _) ?_
  have e9 := swhy_le (decide (0 < R 1)) (zlt n0 3)
  refine z_istore_n (pc := 18) (lv' := [(3, _), (0, _), (1, _), (2, _)]) C dX12_silent_18 (by decide) rfl ?_
  refine z_iload_n (pc := 19) C dX12_silent_19 0 rfl ?_
  first | refine z_ifeqB (pc := 20) C 32 dX12_silent_20 (by decide) (fun hc20 => ?_) (fun hc20 => ?_) | refine z_ifeqN (pc := 20) C 32 dX12_silent_20 (by decide) (by omega) (fun hc20 => ?_) (fun hc20 => ?_) | refine z_if_eq (pc := 20) C 32 dX12_silent_20 (by decide) (fun hc20 => ?_) (fun hc20 => ?_)
  · skip
    obtain ⟨e6, e7⟩ := swhy_0.mp hc20
    obtain ⟨q, hq, rfl⟩ := zlt_of (by omega) e7
    have pq := pn_nI (j := q) (by omega)
    obtain ⟨d1, d2, d3⟩ := sDead_le (R := R) hq
    refine z_aload_n (pc := 32) C dX12_silent_32 1 rfl ?_
    refine z_iload_n (pc := 33) C dX12_silent_33 2 rfl ?_
    refine z_cV1 (pc := 34) mX12_deadBy C [_] dX12_silent_34 lX12_393 mtX12_deadBy (tX12_deadBy (by first | assumption | omega) (by first | assumption | omega) (by first | assumption | omega) (by first | assumption | omega)) (by assumption) rfl rfl (by decide) (Nat.le_of_ble_eq_true rfl) (Nat.zero_le _) (Nat.zero_le _) ?_
    refine z_aload_n (pc := 37) C dX12_silent_37 1 rfl ?_
    refine z_getf (pc := 38) C dX12_silent_38 fX12_20 (by assumption) (by first | rfl | assumption) ?_
    refine z_iconst (pc := 41) C dX12_silent_41 (nI 3) (by decide) ?_
    first | refine z_ialdN (pc := 42) C dX12_silent_42 (by assumption) (by omega) (by decide) ?_ | refine z_ialdI (pc := 42) C dX12_silent_42 (by assumption) (by omega) (by decide) ?_
    refine z_cS1 (pc := 43) mX12_power C [_, _] dX12_silent_43 lX12_389 mtX12_power (tX12_power (by first | assumption | omega)) rfl rfl (by decide) (Nat.le_of_ble_eq_true rfl) (Nat.zero_le _) (Nat.zero_le _) ?_
    refine z_ldc2 (pc := 46) C dX12_silent_46 kX12_387 ?_
    refine z_topl (show (100 : Int64) = lN 100 from rfl) ?_
    refine z_iload_n (pc := 49) C dX12_silent_49 2 rfl ?_
    refine z_cS1 (pc := 50) mX12_power C [_, _] dX12_silent_50 lX12_389 mtX12_power (tX12_power (by first | assumption | omega)) rfl rfl (by decide) (Nat.le_of_ble_eq_true rfl) (Nat.zero_le _) (Nat.zero_le _) ?_
    refine z_aload_n (pc := 53) C dX12_silent_53 1 rfl ?_
    refine z_getf (pc := 54) C dX12_silent_54 fX12_20 (by assumption) (by first | rfl | assumption) ?_
    refine z_iconst (pc := 57) C dX12_silent_57 (nI 3) (by decide) ?_
    first | refine z_ialdN (pc := 58) C dX12_silent_58 (by assumption) (by omega) (by decide) ?_ | refine z_ialdI (pc := 58) C dX12_silent_58 (by assumption) (by omega) (by decide) ?_
    refine z_cS1 (pc := 59) mX12_power C [_, _] dX12_silent_59 lX12_389 mtX12_power (tX12_power (by first | assumption | omega)) rfl rfl (by decide) (Nat.le_of_ble_eq_true rfl) (Nat.zero_le _) (Nat.zero_le _) ?_
    refine z_iload_n (pc := 62) C dX12_silent_62 3 rfl ?_
    refine z_cS1 (pc := 63) mX12_lowest C [_, _, _] dX12_silent_63 lX12_397 mtX12_lowest (tX12_lowest (a := sDead R q ^ R 3) (b := (100 ^ q) ^ R 3) (by have := sDead_p d1 w3; omega) (by have := sDead_p d2 w3; omega) (Nat.pow_pos d3)) rfl rfl (by decide) (Nat.le_of_ble_eq_true rfl) (Nat.zero_le _) (Nat.zero_le _) ?_
    refine z_lret (pc := 66) C dX12_silent_66 rfl (Nat.zero_le _) (Nat.zero_le _) ⟨?_, ?_, rfl⟩
    · simp [aSil, aWl, swhy_tt, sDead, *] <;> rfl
    · first | exact mz0 hg (by simp [aSil, aWl, swhy_tt, *]) | exact mz1 hg (by simp [aSil, aWl, *] <;> rfl)
  · skip
    have e5 := Nat.ne_of_gt hc20
    refine z_aload_n (pc := 23) C dX12_silent_23 1 rfl ?_
    refine z_iload_n (pc := 24) C dX12_silent_24 0 rfl ?_
    refine z_cV1 (pc := 25) mX12_no C [_] dX12_silent_25 lX12_170 mtX12_no (tX12_no (by first | assumption | omega)) (by assumption) rfl rfl (by decide) (Nat.le_of_ble_eq_true rfl) (Nat.zero_le _) (Nat.zero_le _) ?_
    refine z_i2l (pc := 28) C dX12_silent_28 ?_
    refine z_goto (pc := 29) C 66 dX12_silent_29 (by decide) ?_
    refine z_lret (pc := 66) C dX12_silent_66 rfl (Nat.zero_le _) (Nat.zero_le _) ⟨?_, ?_, rfl⟩
    · simp [aSil, aWl, swhy_tt, sDead, *] <;> rfl
    · first | exact mz0 hg (by simp [aSil, aWl, swhy_tt, *]) | exact mz1 hg (by simp [aSil, aWl, *] <;> rfl)

set_option maxRecDepth 20000 in
set_option maxHeartbeats 1000000 in
theorem tX12_mean {h : ZH} {v : Nat → Int32} {R S : Nat → Nat} {b lo : Bool} {n0 : Int32} (hM : h 1063 = some (zO 8 (mfs v))) (hA : h 1066 = some (zI 241 R)) (hB : h 1070 = some (zI 40 S)) (hR : wfR R) (hS : wfS R S) (hF : v 14 = zb b) (hb : wfB b R) : ZD mX12_mean 2 [.ref 1063, .int n0, .int (zb lo)] h (some (.long (aMea R n0 lo).1)) (zup h 1063 (zO 8 (mfs (mv v (aMea R n0 lo).2)))) := by
  intro n
  obtain ⟨w1, w3, w4, w5, w0, wP, wM, wK, wX⟩ := id hR
  obtain ⟨wT, wL, wB⟩ := id hS
  refine z_enter (lv := [(0, _), (1, _), (2, _)]) (by decide) (Nat.le_of_ble_eq_true rfl) rfl (fun X C => ?_)
  refine z_aload_n (pc := 0) C dX12_mean_0 0 rfl ?_
  refine z_cV0 (pc := 1) mX12_good C [] dX12_mean_1 lX12_167 mtX12_good (tX12_good (by first | assumption | omega)) (by assumption) rfl rfl (by decide) (Nat.le_of_ble_eq_true rfl) (Nat.zero_le _) (Nat.zero_le _) ?_
  have hM1 : zup h 1063 (zO 8 (mfs (upd (upd v 0 0) 11 0))) 1063 = some (zO 8 (mfs (upd (upd v 0 0) 11 0))) := zup_same _ _ _
  have hA1 : zup h 1063 (zO 8 (mfs (upd (upd v 0 0) 11 0))) 1066 = some (zI 241 R) := (zup_ne (by decide)).trans hA
  have hB1 : zup h 1063 (zO 8 (mfs (upd (upd v 0 0) 11 0))) 1070 = some (zI 40 S) := (zup_ne (by decide)).trans hB
  have hF1 : upd (upd v 0 0) 11 0 14 = zb b := hF
  generalize hg : zup h 1063 (zO 8 (mfs (upd (upd v 0 0) 11 0))) = h1 at hM1 hA1 hB1 ⊢
  refine z_aload_n (pc := 4) C dX12_mean_4 0 rfl ?_
  refine z_aload_n (pc := 5) C dX12_mean_5 0 rfl ?_
  refine z_getf (pc := 6) C dX12_mean_6 fX12_180 (by assumption) (by first | rfl | assumption) ?_
  rw [hF1, hb.1]
  refine z_iload_n (pc := 9) C dX12_mean_9 1 rfl ?_
  refine z_iconst (pc := 10) C dX12_mean_10 (nI 0) (by decide) ?_
  refine z_iconst (pc := 11) C dX12_mean_11 (nI 2) (by decide) ?_
  refine z_cS1 (pc := 12) mX12_in C [_, _, _] dX12_mean_12 lX12_146 mtX12_in tX12_in rfl rfl (by decide) (Nat.le_of_ble_eq_true rfl) (Nat.zero_le _) (Nat.zero_le _) ?_
  rw [show decide (nI 0 ≤ n0 ∧ n0 ≤ nI 2) = zlt n0 3 from zlt_le2 n0 (by omega)]
  refine z_cV1 (pc := 15) mX12_why C [_, _] dX12_mean_15 lX12_303 mtX12_why tX12_why (by assumption) rfl rfl (by decide) (Nat.le_of_ble_eq_true rfl) (Nat.zero_le _) (Nat.zero_le _) ?_
  have e9 := swhy_le (decide (0 < R 1)) (zlt n0 3)
  refine z_istore_n (pc := 18) (lv' := [(3, _), (0, _), (1, _), (2, _)]) C dX12_mean_18 (by decide) rfl ?_
  refine z_iload_n (pc := 19) C dX12_mean_19 0 rfl ?_
  first | refine z_ifeqB (pc := 20) C 32 dX12_mean_20 (by decide) (fun hc20 => ?_) (fun hc20 => ?_) | refine z_ifeqN (pc := 20) C 32 dX12_mean_20 (by decide) (by omega) (fun hc20 => ?_) (fun hc20 => ?_) | refine z_if_eq (pc := 20) C 32 dX12_mean_20 (by decide) (fun hc20 => ?_) (fun hc20 => ?_)
  · skip
    obtain ⟨e6, e7⟩ := swhy_0.mp hc20
    obtain ⟨q, hq, rfl⟩ := zlt_of (by omega) e7
    have pq := pn_nI (j := q) (by omega)
    obtain ⟨d1, d2, d3⟩ := sDead_le (R := R) hq
    refine z_aload_n (pc := 32) C dX12_mean_32 1 rfl ?_
    refine z_getf (pc := 33) C dX12_mean_33 fX12_20 (by assumption) (by first | rfl | assumption) ?_
    refine z_iconst (pc := 36) C dX12_mean_36 (nI 4) (by decide) ?_
    first | refine z_ialdN (pc := 37) C dX12_mean_37 (by assumption) (by omega) (by decide) ?_ | refine z_ialdI (pc := 37) C dX12_mean_37 (by assumption) (by omega) (by decide) ?_
    refine z_i2l (pc := 38) C dX12_mean_38 ?_
    refine z_topl (nI_l (by omega)) ?_
    refine z_aload_n (pc := 39) C dX12_mean_39 1 rfl ?_
    refine z_iload_n (pc := 40) C dX12_mean_40 2 rfl ?_
    refine z_cV1 (pc := 41) mX12_deadBy C [_] dX12_mean_41 lX12_393 mtX12_deadBy (tX12_deadBy (by first | assumption | omega) (by first | assumption | omega) (by first | assumption | omega) (by first | assumption | omega)) (by assumption) rfl rfl (by decide) (Nat.le_of_ble_eq_true rfl) (Nat.zero_le _) (Nat.zero_le _) ?_
    refine z_lmul (pc := 44) C dX12_mean_44 ?_
    rw [lN_mul]
    refine z_ldc2 (pc := 45) C dX12_mean_45 kX12_387 ?_
    refine z_topl (show (100 : Int64) = lN 100 from rfl) ?_
    refine z_iload_n (pc := 48) C dX12_mean_48 2 rfl ?_
    refine z_cS1 (pc := 49) mX12_power C [_, _] dX12_mean_49 lX12_389 mtX12_power (tX12_power (by first | assumption | omega)) rfl rfl (by decide) (Nat.le_of_ble_eq_true rfl) (Nat.zero_le _) (Nat.zero_le _) ?_
    refine z_iload_n (pc := 52) C dX12_mean_52 3 rfl ?_
    refine z_cS1 (pc := 53) mX12_lowest C [_, _, _] dX12_mean_53 lX12_397 mtX12_lowest (tX12_lowest (a := R 4 * sDead R q) (b := 100 ^ q) (by have := Nat.mul_le_mul w4 d1; omega) (by omega) d3) rfl rfl (by decide) (Nat.le_of_ble_eq_true rfl) (Nat.zero_le _) (Nat.zero_le _) ?_
    refine z_lret (pc := 56) C dX12_mean_56 rfl (Nat.zero_le _) (Nat.zero_le _) ⟨?_, ?_, rfl⟩
    · simp [aMea, aWl, swhy_tt, sDead, *] <;> rfl
    · first | exact mz0 hg (by simp [aMea, aWl, swhy_tt, *]) | exact mz1 hg (by simp [aMea, aWl, *] <;> rfl)
  · skip
    have e5 := Nat.ne_of_gt hc20
    refine z_aload_n (pc := 23) C dX12_mean_23 1 rfl ?_
    refine z_iload_n (pc := 24) C dX12_mean_24 0 rfl ?_
    refine z_cV1 (pc := 25) mX12_no C [_] dX12_mean_25 lX12_170 mtX12_no (tX12_no (by first | assumption | omega)) (by assumption) rfl rfl (by decide) (Nat.le_of_ble_eq_true rfl) (Nat.zero_le _) (Nat.zero_le _) ?_
    refine z_i2l (pc := 28) C dX12_mean_28 ?_
    refine z_goto (pc := 29) C 56 dX12_mean_29 (by decide) ?_
    refine z_lret (pc := 56) C dX12_mean_56 rfl (Nat.zero_le _) (Nat.zero_le _) ⟨?_, ?_, rfl⟩
    · simp [aMea, aWl, swhy_tt, sDead, *] <;> rfl
    · first | exact mz0 hg (by simp [aMea, aWl, swhy_tt, *]) | exact mz1 hg (by simp [aMea, aWl, *] <;> rfl)
