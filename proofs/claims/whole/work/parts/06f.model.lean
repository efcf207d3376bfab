def sleast (L : Nat → Nat) : Nat → Option Nat
  | 0 => none
  | m + 1 => match sleast L m with
    | none => some m
    | some b => if L m < L b then some m else some b
theorem sleast_lt (L : Nat → Nat) : ∀ m k, sleast L m = some k → k < m := by
  intro m
  induction m with
  | zero => intro k h; cases h
  | succ m ih =>
    intro k h
    rw [sleast] at h
    split at h
    · cases h; omega
    · rename_i b hb
      split at h
      · cases h; omega
      · cases h; have := ih _ hb; omega
def sAsk (R F : Nat → Nat) (s : Nat) : Option Nat := if 0 < sfs R F s (R 3) then sleast (slea R F s) (R 3) else none
def scmp (R S : Nat → Nat) (st : Nat) : Nat → Option Nat
  | 0 => none
  | a + 1 => if (match scmp R S st a with | none => true | some b => decide (sone a 8 < sone b 8)) && scom R S a st (R 3) then some a else scmp R S st a
theorem scmp_lt (R S : Nat → Nat) (st : Nat) : ∀ a k, scmp R S st a = some k → k < a := by
  intro a
  induction a with
  | zero => intro k h; cases h
  | succ a ih =>
    intro k h
    simp only [scmp] at h
    repeat' split at h
    all_goals first
      | (have := ih _ h; omega)
      | (cases h; omega)
      | (have := ih k (by assumption); omega)
def samd (R S : Nat → Nat) : Nat → Nat
  | 0 => 0
  | k + 1 => samd R S k + (if S (32 + k) = R (34 + 4 * k) then 0 else 1)
def aS (R : Nat → Nat) (s : Int32) (x : Nat → Int32) : Int32 × Int32 := if zlt s (R 5) then (x (pn s), 0) else (-1, 1)
def aOwes (R S : Nat → Nat) (m : Int32) : Int32 × Int32 := aM R m (fun m => nI (sOwe R S m))
def aAmd (R S : Nat → Nat) : Int32 × Int32 := aF R (nI (samd R S (R 4)))
def aLon (R S : Nat → Nat) : Int32 × Int32 := aF R (zo (smost (fun m => snea R S m (R 4)) (R 3)))
def aComp (R S : Nat → Nat) (g : Int32) : Int32 × Int32 := aW (decide (0 < R 1)) (zlt g 8) (zo (scmp R S (pn g) (1 <<< R 4)))
def aFits (R F : Nat → Nat) (s : Int32) : Int32 × Int32 := aS R s (fun s => nI (sfs R F s (R 3)))
def aCould (R F : Nat → Nat) (s : Int32) : Int32 × Int32 := aS R s (fun s => nI (sbits (fun m => decide (0 < sfi R F s m 4)) (R 3)))
def aSure (R F : Nat → Nat) (s : Int32) : Int32 × Int32 := aS R s (fun s => zo (sfst (fun m => decide (0 < sfi R F s m 4) && decide (sfi R F s m 4 = sfs R F s (R 3))) (R 3) 0))
def aAsk (R F : Nat → Nat) (s : Int32) : Int32 × Int32 := aS R s (fun s => zo (sAsk R F s))
def aAskL (R F : Nat → Nat) (s : Int32) : Int32 × Int32 := aS R s (fun s => match sAsk R F s with | none => -2 | some m => nI (slea R F s m))
theorem slea_le (R F : Nat → Nat) (s m : Nat) (h : R 3 ≤ 4) : slea R F s m ≤ 16 := by
  unfold slea
  have h1 := sfi_le R F s m 4
  have h2 := sfs_le R F s (R 3)
  omega

set_option maxRecDepth 20000 in
set_option maxHeartbeats 1000000 in
theorem tX12_owes {h : ZH} {v : Nat → Int32} {R S : Nat → Nat} {b : Bool} {m : Int32} (hM : h 1063 = some (zO 8 (mfs v))) (hA : h 1066 = some (zI 241 R)) (hB : h 1070 = some (zI 40 S)) (hR : wfR R) (hS : wfS R S) (hF : v 14 = zb b) (hb : wfB b R) : ZD mX12_owes 2 [.ref 1063, .int m] h (some (.int (aOwes R S m).1)) (zup h 1063 (zO 8 (mfs (mv v (aOwes R S m).2)))) := by
  intro n
  obtain ⟨w1, w3, w4, w5, w0, wP, wM, wK, wX⟩ := id hR
  obtain ⟨wT, wL, wB⟩ := id hS
  refine z_enter (lv := [(0, _), (1, _)]) (by decide) (Nat.le_of_ble_eq_true rfl) rfl (fun X C => ?_)
  refine z_aload_n (pc := 0) C dX12_owes_0 0 rfl ?_
  refine z_cV0 (pc := 1) mX12_good C [] dX12_owes_1 lX12_167 mtX12_good (tX12_good (by first | assumption | omega)) (by assumption) rfl rfl (by decide) (Nat.le_of_ble_eq_true rfl) (Nat.zero_le _) (Nat.zero_le _) ?_
  have hM1 : zup h 1063 (zO 8 (mfs (upd (upd v 0 0) 11 0))) 1063 = some (zO 8 (mfs (upd (upd v 0 0) 11 0))) := zup_same _ _ _
  have hA1 : zup h 1063 (zO 8 (mfs (upd (upd v 0 0) 11 0))) 1066 = some (zI 241 R) := (zup_ne (by decide)).trans hA
  have hB1 : zup h 1063 (zO 8 (mfs (upd (upd v 0 0) 11 0))) 1070 = some (zI 40 S) := (zup_ne (by decide)).trans hB
  have hF1 : upd (upd v 0 0) 11 0 14 = zb b := hF
  generalize hg : zup h 1063 (zO 8 (mfs (upd (upd v 0 0) 11 0))) = h1 at hM1 hA1 hB1 ⊢
  refine z_aload_n (pc := 4) C dX12_owes_4 0 rfl ?_
  refine z_iload_n (pc := 5) C dX12_owes_5 1 rfl ?_
  refine z_cV1 (pc := 6) mX12_isMan C [_] dX12_owes_6 lX12_288 mtX12_isMan (tX12_isMan (by first | assumption | omega) (by first | assumption | omega) (by first | assumption | omega) (by first | assumption | omega)) (by assumption) rfl rfl (by decide) (Nat.le_of_ble_eq_true rfl) (Nat.zero_le _) (Nat.zero_le _) ?_
  rw [wfB_m hb m]
  first | refine z_ifeqB (pc := 9) C 20 dX12_owes_9 (by decide) (fun hc9 => ?_) (fun hc9 => ?_) | refine z_ifeqN (pc := 9) C 20 dX12_owes_9 (by decide) (by omega) (fun hc9 => ?_) (fun hc9 => ?_) | refine z_if_eq (pc := 9) C 20 dX12_owes_9 (by decide) (fun hc9 => ?_) (fun hc9 => ?_)
  · skip
    refine z_aload_n (pc := 20) C dX12_owes_20 0 rfl ?_
    refine z_iconst (pc := 21) C dX12_owes_21 (nI 1) (by decide) ?_
    refine z_cV1 (pc := 22) mX12_no C [_] dX12_owes_22 lX12_170 mtX12_no (tX12_no (by first | assumption | omega)) (by assumption) rfl rfl (by decide) (Nat.le_of_ble_eq_true rfl) (Nat.zero_le _) (Nat.zero_le _) ?_
    refine z_iret (pc := 25) C dX12_owes_25 rfl (Nat.zero_le _) (Nat.zero_le _) ⟨?_, ?_, rfl⟩
    · simp [aOwes, aM, *]
    · first | exact mz0 hg (by simp [aOwes, aM, *]) | exact mz1 hg (by simp [aOwes, aM, *] <;> rfl)
  · skip
    obtain ⟨j, hj, rfl⟩ := zlt_of (by omega) hc9
    have pj := pn_nI (j := j) (by omega)
    refine z_aload_n (pc := 12) C dX12_owes_12 0 rfl ?_
    refine z_iload_n (pc := 13) C dX12_owes_13 1 rfl ?_
    refine z_cV1 (pc := 14) mX12_owesOf C [_] dX12_owes_14 lX12_343 mtX12_owesOf (tX12_owesOf (by first | assumption | omega) (by first | assumption | omega) (by first | assumption | omega) (by first | assumption | omega) (by first | assumption | omega) (by first | assumption | omega)) (by assumption) rfl rfl (by decide) (Nat.le_of_ble_eq_true rfl) (Nat.zero_le _) (Nat.zero_le _) ?_
    refine z_goto (pc := 17) C 25 dX12_owes_17 (by decide) ?_
    refine z_iret (pc := 25) C dX12_owes_25 rfl (Nat.zero_le _) (Nat.zero_le _) ⟨?_, ?_, rfl⟩
    · simp [aOwes, aM, *]
    · first | exact mz0 hg (by simp [aOwes, aM, *]) | exact mz1 hg (by simp [aOwes, aM, *] <;> rfl)

set_option maxRecDepth 20000 in
set_option maxHeartbeats 1000000 in
theorem tX12_amends {h : ZH} {v : Nat → Int32} {R S : Nat → Nat} {b : Bool}  (hM : h 1063 = some (zO 8 (mfs v))) (hA : h 1066 = some (zI 241 R)) (hB : h 1070 = some (zI 40 S)) (hR : wfR R) (hS : wfS R S) (hF : v 14 = zb b) (hb : wfB b R) : ZD mX12_amends 1 [.ref 1063] h (some (.int (aAmd R S).1)) (zup h 1063 (zO 8 (mfs (mv v (aAmd R S).2)))) := by
  intro n
  obtain ⟨w1, w3, w4, w5, w0, wP, wM, wK, wX⟩ := id hR
  obtain ⟨wT, wL, wB⟩ := id hS
  refine z_enter (lv := [(0, _)]) (by decide) (Nat.le_of_ble_eq_true rfl) rfl (fun X C => ?_)
  refine z_aload_n (pc := 0) C dX12_amends_0 0 rfl ?_
  refine z_cV0 (pc := 1) mX12_good C [] dX12_amends_1 lX12_167 mtX12_good (tX12_good (by first | assumption | omega)) (by assumption) rfl rfl (by decide) (Nat.le_of_ble_eq_true rfl) (Nat.zero_le _) (Nat.zero_le _) ?_
  have hM1 : zup h 1063 (zO 8 (mfs (upd (upd v 0 0) 11 0))) 1063 = some (zO 8 (mfs (upd (upd v 0 0) 11 0))) := zup_same _ _ _
  have hA1 : zup h 1063 (zO 8 (mfs (upd (upd v 0 0) 11 0))) 1066 = some (zI 241 R) := (zup_ne (by decide)).trans hA
  have hB1 : zup h 1063 (zO 8 (mfs (upd (upd v 0 0) 11 0))) 1070 = some (zI 40 S) := (zup_ne (by decide)).trans hB
  have hF1 : upd (upd v 0 0) 11 0 14 = zb b := hF
  generalize hg : zup h 1063 (zO 8 (mfs (upd (upd v 0 0) 11 0))) = h1 at hM1 hA1 hB1 ⊢
  refine z_aload_n (pc := 4) C dX12_amends_4 0 rfl ?_
  refine z_getf (pc := 5) C dX12_amends_5 fX12_180 (by assumption) (by first | rfl | assumption) ?_
  rw [hF1, hb.1]
  first | refine z_ifneB (pc := 8) C 17 dX12_amends_8 (by decide) (fun hc8 => ?_) (fun hc8 => ?_) | refine z_ifneN (pc := 8) C 17 dX12_amends_8 (by decide) (by omega) (fun hc8 => ?_) (fun hc8 => ?_) | refine z_if_ne (pc := 8) C 17 dX12_amends_8 (by decide) (fun hc8 => ?_) (fun hc8 => ?_)
  · skip
    have e0 : 0 < R 1 := of_decide_eq_true hc8
    refine z_iconst (pc := 17) C dX12_amends_17 (nI 0) (by decide) ?_
    refine z_istore_n (pc := 18) (lv' := [(1, _), (0, _)]) C dX12_amends_18 (by decide) rfl ?_
    refine z_iconst (pc := 19) C dX12_amends_19 (nI 0) (by decide) ?_
    refine z_istore_n (pc := 20) (lv' := [(2, _), (1, _), (0, _)]) C dX12_amends_20 (by decide) rfl ?_
    refine z_sub (lv' := [(0, _), (1, _), (2, _)]) [2, 1, 0] rfl ?_
    have lp21 : ∀ (f : Nat) (k acc : Nat), (k + f = R 4 ∧ acc = samd R S k) → Zc X mX12_amends (zEnd X (fun r hh n' => r = (some (.int (aAmd R S).1)) ∧ hh = (zup h 1063 (zO 8 (mfs (mv v (aAmd R S).2)))) ∧ n' = n) 0 0) 21 [(0, .ref 1063), (1, .int (nI acc)), (2, .int (nI k))] [] h1 n 0 0 := by
      intro f
      induction f using Nat.strongRecOn with
      | _ f ih =>
        intro k acc hk
        obtain ⟨hk, he⟩ := hk
        refine z_iload_n (pc := 21) C dX12_amends_21 2 rfl ?_
        refine z_aload_n (pc := 22) C dX12_amends_22 0 rfl ?_
        refine z_getf (pc := 23) C dX12_amends_23 fX12_20 (by assumption) (by first | rfl | assumption) ?_
        refine z_iconst (pc := 26) C dX12_amends_26 (nI 4) (by decide) ?_
        first | refine z_ialdN (pc := 27) C dX12_amends_27 (by assumption) (by omega) (by decide) ?_ | refine z_ialdI (pc := 27) C dX12_amends_27 (by assumption) (by omega) (by decide) ?_
        first | refine z_icmpgeN (pc := 28) C 68 dX12_amends_28 (by decide) (by omega) (by omega) (fun hc28 => ?_) (fun hc28 => ?_) | refine z_icmp_ge (pc := 28) C 68 dX12_amends_28 (by decide) (fun hc28 => ?_) (fun hc28 => ?_)
        · skip
          refine z_iload_n (pc := 68) C dX12_amends_68 1 rfl ?_
          refine z_iret (pc := 69) C dX12_amends_69 rfl (Nat.zero_le _) (Nat.zero_le _) ⟨?_, ?_, rfl⟩
          · obtain rfl : f = 0 := (by omega); obtain rfl : k = R 4 := (by omega); simp [aAmd, aF, e0, he]
          · first | exact mz0 hg (by simp [aAmd, aF, *]) | exact mz1 hg (by simp [aAmd, aF, *] <;> rfl)
        · skip
          refine z_iload_n (pc := 31) C dX12_amends_31 1 rfl ?_
          refine z_aload_n (pc := 32) C dX12_amends_32 0 rfl ?_
          refine z_getf (pc := 33) C dX12_amends_33 fX12_32 (by assumption) (by first | rfl | assumption) ?_
          refine z_bipush (pc := 36) C dX12_amends_36 (nI 32) (by decide) ?_
          refine z_iload_n (pc := 38) C dX12_amends_38 2 rfl ?_
          first | refine z_iaddN (pc := 39) C dX12_amends_39 ?_ | refine z_iadd (pc := 39) C dX12_amends_39 ?_
          first | refine z_ialdN (pc := 40) C dX12_amends_40 (by assumption) (by omega) (by decide) ?_ | refine z_ialdI (pc := 40) C dX12_amends_40 (by assumption) (by omega) (by decide) ?_
          refine z_aload_n (pc := 41) C dX12_amends_41 0 rfl ?_
          refine z_getf (pc := 42) C dX12_amends_42 fX12_20 (by assumption) (by first | rfl | assumption) ?_
          refine z_bipush (pc := 45) C dX12_amends_45 (nI 34) (by decide) ?_
          refine z_iconst (pc := 47) C dX12_amends_47 (nI 4) (by decide) ?_
          refine z_iload_n (pc := 48) C dX12_amends_48 2 rfl ?_
          first | refine z_imulN (pc := 49) C dX12_amends_49 ?_ | refine z_imul (pc := 49) C dX12_amends_49 ?_
          first | refine z_iaddN (pc := 50) C dX12_amends_50 ?_ | refine z_iadd (pc := 50) C dX12_amends_50 ?_
          first | refine z_ialdN (pc := 51) C dX12_amends_51 (by assumption) (by omega) (by decide) ?_ | refine z_ialdI (pc := 51) C dX12_amends_51 (by assumption) (by omega) (by decide) ?_
          have e1 := (wK k (by omega)).1
          have e2 := wL k (by omega)
          first | refine z_icmpneN (pc := 52) C 59 dX12_amends_52 (by decide) (by omega) (by omega) (fun hc52 => ?_) (fun hc52 => ?_) | refine z_icmp_ne (pc := 52) C 59 dX12_amends_52 (by decide) (fun hc52 => ?_) (fun hc52 => ?_)
          · skip
            refine z_iconst (pc := 59) C dX12_amends_59 (nI 1) (by decide) ?_
            first | refine z_iaddN (pc := 60) C dX12_amends_60 ?_ | refine z_iadd (pc := 60) C dX12_amends_60 ?_
            refine z_istore_n (pc := 61) (lv' := [(1, _), (0, _), (2, _)]) C dX12_amends_61 (by decide) rfl ?_
            first | refine z_iincN (pc := 62) (lv' := [(2, _), (1, _), (0, _)]) C 1 dX12_amends_62 2 rfl (by decide) (by decide) rfl ?_ | refine z_iinc (pc := 62) (lv' := [(2, _), (1, _), (0, _)]) C dX12_amends_62 2 rfl _ rfl (by decide) rfl ?_
            refine z_goto (pc := 65) C 21 dX12_amends_65 (by decide) ?_
            refine z_sub (lv' := [(0, _), (1, _), (2, _)]) [2, 1, 0] rfl ?_
            exact ih (f - 1) (by omega) (k + 1) _ ⟨by omega, by rw [he, samd]; clear he ih; simp [*]⟩
          · skip
            refine z_iconst (pc := 55) C dX12_amends_55 (nI 0) (by decide) ?_
            refine z_goto (pc := 56) C 60 dX12_amends_56 (by decide) ?_
            first | refine z_iaddN (pc := 60) C dX12_amends_60 ?_ | refine z_iadd (pc := 60) C dX12_amends_60 ?_
            refine z_istore_n (pc := 61) (lv' := [(1, _), (0, _), (2, _)]) C dX12_amends_61 (by decide) rfl ?_
            first | refine z_iincN (pc := 62) (lv' := [(2, _), (1, _), (0, _)]) C 1 dX12_amends_62 2 rfl (by decide) (by decide) rfl ?_ | refine z_iinc (pc := 62) (lv' := [(2, _), (1, _), (0, _)]) C dX12_amends_62 2 rfl _ rfl (by decide) rfl ?_
            refine z_goto (pc := 65) C 21 dX12_amends_65 (by decide) ?_
            refine z_sub (lv' := [(0, _), (1, _), (2, _)]) [2, 1, 0] rfl ?_
            exact ih (f - 1) (by omega) (k + 1) _ ⟨by omega, by rw [he, samd]; clear he ih; simp [*]⟩
    exact lp21 (R 4) 0 0 ⟨by omega, rfl⟩
  · skip
    have e0 : ¬ 0 < R 1 := of_decide_eq_false hc8
    refine z_aload_n (pc := 11) C dX12_amends_11 0 rfl ?_
    refine z_iconst (pc := 12) C dX12_amends_12 (nI 1) (by decide) ?_
    refine z_cV1 (pc := 13) mX12_no C [_] dX12_amends_13 lX12_170 mtX12_no (tX12_no (by first | assumption | omega)) (by assumption) rfl rfl (by decide) (Nat.le_of_ble_eq_true rfl) (Nat.zero_le _) (Nat.zero_le _) ?_
    refine z_iret (pc := 16) C dX12_amends_16 rfl (Nat.zero_le _) (Nat.zero_le _) ⟨?_, ?_, rfl⟩
    · simp [aAmd, aF, e0]
    · first | exact mz0 hg (by simp [aAmd, aF, *]) | exact mz1 hg (by simp [aAmd, aF, *] <;> rfl)

set_option maxRecDepth 20000 in
set_option maxHeartbeats 1000000 in
theorem tX12_lonely {h : ZH} {v : Nat → Int32} {R S : Nat → Nat} {b : Bool}  (hM : h 1063 = some (zO 8 (mfs v))) (hA : h 1066 = some (zI 241 R)) (hB : h 1070 = some (zI 40 S)) (hR : wfR R) (hS : wfS R S) (hF : v 14 = zb b) (hb : wfB b R) : ZD mX12_lonely 5 [.ref 1063] h (some (.int (aLon R S).1)) (zup h 1063 (zO 8 (mfs (mv v (aLon R S).2)))) := by
  intro n
  obtain ⟨w1, w3, w4, w5, w0, wP, wM, wK, wX⟩ := id hR
  obtain ⟨wT, wL, wB⟩ := id hS
  refine z_enter (lv := [(0, _)]) (by decide) (Nat.le_of_ble_eq_true rfl) rfl (fun X C => ?_)
  refine z_aload_n (pc := 0) C dX12_lonely_0 0 rfl ?_
  refine z_cV0 (pc := 1) mX12_good C [] dX12_lonely_1 lX12_167 mtX12_good (tX12_good (by first | assumption | omega)) (by assumption) rfl rfl (by decide) (Nat.le_of_ble_eq_true rfl) (Nat.zero_le _) (Nat.zero_le _) ?_
  have hM1 : zup h 1063 (zO 8 (mfs (upd (upd v 0 0) 11 0))) 1063 = some (zO 8 (mfs (upd (upd v 0 0) 11 0))) := zup_same _ _ _
  have hA1 : zup h 1063 (zO 8 (mfs (upd (upd v 0 0) 11 0))) 1066 = some (zI 241 R) := (zup_ne (by decide)).trans hA
  have hB1 : zup h 1063 (zO 8 (mfs (upd (upd v 0 0) 11 0))) 1070 = some (zI 40 S) := (zup_ne (by decide)).trans hB
  have hF1 : upd (upd v 0 0) 11 0 14 = zb b := hF
  generalize hg : zup h 1063 (zO 8 (mfs (upd (upd v 0 0) 11 0))) = h1 at hM1 hA1 hB1 ⊢
  refine z_aload_n (pc := 4) C dX12_lonely_4 0 rfl ?_
  refine z_getf (pc := 5) C dX12_lonely_5 fX12_180 (by assumption) (by first | rfl | assumption) ?_
  rw [hF1, hb.1]
  first | refine z_ifneB (pc := 8) C 17 dX12_lonely_8 (by decide) (fun hc8 => ?_) (fun hc8 => ?_) | refine z_ifneN (pc := 8) C 17 dX12_lonely_8 (by decide) (by omega) (fun hc8 => ?_) (fun hc8 => ?_) | refine z_if_ne (pc := 8) C 17 dX12_lonely_8 (by decide) (fun hc8 => ?_) (fun hc8 => ?_)
  · skip
    have e0 : 0 < R 1 := of_decide_eq_true hc8
    refine z_bipush (pc := 17) C dX12_lonely_17 (zo none) (by decide) ?_
    refine z_istore_n (pc := 19) (lv' := [(1, _), (0, _)]) C dX12_lonely_19 (by decide) rfl ?_
    refine z_iconst (pc := 20) C dX12_lonely_20 (nI 0) (by decide) ?_
    refine z_istore_n (pc := 21) (lv' := [(2, _), (1, _), (0, _)]) C dX12_lonely_21 (by decide) rfl ?_
    refine z_sub (lv' := [(0, _), (1, _), (2, _)]) [2, 1, 0] rfl ?_
    have lp22 : ∀ (f : Nat) (k : Nat) (t : Option Nat), (k + f = R 3 ∧ t = smost (fun m => snea R S m (R 4)) k) → Zc X mX12_lonely (zEnd X (fun r hh n' => r = (some (.int (aLon R S).1)) ∧ hh = (zup h 1063 (zO 8 (mfs (mv v (aLon R S).2)))) ∧ n' = n) 0 0) 22 [(0, .ref 1063), (1, .int (zo t)), (2, .int (nI k))] [] h1 n 0 0 := by
      intro f
      induction f using Nat.strongRecOn with
      | _ f ih =>
        intro k t hk
        obtain ⟨hk, he⟩ := hk
        have e1 : ∀ x, t = some x → x < k := fun x hx => smost_lt _ _ _ (by rw [← he]; exact hx)
        have e3 := snea_le R S k (R 4)
        refine z_iload_n (pc := 22) C dX12_lonely_22 2 rfl ?_
        refine z_aload_n (pc := 23) C dX12_lonely_23 0 rfl ?_
        refine z_getf (pc := 24) C dX12_lonely_24 fX12_20 (by assumption) (by first | rfl | assumption) ?_
        refine z_iconst (pc := 27) C dX12_lonely_27 (nI 3) (by decide) ?_
        first | refine z_ialdN (pc := 28) C dX12_lonely_28 (by assumption) (by omega) (by decide) ?_ | refine z_ialdI (pc := 28) C dX12_lonely_28 (by assumption) (by omega) (by decide) ?_
        first | refine z_icmpgeN (pc := 29) C 57 dX12_lonely_29 (by decide) (by omega) (by omega) (fun hc29 => ?_) (fun hc29 => ?_) | refine z_icmp_ge (pc := 29) C 57 dX12_lonely_29 (by decide) (fun hc29 => ?_) (fun hc29 => ?_)
        · skip
          refine z_iload_n (pc := 57) C dX12_lonely_57 1 rfl ?_
          refine z_iret (pc := 58) C dX12_lonely_58 rfl (Nat.zero_le _) (Nat.zero_le _) ⟨?_, ?_, rfl⟩
          · obtain rfl : f = 0 := (by omega); obtain rfl : k = R 3 := (by omega); simp [aLon, aF, e0, he]
          · first | exact mz0 hg (by simp [aLon, aF, *]) | exact mz1 hg (by simp [aLon, aF, *] <;> rfl)
        · skip
          refine z_iload_n (pc := 32) C dX12_lonely_32 1 rfl ?_
          first | refine z_ifltO (pc := 33) C 49 dX12_lonely_33 (by decide) (fun x hx => by have := e1 x hx; omega) (fun hc33 => ?_) (fun hc33 => ?_) | refine z_ifltN (pc := 33) C 49 dX12_lonely_33 (by decide) (by omega) (fun hc33 => ?_) (fun hc33 => ?_) | refine z_if_lt (pc := 33) C 49 dX12_lonely_33 (by decide) (fun hc33 => ?_) (fun hc33 => ?_)
          · skip
            refine z_iload_n (pc := 49) C dX12_lonely_49 2 rfl ?_
            refine z_top (show nI k = zo (some k) from rfl) ?_
            refine z_istore_n (pc := 50) (lv' := [(1, _), (0, _), (2, _)]) C dX12_lonely_50 (by decide) rfl ?_
            first | refine z_iincN (pc := 51) (lv' := [(2, _), (1, _), (0, _)]) C 1 dX12_lonely_51 2 rfl (by decide) (by decide) rfl ?_ | refine z_iinc (pc := 51) (lv' := [(2, _), (1, _), (0, _)]) C dX12_lonely_51 2 rfl _ rfl (by decide) rfl ?_
            refine z_goto (pc := 54) C 22 dX12_lonely_54 (by decide) ?_
            refine z_sub (lv' := [(0, _), (1, _), (2, _)]) [2, 1, 0] rfl ?_
            exact ih (f - 1) (by omega) (k + 1) _ ⟨by omega, by rw [smost, ← he]; first | (rw [hc33]; done) | (rw [hx]; simp [hc46]; done) | (rw [hx]; simp [Nat.not_lt.mpr hc46]; done)⟩
          · skip
            obtain ⟨x, hx⟩ := hc33
            have e2 := e1 x hx
            have e5 := snea_le R S x (R 4)
            rw [hx]
            refine z_aload_n (pc := 36) C dX12_lonely_36 0 rfl ?_
            refine z_iload_n (pc := 37) C dX12_lonely_37 2 rfl ?_
            refine z_cV1 (pc := 38) mX12_nearestOf C [_] dX12_lonely_38 lX12_340 mtX12_nearestOf (tX12_nearestOf (by first | assumption | omega) (by first | assumption | omega) (by first | assumption | omega) (by first | assumption | omega) (by first | assumption | omega) (by first | assumption | omega)) (by assumption) rfl rfl (by decide) (Nat.le_of_ble_eq_true rfl) (Nat.zero_le _) (Nat.zero_le _) ?_
            refine z_aload_n (pc := 41) C dX12_lonely_41 0 rfl ?_
            refine z_iload_n (pc := 42) C dX12_lonely_42 1 rfl ?_
            refine z_top (show zo (some x) = nI x from rfl) ?_
            refine z_cV1 (pc := 43) mX12_nearestOf C [_] dX12_lonely_43 lX12_340 mtX12_nearestOf (tX12_nearestOf (by first | assumption | omega) (by first | assumption | omega) (by first | assumption | omega) (by first | assumption | omega) (by first | assumption | omega) (by first | assumption | omega)) (by assumption) rfl rfl (by decide) (Nat.le_of_ble_eq_true rfl) (Nat.zero_le _) (Nat.zero_le _) ?_
            first | refine z_icmpleN (pc := 46) C 51 dX12_lonely_46 (by decide) (by omega) (by omega) (fun hc46 => ?_) (fun hc46 => ?_) | refine z_icmp_le (pc := 46) C 51 dX12_lonely_46 (by decide) (fun hc46 => ?_) (fun hc46 => ?_)
            · skip
              first | refine z_iincN (pc := 51) (lv' := [(2, _), (0, _), (1, _)]) C 1 dX12_lonely_51 2 rfl (by decide) (by decide) rfl ?_ | refine z_iinc (pc := 51) (lv' := [(2, _), (0, _), (1, _)]) C dX12_lonely_51 2 rfl _ rfl (by decide) rfl ?_
              refine z_goto (pc := 54) C 22 dX12_lonely_54 (by decide) ?_
              refine z_sub (lv' := [(0, _), (1, _), (2, _)]) [1, 2, 0] rfl ?_
              exact ih (f - 1) (by omega) (k + 1) _ ⟨by omega, by rw [smost, ← he]; first | (rw [hc33]; done) | (rw [hx]; simp [hc46]; done) | (rw [hx]; simp [Nat.not_lt.mpr hc46]; done)⟩
            · skip
              refine z_iload_n (pc := 49) C dX12_lonely_49 2 rfl ?_
              refine z_top (show nI k = zo (some k) from rfl) ?_
              refine z_istore_n (pc := 50) (lv' := [(1, _), (0, _), (2, _)]) C dX12_lonely_50 (by decide) rfl ?_
              first | refine z_iincN (pc := 51) (lv' := [(2, _), (1, _), (0, _)]) C 1 dX12_lonely_51 2 rfl (by decide) (by decide) rfl ?_ | refine z_iinc (pc := 51) (lv' := [(2, _), (1, _), (0, _)]) C dX12_lonely_51 2 rfl _ rfl (by decide) rfl ?_
              refine z_goto (pc := 54) C 22 dX12_lonely_54 (by decide) ?_
              refine z_sub (lv' := [(0, _), (1, _), (2, _)]) [2, 1, 0] rfl ?_
              exact ih (f - 1) (by omega) (k + 1) _ ⟨by omega, by rw [smost, ← he]; first | (rw [hc33]; done) | (rw [hx]; simp [hc46]; done) | (rw [hx]; simp [Nat.not_lt.mpr hc46]; done)⟩
    exact lp22 (R 3) 0 none ⟨by omega, rfl⟩
  · skip
    have e0 : ¬ 0 < R 1 := of_decide_eq_false hc8
    refine z_aload_n (pc := 11) C dX12_lonely_11 0 rfl ?_
    refine z_iconst (pc := 12) C dX12_lonely_12 (nI 1) (by decide) ?_
    refine z_cV1 (pc := 13) mX12_no C [_] dX12_lonely_13 lX12_170 mtX12_no (tX12_no (by first | assumption | omega)) (by assumption) rfl rfl (by decide) (Nat.le_of_ble_eq_true rfl) (Nat.zero_le _) (Nat.zero_le _) ?_
    refine z_iret (pc := 16) C dX12_lonely_16 rfl (Nat.zero_le _) (Nat.zero_le _) ⟨?_, ?_, rfl⟩
    · simp [aLon, aF, e0]
    · first | exact mz0 hg (by simp [aLon, aF, *]) | exact mz1 hg (by simp [aLon, aF, *] <;> rfl)

set_option maxRecDepth 20000 in
set_option maxHeartbeats 1000000 in
theorem tX12_company {h : ZH} {v : Nat → Int32} {R S : Nat → Nat} {b : Bool} {g : Int32} (hM : h 1063 = some (zO 8 (mfs v))) (hA : h 1066 = some (zI 241 R)) (hB : h 1070 = some (zI 40 S)) (hR : wfR R) (hS : wfS R S) (hF : v 14 = zb b) (hb : wfB b R) : ZD mX12_company 5 [.ref 1063, .int g] h (some (.int (aComp R S g).1)) (zup h 1063 (zO 8 (mfs (mv v (aComp R S g).2)))) := by
  intro n
  obtain ⟨w1, w3, w4, w5, w0, wP, wM, wK, wX⟩ := id hR
  obtain ⟨wT, wL, wB⟩ := id hS
  refine z_enter (lv := [(0, _), (1, _)]) (by decide) (Nat.le_of_ble_eq_true rfl) rfl (fun X C => ?_)
  refine z_aload_n (pc := 0) C dX12_company_0 0 rfl ?_
  refine z_cV0 (pc := 1) mX12_good C [] dX12_company_1 lX12_167 mtX12_good (tX12_good (by first | assumption | omega)) (by assumption) rfl rfl (by decide) (Nat.le_of_ble_eq_true rfl) (Nat.zero_le _) (Nat.zero_le _) ?_
  have hM1 : zup h 1063 (zO 8 (mfs (upd (upd v 0 0) 11 0))) 1063 = some (zO 8 (mfs (upd (upd v 0 0) 11 0))) := zup_same _ _ _
  have hA1 : zup h 1063 (zO 8 (mfs (upd (upd v 0 0) 11 0))) 1066 = some (zI 241 R) := (zup_ne (by decide)).trans hA
  have hB1 : zup h 1063 (zO 8 (mfs (upd (upd v 0 0) 11 0))) 1070 = some (zI 40 S) := (zup_ne (by decide)).trans hB
  have hF1 : upd (upd v 0 0) 11 0 14 = zb b := hF
  generalize hg : zup h 1063 (zO 8 (mfs (upd (upd v 0 0) 11 0))) = h1 at hM1 hA1 hB1 ⊢
  refine z_aload_n (pc := 4) C dX12_company_4 0 rfl ?_
  refine z_aload_n (pc := 5) C dX12_company_5 0 rfl ?_
  refine z_getf (pc := 6) C dX12_company_6 fX12_180 (by assumption) (by first | rfl | assumption) ?_
  rw [hF1, hb.1]
  refine z_iload_n (pc := 9) C dX12_company_9 1 rfl ?_
  refine z_iconst (pc := 10) C dX12_company_10 (nI 0) (by decide) ?_
  refine z_bipush (pc := 11) C dX12_company_11 (nI 7) (by decide) ?_
  refine z_cS1 (pc := 13) mX12_in C [_, _, _] dX12_company_13 lX12_146 mtX12_in tX12_in rfl rfl (by decide) (Nat.le_of_ble_eq_true rfl) (Nat.zero_le _) (Nat.zero_le _) ?_
  rw [show decide (nI 0 ≤ g ∧ g ≤ nI 7) = zlt g 8 from zlt_le2 g (by omega)]
  refine z_cV1 (pc := 16) mX12_why C [_, _] dX12_company_16 lX12_303 mtX12_why tX12_why (by assumption) rfl rfl (by decide) (Nat.le_of_ble_eq_true rfl) (Nat.zero_le _) (Nat.zero_le _) ?_
  have e9 := swhy_le (decide (0 < R 1)) (zlt g 8)
  refine z_istore_n (pc := 19) (lv' := [(2, _), (0, _), (1, _)]) C dX12_company_19 (by decide) rfl ?_
  refine z_iload_n (pc := 20) C dX12_company_20 0 rfl ?_
  first | refine z_ifeqB (pc := 21) C 30 dX12_company_21 (by decide) (fun hc21 => ?_) (fun hc21 => ?_) | refine z_ifeqN (pc := 21) C 30 dX12_company_21 (by decide) (by omega) (fun hc21 => ?_) (fun hc21 => ?_) | refine z_if_eq (pc := 21) C 30 dX12_company_21 (by decide) (fun hc21 => ?_) (fun hc21 => ?_)
  · skip
    obtain ⟨e6, e7⟩ := swhy_0.mp hc21
    obtain ⟨q, hq, rfl⟩ := zlt_of (by omega) e7
    have pq := pn_nI (j := q) (by omega)
    have s4 : 1 <<< R 4 ≤ 64 := by rw [Nat.shiftLeft_eq, Nat.one_mul]; exact Nat.le_trans (Nat.pow_le_pow_right (n := 2) (by decide) w4) (by decide)
    refine z_bipush (pc := 30) C dX12_company_30 (zo none) (by decide) ?_
    refine z_istore_n (pc := 32) (lv' := [(3, _), (2, _), (0, _), (1, _)]) C dX12_company_32 (by decide) rfl ?_
    refine z_iconst (pc := 33) C dX12_company_33 (nI 0) (by decide) ?_
    refine z_istore (pc := 34) (lv' := [(4, _), (3, _), (2, _), (0, _), (1, _)]) C dX12_company_34 (by decide) rfl ?_
    refine z_sub (lv' := [(0, _), (1, _), (2, _), (3, _), (4, _)]) [3, 4, 2, 1, 0] rfl ?_
    have lp36 : ∀ (f : Nat) (k : Nat) (t : Option Nat), (k + f = 1 <<< R 4 ∧ t = scmp R S q k) → Zc X mX12_company (zEnd X (fun r hh n' => r = (some (.int (aComp R S (nI q)).1)) ∧ hh = (zup h 1063 (zO 8 (mfs (mv v (aComp R S (nI q)).2)))) ∧ n' = n) 0 0) 36 [(0, .ref 1063), (1, .int (nI q)), (2, .int (nI (swhy (decide (0 < R 1)) (zlt (nI q) 8)))), (3, .int (zo t)), (4, .int (nI k))] [] h1 n 0 0 := by
      intro f
      induction f using Nat.strongRecOn with
      | _ f ih =>
        intro k t hk
        obtain ⟨hk, he⟩ := hk
        have e1 : ∀ x, t = some x → x < k := fun x hx => scmp_lt _ _ _ _ _ (by rw [← he]; exact hx)
        have e3 := sone_le k 8
        refine z_iload (pc := 36) C dX12_company_36 4 rfl ?_
        refine z_iconst (pc := 38) C dX12_company_38 (nI 1) (by decide) ?_
        refine z_aload_n (pc := 39) C dX12_company_39 0 rfl ?_
        refine z_getf (pc := 40) C dX12_company_40 fX12_20 (by assumption) (by first | rfl | assumption) ?_
        refine z_iconst (pc := 43) C dX12_company_43 (nI 4) (by decide) ?_
        first | refine z_ialdN (pc := 44) C dX12_company_44 (by assumption) (by omega) (by decide) ?_ | refine z_ialdI (pc := 44) C dX12_company_44 (by assumption) (by omega) (by decide) ?_
        first | refine z_ishlN (pc := 45) C dX12_company_45 (by omega) ?_ | refine z_ishl (pc := 45) C dX12_company_45 ?_
        first | refine z_icmpgeN (pc := 46) C 84 dX12_company_46 (by decide) (by omega) (by omega) (fun hc46 => ?_) (fun hc46 => ?_) | refine z_icmp_ge (pc := 46) C 84 dX12_company_46 (by decide) (fun hc46 => ?_) (fun hc46 => ?_)
        · skip
          refine z_iload_n (pc := 84) C dX12_company_84 3 rfl ?_
          refine z_iret (pc := 85) C dX12_company_85 rfl (Nat.zero_le _) (Nat.zero_le _) ⟨?_, ?_, rfl⟩
          · obtain rfl : f = 0 := (by omega); obtain rfl : k = 1 <<< R 4 := (by omega); simp [aComp, aW, e6, e7, swhy_tt, pq, he]
          · first | exact mz0 hg (by simp [aComp, aW, swhy_tt, *]) | exact mz1 hg (by simp [aComp, aW, swhy_tt, *] <;> rfl)
        · skip
          refine z_iload_n (pc := 49) C dX12_company_49 3 rfl ?_
          first | refine z_ifltO (pc := 50) C 65 dX12_company_50 (by decide) (fun x hx => by have := e1 x hx; omega) (fun hc50 => ?_) (fun hc50 => ?_) | refine z_ifltN (pc := 50) C 65 dX12_company_50 (by decide) (by omega) (fun hc50 => ?_) (fun hc50 => ?_) | refine z_if_lt (pc := 50) C 65 dX12_company_50 (by decide) (fun hc50 => ?_) (fun hc50 => ?_)
          · skip
            refine z_aload_n (pc := 65) C dX12_company_65 0 rfl ?_
            refine z_iload (pc := 66) C dX12_company_66 4 rfl ?_
            refine z_iload_n (pc := 68) C dX12_company_68 1 rfl ?_
            refine z_cV1 (pc := 69) mX12_isCompany C [_, _] dX12_company_69 lX12_337 mtX12_isCompany (tX12_isCompany (by first | assumption | omega) (by first | assumption | omega) (by first | assumption | omega) (by first | assumption | omega) (by first | assumption | omega) (by first | assumption | omega) (by first | assumption | omega)) (by assumption) rfl rfl (by decide) (Nat.le_of_ble_eq_true rfl) (Nat.zero_le _) (Nat.zero_le _) ?_
            first | refine z_ifeqB (pc := 72) C 78 dX12_company_72 (by decide) (fun hc72 => ?_) (fun hc72 => ?_) | refine z_ifeqN (pc := 72) C 78 dX12_company_72 (by decide) (by omega) (fun hc72 => ?_) (fun hc72 => ?_) | refine z_if_eq (pc := 72) C 78 dX12_company_72 (by decide) (fun hc72 => ?_) (fun hc72 => ?_)
            · skip
              first | refine z_iincN (pc := 78) (lv' := [(4, _), (0, _), (1, _), (2, _), (3, _)]) C 1 dX12_company_78 4 rfl (by decide) (by decide) rfl ?_ | refine z_iinc (pc := 78) (lv' := [(4, _), (0, _), (1, _), (2, _), (3, _)]) C dX12_company_78 4 rfl _ rfl (by decide) rfl ?_
              refine z_goto (pc := 81) C 36 dX12_company_81 (by decide) ?_
              refine z_sub (lv' := [(0, _), (1, _), (2, _), (3, _), (4, _)]) [1, 2, 3, 4, 0] rfl ?_
              exact ih (f - 1) (by omega) (k + 1) _ ⟨by omega, by rw [scmp, ← he]; first | (rw [hc50, hc72]; done) | (rw [hc50, hc72]; rfl) | (rw [hx, hc72]; simp [hc62]; done) | (rw [hx]; simp [Nat.not_lt.mpr hc62]; done)⟩
            · skip
              refine z_iload (pc := 75) C dX12_company_75 4 rfl ?_
              refine z_top (show nI k = zo (some k) from rfl) ?_
              refine z_istore_n (pc := 77) (lv' := [(3, _), (0, _), (1, _), (2, _), (4, _)]) C dX12_company_77 (by decide) rfl ?_
              first | refine z_iincN (pc := 78) (lv' := [(4, _), (3, _), (0, _), (1, _), (2, _)]) C 1 dX12_company_78 4 rfl (by decide) (by decide) rfl ?_ | refine z_iinc (pc := 78) (lv' := [(4, _), (3, _), (0, _), (1, _), (2, _)]) C dX12_company_78 4 rfl _ rfl (by decide) rfl ?_
              refine z_goto (pc := 81) C 36 dX12_company_81 (by decide) ?_
              refine z_sub (lv' := [(0, _), (1, _), (2, _), (3, _), (4, _)]) [2, 3, 4, 1, 0] rfl ?_
              exact ih (f - 1) (by omega) (k + 1) _ ⟨by omega, by rw [scmp, ← he]; first | (rw [hc50, hc72]; done) | (rw [hc50, hc72]; rfl) | (rw [hx, hc72]; simp [hc62]; done) | (rw [hx]; simp [Nat.not_lt.mpr hc62]; done)⟩
          · skip
            obtain ⟨x, hx⟩ := hc50
            have e2 := e1 x hx
            have e4 := sone_le x 8
            rw [hx]
            refine z_iload (pc := 53) C dX12_company_53 4 rfl ?_
            refine z_cS1 (pc := 55) mX12_ones C [_] dX12_company_55 lX12_276 mtX12_ones (tX12_ones (by first | assumption | omega)) rfl rfl (by decide) (Nat.le_of_ble_eq_true rfl) (Nat.zero_le _) (Nat.zero_le _) ?_
            refine z_iload_n (pc := 58) C dX12_company_58 3 rfl ?_
            refine z_top (show zo (some x) = nI x from rfl) ?_
            refine z_cS1 (pc := 59) mX12_ones C [_] dX12_company_59 lX12_276 mtX12_ones (tX12_ones (by first | assumption | omega)) rfl rfl (by decide) (Nat.le_of_ble_eq_true rfl) (Nat.zero_le _) (Nat.zero_le _) ?_
            first | refine z_icmpgeN (pc := 62) C 78 dX12_company_62 (by decide) (by omega) (by omega) (fun hc62 => ?_) (fun hc62 => ?_) | refine z_icmp_ge (pc := 62) C 78 dX12_company_62 (by decide) (fun hc62 => ?_) (fun hc62 => ?_)
            · skip
              first | refine z_iincN (pc := 78) (lv' := [(4, _), (0, _), (1, _), (2, _), (3, _)]) C 1 dX12_company_78 4 rfl (by decide) (by decide) rfl ?_ | refine z_iinc (pc := 78) (lv' := [(4, _), (0, _), (1, _), (2, _), (3, _)]) C dX12_company_78 4 rfl _ rfl (by decide) rfl ?_
              refine z_goto (pc := 81) C 36 dX12_company_81 (by decide) ?_
              refine z_sub (lv' := [(0, _), (1, _), (2, _), (3, _), (4, _)]) [1, 2, 3, 4, 0] rfl ?_
              exact ih (f - 1) (by omega) (k + 1) _ ⟨by omega, by rw [scmp, ← he]; first | (rw [hc50, hc72]; done) | (rw [hc50, hc72]; rfl) | (rw [hx, hc72]; simp [hc62]; done) | (rw [hx]; simp [Nat.not_lt.mpr hc62]; done)⟩
            · skip
              refine z_aload_n (pc := 65) C dX12_company_65 0 rfl ?_
              refine z_iload (pc := 66) C dX12_company_66 4 rfl ?_
              refine z_iload_n (pc := 68) C dX12_company_68 1 rfl ?_
              refine z_cV1 (pc := 69) mX12_isCompany C [_, _] dX12_company_69 lX12_337 mtX12_isCompany (tX12_isCompany (by first | assumption | omega) (by first | assumption | omega) (by first | assumption | omega) (by first | assumption | omega) (by first | assumption | omega) (by first | assumption | omega) (by first | assumption | omega)) (by assumption) rfl rfl (by decide) (Nat.le_of_ble_eq_true rfl) (Nat.zero_le _) (Nat.zero_le _) ?_
              first | refine z_ifeqB (pc := 72) C 78 dX12_company_72 (by decide) (fun hc72 => ?_) (fun hc72 => ?_) | refine z_ifeqN (pc := 72) C 78 dX12_company_72 (by decide) (by omega) (fun hc72 => ?_) (fun hc72 => ?_) | refine z_if_eq (pc := 72) C 78 dX12_company_72 (by decide) (fun hc72 => ?_) (fun hc72 => ?_)
              · skip
                first | refine z_iincN (pc := 78) (lv' := [(4, _), (0, _), (1, _), (2, _), (3, _)]) C 1 dX12_company_78 4 rfl (by decide) (by decide) rfl ?_ | refine z_iinc (pc := 78) (lv' := [(4, _), (0, _), (1, _), (2, _), (3, _)]) C dX12_company_78 4 rfl _ rfl (by decide) rfl ?_
                refine z_goto (pc := 81) C 36 dX12_company_81 (by decide) ?_
                refine z_sub (lv' := [(0, _), (1, _), (2, _), (3, _), (4, _)]) [1, 2, 3, 4, 0] rfl ?_
                exact ih (f - 1) (by omega) (k + 1) _ ⟨by omega, by rw [scmp, ← he]; first | (rw [hc50, hc72]; done) | (rw [hc50, hc72]; rfl) | (rw [hx, hc72]; simp [hc62]; done) | (rw [hx]; simp [Nat.not_lt.mpr hc62]; done)⟩
              · skip
                refine z_iload (pc := 75) C dX12_company_75 4 rfl ?_
                refine z_top (show nI k = zo (some k) from rfl) ?_
                refine z_istore_n (pc := 77) (lv' := [(3, _), (0, _), (1, _), (2, _), (4, _)]) C dX12_company_77 (by decide) rfl ?_
                first | refine z_iincN (pc := 78) (lv' := [(4, _), (3, _), (0, _), (1, _), (2, _)]) C 1 dX12_company_78 4 rfl (by decide) (by decide) rfl ?_ | refine z_iinc (pc := 78) (lv' := [(4, _), (3, _), (0, _), (1, _), (2, _)]) C dX12_company_78 4 rfl _ rfl (by decide) rfl ?_
                refine z_goto (pc := 81) C 36 dX12_company_81 (by decide) ?_
                refine z_sub (lv' := [(0, _), (1, _), (2, _), (3, _), (4, _)]) [2, 3, 4, 1, 0] rfl ?_
                exact ih (f - 1) (by omega) (k + 1) _ ⟨by omega, by rw [scmp, ← he]; first | (rw [hc50, hc72]; done) | (rw [hc50, hc72]; rfl) | (rw [hx, hc72]; simp [hc62]; done) | (rw [hx]; simp [Nat.not_lt.mpr hc62]; done)⟩
    exact lp36 (1 <<< R 4) 0 none ⟨by omega, rfl⟩
  · skip
    have e5 := Nat.ne_of_gt hc21
    refine z_aload_n (pc := 24) C dX12_company_24 1 rfl ?_
    refine z_iload_n (pc := 25) C dX12_company_25 0 rfl ?_
    refine z_cV1 (pc := 26) mX12_no C [_] dX12_company_26 lX12_170 mtX12_no (tX12_no (by first | assumption | omega)) (by assumption) rfl rfl (by decide) (Nat.le_of_ble_eq_true rfl) (Nat.zero_le _) (Nat.zero_le _) ?_
    refine z_iret (pc := 29) C dX12_company_29 rfl (Nat.zero_le _) (Nat.zero_le _) ⟨?_, ?_, rfl⟩
    · simp [aComp, aW, swhy_tt, *]
    · first | exact mz0 hg (by simp [aComp, aW, swhy_tt, *]) | exact mz1 hg (by simp [aComp, aW, swhy_tt, *] <;> rfl)

set_option maxRecDepth 20000 in
set_option maxHeartbeats 1000000 in
theorem tX12_leavesOf {h : ZH} {v : Nat → Int32} {R F : Nat → Nat} {s m : Nat} (hM : h 1063 = some (zO 8 (mfs v))) (hA : h 1066 = some (zI 241 R)) (hF : h 1068 = some (zI 40 F)) (hR : wfR R) (hS : wfS R F) (hs : s < R 5) (hm : m < R 3) : ZD mX12_leavesOf 4 [.ref 1063, .int (nI s), .int (nI m)] h (some (.int (nI (slea R F s m)))) h := by
  intro n
  obtain ⟨w1, w3, w4, w5, w0, wP, wM, wK, wX⟩ := id hR
  obtain ⟨wT, wL, wB⟩ := id hS
  have e1 := sfs_ge R F s m (R 3) hm
  have e2 := sfs_le R F s (R 3)
  refine z_enter (lv := [(0, _), (1, _), (2, _)]) (by decide) (Nat.le_of_ble_eq_true rfl) rfl (fun X C => ?_)
  refine z_aload_n (pc := 0) C dX12_leavesOf_0 0 rfl ?_
  refine z_iload_n (pc := 1) C dX12_leavesOf_1 1 rfl ?_
  refine z_iload_n (pc := 2) C dX12_leavesOf_2 2 rfl ?_
  refine z_top (show nI m = zm (some m) from rfl) ?_
  refine z_cV1 (pc := 3) mX12_fitting C [_, _] dX12_leavesOf_3 lX12_361 mtX12_fitting (tX12_fitting hM hA hF hR hS hs (fun z hz => by cases hz; omega)) (by assumption) rfl rfl (by decide) (Nat.le_of_ble_eq_true rfl) (Nat.zero_le _) (Nat.zero_le _) ?_
  rw [sfq_s, if_pos hm]
  refine z_istore_n (pc := 6) (lv' := [(3, _), (0, _), (1, _), (2, _)]) C dX12_leavesOf_6 (by decide) rfl ?_
  refine z_aload_n (pc := 7) C dX12_leavesOf_7 1 rfl ?_
  refine z_iload_n (pc := 8) C dX12_leavesOf_8 2 rfl ?_
  refine z_iconst (pc := 9) C dX12_leavesOf_9 (zm none) (by decide) ?_
  refine z_cV1 (pc := 10) mX12_fitting C [_, _] dX12_leavesOf_10 lX12_361 mtX12_fitting (tX12_fitting hM hA hF hR hS hs (fun z hz => by cases hz)) (by assumption) rfl rfl (by decide) (Nat.le_of_ble_eq_true rfl) (Nat.zero_le _) (Nat.zero_le _) ?_
  rw [sfq_n]
  refine z_iload_n (pc := 13) C dX12_leavesOf_13 0 rfl ?_
  first | refine z_isubN (pc := 14) C dX12_leavesOf_14 (by omega) ?_ | refine z_isub (pc := 14) C dX12_leavesOf_14 ?_
  refine z_istore (pc := 15) (lv' := [(4, _), (3, _), (0, _), (1, _), (2, _)]) C dX12_leavesOf_15 (by decide) rfl ?_
  refine z_iload_n (pc := 17) C dX12_leavesOf_17 1 rfl ?_
  refine z_iload (pc := 18) C dX12_leavesOf_18 0 rfl ?_
  first | refine z_icmpleN (pc := 20) C 27 dX12_leavesOf_20 (by decide) (by omega) (by omega) (fun hc20 => ?_) (fun hc20 => ?_) | refine z_icmp_le (pc := 20) C 27 dX12_leavesOf_20 (by decide) (fun hc20 => ?_) (fun hc20 => ?_)
  · skip
    refine z_iload (pc := 27) C dX12_leavesOf_27 0 rfl ?_
    refine z_iret (pc := 29) C dX12_leavesOf_29 rfl (Nat.zero_le _) (Nat.zero_le _) ⟨?_, ?_, rfl⟩
    · congr 3; unfold slea; omega
    · rfl
  · skip
    refine z_iload_n (pc := 23) C dX12_leavesOf_23 1 rfl ?_
    refine z_goto (pc := 24) C 29 dX12_leavesOf_24 (by decide) ?_
    refine z_iret (pc := 29) C dX12_leavesOf_29 rfl (Nat.zero_le _) (Nat.zero_le _) ⟨?_, ?_, rfl⟩
    · congr 3; unfold slea; omega
    · rfl

set_option maxRecDepth 20000 in
set_option maxHeartbeats 1000000 in
theorem tX12_askOf {h : ZH} {v : Nat → Int32} {R F : Nat → Nat} {s : Nat} (hM : h 1063 = some (zO 8 (mfs v))) (hA : h 1066 = some (zI 241 R)) (hF : h 1068 = some (zI 40 F)) (hR : wfR R) (hS : wfS R F) (hs : s < R 5) : ZD mX12_askOf 5 [.ref 1063, .int (nI s)] h (some (.int (zo (sAsk R F s)))) h := by
  intro n
  obtain ⟨w1, w3, w4, w5, w0, wP, wM, wK, wX⟩ := id hR
  obtain ⟨wT, wL, wB⟩ := id hS
  have e0 := sfs_le R F s (R 3)
  refine z_enter (lv := [(0, _), (1, _)]) (by decide) (Nat.le_of_ble_eq_true rfl) rfl (fun X C => ?_)
  refine z_bipush (pc := 0) C dX12_askOf_0 (zo none) (by decide) ?_
  refine z_istore_n (pc := 2) (lv' := [(2, _), (0, _), (1, _)]) C dX12_askOf_2 (by decide) rfl ?_
  refine z_iconst (pc := 3) C dX12_askOf_3 (nI 0) (by decide) ?_
  refine z_istore_n (pc := 4) (lv' := [(3, _), (2, _), (0, _), (1, _)]) C dX12_askOf_4 (by decide) rfl ?_
  refine z_sub (lv' := [(0, _), (1, _), (2, _), (3, _)]) [2, 3, 1, 0] rfl ?_
  have lp5 : ∀ (f : Nat) (k : Nat) (t : Option Nat), (k + f = R 3 ∧ t = sleast (slea R F s) k ∧ (k = 0 ∨ 0 < sfs R F s (R 3))) → Zc X mX12_askOf (zEnd X (fun r hh n' => r = (some (.int (zo (sAsk R F s)))) ∧ hh = h ∧ n' = n) 0 0) 5 [(0, .ref 1063), (1, .int (nI s)), (2, .int (zo t)), (3, .int (nI k))] [] h n 0 0 := by
    intro f
    induction f using Nat.strongRecOn with
    | _ f ih =>
      intro k t hk
      obtain ⟨hk, he, hz⟩ := hk
      have e1 : ∀ x, t = some x → x < k := fun x hx => sleast_lt _ _ _ (by rw [← he]; exact hx)
      have e3 := slea_le R F s k w3
      refine z_iload_n (pc := 5) C dX12_askOf_5 3 rfl ?_
      refine z_aload_n (pc := 6) C dX12_askOf_6 0 rfl ?_
      refine z_getf (pc := 7) C dX12_askOf_7 fX12_20 (by assumption) (by first | rfl | assumption) ?_
      refine z_iconst (pc := 10) C dX12_askOf_10 (nI 3) (by decide) ?_
      first | refine z_ialdN (pc := 11) C dX12_askOf_11 (by assumption) (by omega) (by decide) ?_ | refine z_ialdI (pc := 11) C dX12_askOf_11 (by assumption) (by omega) (by decide) ?_
      first | refine z_icmpgeN (pc := 12) C 51 dX12_askOf_12 (by decide) (by omega) (by omega) (fun hc12 => ?_) (fun hc12 => ?_) | refine z_icmp_ge (pc := 12) C 51 dX12_askOf_12 (by decide) (fun hc12 => ?_) (fun hc12 => ?_)
      · skip
        have e7 : t = sAsk R F s := by
          obtain rfl : f = 0 := (by omega)
          obtain rfl : k = R 3 := (by omega)
          unfold sAsk
          rcases hz with hz | hz
          · rw [he, hz]; simp [sleast]
          · rw [if_pos hz, he]
        refine z_iload_n (pc := 51) C dX12_askOf_51 2 rfl ?_
        refine z_iret (pc := 52) C dX12_askOf_52 rfl (Nat.zero_le _) (Nat.zero_le _) ⟨?_, ?_, rfl⟩
        · rw [e7]
        · rfl
      · skip
        refine z_aload_n (pc := 15) C dX12_askOf_15 0 rfl ?_
        refine z_iload_n (pc := 16) C dX12_askOf_16 1 rfl ?_
        refine z_iconst (pc := 17) C dX12_askOf_17 (zm none) (by decide) ?_
        refine z_cV1 (pc := 18) mX12_fitting C [_, _] dX12_askOf_18 lX12_361 mtX12_fitting (tX12_fitting hM hA hF hR hS hs (fun z hz => by cases hz)) (by assumption) rfl rfl (by decide) (Nat.le_of_ble_eq_true rfl) (Nat.zero_le _) (Nat.zero_le _) ?_
        rw [sfq_n]
        first | refine z_ifleN (pc := 21) C 51 dX12_askOf_21 (by decide) (by omega) (fun hc21 => ?_) (fun hc21 => ?_) | refine z_if_le (pc := 21) C 51 dX12_askOf_21 (by decide) (fun hc21 => ?_) (fun hc21 => ?_)
        · skip
          have e7 : t = sAsk R F s := by
            obtain rfl : k = 0 := (by omega)
            unfold sAsk
            rw [if_neg (by omega), he]; rfl
          refine z_iload_n (pc := 51) C dX12_askOf_51 2 rfl ?_
          refine z_iret (pc := 52) C dX12_askOf_52 rfl (Nat.zero_le _) (Nat.zero_le _) ⟨?_, ?_, rfl⟩
          · rw [e7]
          · rfl
        · skip
          refine z_iload_n (pc := 24) C dX12_askOf_24 2 rfl ?_
          first | refine z_ifltO (pc := 25) C 43 dX12_askOf_25 (by decide) (fun x hx => by have := e1 x hx; omega) (fun hc25 => ?_) (fun hc25 => ?_) | refine z_ifltN (pc := 25) C 43 dX12_askOf_25 (by decide) (by omega) (fun hc25 => ?_) (fun hc25 => ?_) | refine z_if_lt (pc := 25) C 43 dX12_askOf_25 (by decide) (fun hc25 => ?_) (fun hc25 => ?_)
          · skip
            refine z_iload_n (pc := 43) C dX12_askOf_43 3 rfl ?_
            refine z_top (show nI k = zo (some k) from rfl) ?_
            refine z_istore_n (pc := 44) (lv' := [(2, _), (0, _), (1, _), (3, _)]) C dX12_askOf_44 (by decide) rfl ?_
            first | refine z_iincN (pc := 45) (lv' := [(3, _), (2, _), (0, _), (1, _)]) C 1 dX12_askOf_45 3 rfl (by decide) (by decide) rfl ?_ | refine z_iinc (pc := 45) (lv' := [(3, _), (2, _), (0, _), (1, _)]) C dX12_askOf_45 3 rfl _ rfl (by decide) rfl ?_
            refine z_goto (pc := 48) C 5 dX12_askOf_48 (by decide) ?_
            refine z_sub (lv' := [(0, _), (1, _), (2, _), (3, _)]) [2, 3, 1, 0] rfl ?_
            exact ih (f - 1) (by omega) (k + 1) _ ⟨by omega, by rw [sleast, ← he]; first | (rw [hc25]; done) | (rw [hx]; simp [hc40]; done) | (rw [hx]; simp [Nat.not_lt.mpr hc40]; done), Or.inr hc21⟩
          · skip
            obtain ⟨x, hx⟩ := hc25
            have e2 := e1 x hx
            have e5 := slea_le R F s x w3
            rw [hx]
            refine z_aload_n (pc := 28) C dX12_askOf_28 0 rfl ?_
            refine z_iload_n (pc := 29) C dX12_askOf_29 1 rfl ?_
            refine z_iload_n (pc := 30) C dX12_askOf_30 3 rfl ?_
            refine z_cV1 (pc := 31) mX12_leavesOf C [_, _] dX12_askOf_31 lX12_364 mtX12_leavesOf (tX12_leavesOf hM hA hF hR hS hs (by omega)) (by assumption) rfl rfl (by decide) (Nat.le_of_ble_eq_true rfl) (Nat.zero_le _) (Nat.zero_le _) ?_
            refine z_aload_n (pc := 34) C dX12_askOf_34 0 rfl ?_
            refine z_iload_n (pc := 35) C dX12_askOf_35 1 rfl ?_
            refine z_iload_n (pc := 36) C dX12_askOf_36 2 rfl ?_
            refine z_top (show zo (some x) = nI x from rfl) ?_
            refine z_cV1 (pc := 37) mX12_leavesOf C [_, _] dX12_askOf_37 lX12_364 mtX12_leavesOf (tX12_leavesOf hM hA hF hR hS hs (by omega)) (by assumption) rfl rfl (by decide) (Nat.le_of_ble_eq_true rfl) (Nat.zero_le _) (Nat.zero_le _) ?_
            first | refine z_icmpgeN (pc := 40) C 45 dX12_askOf_40 (by decide) (by omega) (by omega) (fun hc40 => ?_) (fun hc40 => ?_) | refine z_icmp_ge (pc := 40) C 45 dX12_askOf_40 (by decide) (fun hc40 => ?_) (fun hc40 => ?_)
            · skip
              first | refine z_iincN (pc := 45) (lv' := [(3, _), (0, _), (1, _), (2, _)]) C 1 dX12_askOf_45 3 rfl (by decide) (by decide) rfl ?_ | refine z_iinc (pc := 45) (lv' := [(3, _), (0, _), (1, _), (2, _)]) C dX12_askOf_45 3 rfl _ rfl (by decide) rfl ?_
              refine z_goto (pc := 48) C 5 dX12_askOf_48 (by decide) ?_
              refine z_sub (lv' := [(0, _), (1, _), (2, _), (3, _)]) [1, 2, 3, 0] rfl ?_
              exact ih (f - 1) (by omega) (k + 1) _ ⟨by omega, by rw [sleast, ← he]; first | (rw [hc25]; done) | (rw [hx]; simp [hc40]; done) | (rw [hx]; simp [Nat.not_lt.mpr hc40]; done), Or.inr hc21⟩
            · skip
              refine z_iload_n (pc := 43) C dX12_askOf_43 3 rfl ?_
              refine z_top (show nI k = zo (some k) from rfl) ?_
              refine z_istore_n (pc := 44) (lv' := [(2, _), (0, _), (1, _), (3, _)]) C dX12_askOf_44 (by decide) rfl ?_
              first | refine z_iincN (pc := 45) (lv' := [(3, _), (2, _), (0, _), (1, _)]) C 1 dX12_askOf_45 3 rfl (by decide) (by decide) rfl ?_ | refine z_iinc (pc := 45) (lv' := [(3, _), (2, _), (0, _), (1, _)]) C dX12_askOf_45 3 rfl _ rfl (by decide) rfl ?_
              refine z_goto (pc := 48) C 5 dX12_askOf_48 (by decide) ?_
              refine z_sub (lv' := [(0, _), (1, _), (2, _), (3, _)]) [2, 3, 1, 0] rfl ?_
              exact ih (f - 1) (by omega) (k + 1) _ ⟨by omega, by rw [sleast, ← he]; first | (rw [hc25]; done) | (rw [hx]; simp [hc40]; done) | (rw [hx]; simp [Nat.not_lt.mpr hc40]; done), Or.inr hc21⟩
  exact lp5 (R 3) 0 none ⟨by omega, rfl, Or.inl rfl⟩

set_option maxRecDepth 20000 in
set_option maxHeartbeats 1000000 in
theorem tX12_fits {h : ZH} {v : Nat → Int32} {R S F : Nat → Nat} {b : Bool} {s : Int32} (hM : h 1063 = some (zO 8 (mfs v))) (hA : h 1066 = some (zI 241 R)) (hB : h 1070 = some (zI 40 S)) (hG : h 1068 = some (zI 40 F)) (hR : wfR R) (hS : wfS R S) (hT : wfS R F) (hF : v 14 = zb b) (hb : wfB b R) : ZD mX12_fits 4 [.ref 1063, .int s] h (some (.int (aFits R F s).1)) (zup h 1063 (zO 8 (mfs (mv v (aFits R F s).2)))) := by
  intro n
  obtain ⟨w1, w3, w4, w5, w0, wP, wM, wK, wX⟩ := id hR
  obtain ⟨wT, wL, wB⟩ := id hS
  refine z_enter (lv := [(0, _), (1, _)]) (by decide) (Nat.le_of_ble_eq_true rfl) rfl (fun X C => ?_)
  refine z_aload_n (pc := 0) C dX12_fits_0 0 rfl ?_
  refine z_cV0 (pc := 1) mX12_good C [] dX12_fits_1 lX12_167 mtX12_good (tX12_good (by first | assumption | omega)) (by assumption) rfl rfl (by decide) (Nat.le_of_ble_eq_true rfl) (Nat.zero_le _) (Nat.zero_le _) ?_
  have hM1 : zup h 1063 (zO 8 (mfs (upd (upd v 0 0) 11 0))) 1063 = some (zO 8 (mfs (upd (upd v 0 0) 11 0))) := zup_same _ _ _
  have hA1 : zup h 1063 (zO 8 (mfs (upd (upd v 0 0) 11 0))) 1066 = some (zI 241 R) := (zup_ne (by decide)).trans hA
  have hB1 : zup h 1063 (zO 8 (mfs (upd (upd v 0 0) 11 0))) 1070 = some (zI 40 S) := (zup_ne (by decide)).trans hB
  have hG1 : zup h 1063 (zO 8 (mfs (upd (upd v 0 0) 11 0))) 1068 = some (zI 40 F) := (zup_ne (by decide)).trans hG
  have hF1 : upd (upd v 0 0) 11 0 14 = zb b := hF
  generalize hg : zup h 1063 (zO 8 (mfs (upd (upd v 0 0) 11 0))) = h1 at hM1 hA1 hB1 hG1 ⊢
  refine z_aload_n (pc := 4) C dX12_fits_4 0 rfl ?_
  refine z_iload_n (pc := 5) C dX12_fits_5 1 rfl ?_
  refine z_cV1 (pc := 6) mX12_isStray C [_] dX12_fits_6 lX12_358 mtX12_isStray (tX12_isStray (by first | assumption | omega) (by first | assumption | omega) (by first | assumption | omega) (by first | assumption | omega)) (by assumption) rfl rfl (by decide) (Nat.le_of_ble_eq_true rfl) (Nat.zero_le _) (Nat.zero_le _) ?_
  rw [wfB_s hb s]
  first | refine z_ifeqB (pc := 9) C 21 dX12_fits_9 (by decide) (fun hc9 => ?_) (fun hc9 => ?_) | refine z_ifeqN (pc := 9) C 21 dX12_fits_9 (by decide) (by omega) (fun hc9 => ?_) (fun hc9 => ?_) | refine z_if_eq (pc := 9) C 21 dX12_fits_9 (by decide) (fun hc9 => ?_) (fun hc9 => ?_)
  · skip
    refine z_aload_n (pc := 21) C dX12_fits_21 0 rfl ?_
    refine z_iconst (pc := 22) C dX12_fits_22 (nI 1) (by decide) ?_
    refine z_cV1 (pc := 23) mX12_no C [_] dX12_fits_23 lX12_170 mtX12_no (tX12_no (by first | assumption | omega)) (by assumption) rfl rfl (by decide) (Nat.le_of_ble_eq_true rfl) (Nat.zero_le _) (Nat.zero_le _) ?_
    refine z_iret (pc := 26) C dX12_fits_26 rfl (Nat.zero_le _) (Nat.zero_le _) ⟨?_, ?_, rfl⟩
    · simp [aFits, aS, *]
    · first | exact mz0 hg (by simp [aFits, aS, *]) | exact mz1 hg (by simp [aFits, aS, *] <;> rfl)
  · skip
    obtain ⟨j, hj, rfl⟩ := zlt_of (by omega) hc9
    have pj := pn_nI (j := j) (by omega)
    refine z_aload_n (pc := 12) C dX12_fits_12 0 rfl ?_
    refine z_iload_n (pc := 13) C dX12_fits_13 1 rfl ?_
    refine z_iconst (pc := 14) C dX12_fits_14 (zm none) (by decide) ?_
    refine z_cV1 (pc := 15) mX12_fitting C [_, _] dX12_fits_15 lX12_361 mtX12_fitting (tX12_fitting hM1 hA1 hG1 hR hT hj (fun z hz => by cases hz)) (by assumption) rfl rfl (by decide) (Nat.le_of_ble_eq_true rfl) (Nat.zero_le _) (Nat.zero_le _) ?_
    rw [sfq_n]
    refine z_goto (pc := 18) C 26 dX12_fits_18 (by decide) ?_
    refine z_iret (pc := 26) C dX12_fits_26 rfl (Nat.zero_le _) (Nat.zero_le _) ⟨?_, ?_, rfl⟩
    · simp [aFits, aS, *]
    · first | exact mz0 hg (by simp [aFits, aS, *]) | exact mz1 hg (by simp [aFits, aS, *] <;> rfl)

set_option maxRecDepth 20000 in
set_option maxHeartbeats 1000000 in
theorem tX12_could {h : ZH} {v : Nat → Int32} {R S F : Nat → Nat} {b : Bool} {s : Int32} (hM : h 1063 = some (zO 8 (mfs v))) (hA : h 1066 = some (zI 241 R)) (hB : h 1070 = some (zI 40 S)) (hG : h 1068 = some (zI 40 F)) (hR : wfR R) (hS : wfS R S) (hT : wfS R F) (hF : v 14 = zb b) (hb : wfB b R) : ZD mX12_could 4 [.ref 1063, .int s] h (some (.int (aCould R F s).1)) (zup h 1063 (zO 8 (mfs (mv v (aCould R F s).2)))) := by
  intro n
  obtain ⟨w1, w3, w4, w5, w0, wP, wM, wK, wX⟩ := id hR
  obtain ⟨wT, wL, wB⟩ := id hS
  refine z_enter (lv := [(0, _), (1, _)]) (by decide) (Nat.le_of_ble_eq_true rfl) rfl (fun X C => ?_)
  refine z_aload_n (pc := 0) C dX12_could_0 0 rfl ?_
  refine z_cV0 (pc := 1) mX12_good C [] dX12_could_1 lX12_167 mtX12_good (tX12_good (by first | assumption | omega)) (by assumption) rfl rfl (by decide) (Nat.le_of_ble_eq_true rfl) (Nat.zero_le _) (Nat.zero_le _) ?_
  have hM1 : zup h 1063 (zO 8 (mfs (upd (upd v 0 0) 11 0))) 1063 = some (zO 8 (mfs (upd (upd v 0 0) 11 0))) := zup_same _ _ _
  have hA1 : zup h 1063 (zO 8 (mfs (upd (upd v 0 0) 11 0))) 1066 = some (zI 241 R) := (zup_ne (by decide)).trans hA
  have hB1 : zup h 1063 (zO 8 (mfs (upd (upd v 0 0) 11 0))) 1070 = some (zI 40 S) := (zup_ne (by decide)).trans hB
  have hG1 : zup h 1063 (zO 8 (mfs (upd (upd v 0 0) 11 0))) 1068 = some (zI 40 F) := (zup_ne (by decide)).trans hG
  have hF1 : upd (upd v 0 0) 11 0 14 = zb b := hF
  generalize hg : zup h 1063 (zO 8 (mfs (upd (upd v 0 0) 11 0))) = h1 at hM1 hA1 hB1 hG1 ⊢
  refine z_aload_n (pc := 4) C dX12_could_4 0 rfl ?_
  refine z_iload_n (pc := 5) C dX12_could_5 1 rfl ?_
  refine z_cV1 (pc := 6) mX12_isStray C [_] dX12_could_6 lX12_358 mtX12_isStray (tX12_isStray (by first | assumption | omega) (by first | assumption | omega) (by first | assumption | omega) (by first | assumption | omega)) (by assumption) rfl rfl (by decide) (Nat.le_of_ble_eq_true rfl) (Nat.zero_le _) (Nat.zero_le _) ?_
  rw [wfB_s hb s]
  first | refine z_ifneB (pc := 9) C 18 dX12_could_9 (by decide) (fun hc9 => ?_) (fun hc9 => ?_) | refine z_ifneN (pc := 9) C 18 dX12_could_9 (by decide) (by omega) (fun hc9 => ?_) (fun hc9 => ?_) | refine z_if_ne (pc := 9) C 18 dX12_could_9 (by decide) (fun hc9 => ?_) (fun hc9 => ?_)
  · skip
    obtain ⟨j, hj, rfl⟩ := zlt_of (by omega) hc9
    have pj := pn_nI (j := j) (by omega)
    refine z_iconst (pc := 18) C dX12_could_18 (nI 0) (by decide) ?_
    refine z_istore_n (pc := 19) (lv' := [(2, _), (0, _), (1, _)]) C dX12_could_19 (by decide) rfl ?_
    refine z_iconst (pc := 20) C dX12_could_20 (nI 0) (by decide) ?_
    refine z_istore_n (pc := 21) (lv' := [(3, _), (2, _), (0, _), (1, _)]) C dX12_could_21 (by decide) rfl ?_
    refine z_sub (lv' := [(0, _), (1, _), (2, _), (3, _)]) [2, 3, 1, 0] rfl ?_
    have lp22 : ∀ (f : Nat) (k acc : Nat), (k + f = R 3 ∧ acc = sbits (fun m => decide (0 < sfi R F j m 4)) k) → Zc X mX12_could (zEnd X (fun r hh n' => r = (some (.int (aCould R F (nI j)).1)) ∧ hh = (zup h 1063 (zO 8 (mfs (mv v (aCould R F (nI j)).2)))) ∧ n' = n) 0 0) 22 [(0, .ref 1063), (1, .int (nI j)), (2, .int (nI acc)), (3, .int (nI k))] [] h1 n 0 0 := by
      intro f
      induction f using Nat.strongRecOn with
      | _ f ih =>
        intro k acc hk
        obtain ⟨hk, he⟩ := hk
        refine z_iload_n (pc := 22) C dX12_could_22 3 rfl ?_
        refine z_aload_n (pc := 23) C dX12_could_23 0 rfl ?_
        refine z_getf (pc := 24) C dX12_could_24 fX12_20 (by assumption) (by first | rfl | assumption) ?_
        refine z_iconst (pc := 27) C dX12_could_27 (nI 3) (by decide) ?_
        first | refine z_ialdN (pc := 28) C dX12_could_28 (by assumption) (by omega) (by decide) ?_ | refine z_ialdI (pc := 28) C dX12_could_28 (by assumption) (by omega) (by decide) ?_
        first | refine z_icmpgeN (pc := 29) C 57 dX12_could_29 (by decide) (by omega) (by omega) (fun hc29 => ?_) (fun hc29 => ?_) | refine z_icmp_ge (pc := 29) C 57 dX12_could_29 (by decide) (fun hc29 => ?_) (fun hc29 => ?_)
        · skip
          refine z_iload_n (pc := 57) C dX12_could_57 2 rfl ?_
          refine z_iret (pc := 58) C dX12_could_58 rfl (Nat.zero_le _) (Nat.zero_le _) ⟨?_, ?_, rfl⟩
          · obtain rfl : f = 0 := (by omega); obtain rfl : k = R 3 := (by omega); simp [aCould, aS, *]
          · first | exact mz0 hg (by simp [aCould, aS, *]) | exact mz1 hg (by simp [aCould, aS, *] <;> rfl)
        · skip
          refine z_iload_n (pc := 32) C dX12_could_32 2 rfl ?_
          refine z_aload_n (pc := 33) C dX12_could_33 0 rfl ?_
          refine z_iload_n (pc := 34) C dX12_could_34 1 rfl ?_
          refine z_iload_n (pc := 35) C dX12_could_35 3 rfl ?_
          refine z_top (show nI k = zm (some k) from rfl) ?_
          refine z_cV1 (pc := 36) mX12_fitting C [_, _] dX12_could_36 lX12_361 mtX12_fitting (tX12_fitting hM1 hA1 hG1 hR hT hj (fun z hz => by cases hz; omega)) (by assumption) rfl rfl (by decide) (Nat.le_of_ble_eq_true rfl) (Nat.zero_le _) (Nat.zero_le _) ?_
          rw [sfq_s, if_pos (show k < R 3 by omega)]
          have e5 := sfi_le R F j k 4
          first | refine z_ifleN (pc := 39) C 48 dX12_could_39 (by decide) (by omega) (fun hc39 => ?_) (fun hc39 => ?_) | refine z_if_le (pc := 39) C 48 dX12_could_39 (by decide) (fun hc39 => ?_) (fun hc39 => ?_)
          · skip
            refine z_iconst (pc := 48) C dX12_could_48 (nI 0) (by decide) ?_
            first | refine z_iorN (pc := 49) C dX12_could_49 ?_ | refine z_ior (pc := 49) C dX12_could_49 ?_
            refine z_istore_n (pc := 50) (lv' := [(2, _), (0, _), (1, _), (3, _)]) C dX12_could_50 (by decide) rfl ?_
            first | refine z_iincN (pc := 51) (lv' := [(3, _), (2, _), (0, _), (1, _)]) C 1 dX12_could_51 3 rfl (by decide) (by decide) rfl ?_ | refine z_iinc (pc := 51) (lv' := [(3, _), (2, _), (0, _), (1, _)]) C dX12_could_51 3 rfl _ rfl (by decide) rfl ?_
            refine z_goto (pc := 54) C 22 dX12_could_54 (by decide) ?_
            refine z_sub (lv' := [(0, _), (1, _), (2, _), (3, _)]) [2, 3, 1, 0] rfl ?_
            exact ih (f - 1) (by omega) (k + 1) _ ⟨by omega, by rw [he, sbits]; clear he ih; simp [*]⟩
          · skip
            refine z_iconst (pc := 42) C dX12_could_42 (nI 1) (by decide) ?_
            refine z_iload_n (pc := 43) C dX12_could_43 3 rfl ?_
            first | refine z_ishlN (pc := 44) C dX12_could_44 (by omega) ?_ | refine z_ishl (pc := 44) C dX12_could_44 ?_
            refine z_goto (pc := 45) C 49 dX12_could_45 (by decide) ?_
            first | refine z_iorN (pc := 49) C dX12_could_49 ?_ | refine z_ior (pc := 49) C dX12_could_49 ?_
            refine z_istore_n (pc := 50) (lv' := [(2, _), (0, _), (1, _), (3, _)]) C dX12_could_50 (by decide) rfl ?_
            first | refine z_iincN (pc := 51) (lv' := [(3, _), (2, _), (0, _), (1, _)]) C 1 dX12_could_51 3 rfl (by decide) (by decide) rfl ?_ | refine z_iinc (pc := 51) (lv' := [(3, _), (2, _), (0, _), (1, _)]) C dX12_could_51 3 rfl _ rfl (by decide) rfl ?_
            refine z_goto (pc := 54) C 22 dX12_could_54 (by decide) ?_
            refine z_sub (lv' := [(0, _), (1, _), (2, _), (3, _)]) [2, 3, 1, 0] rfl ?_
            exact ih (f - 1) (by omega) (k + 1) _ ⟨by omega, by rw [he, sbits]; clear he ih; simp [*]⟩
    exact lp22 (R 3) 0 0 ⟨by omega, rfl⟩
  · skip
    refine z_aload_n (pc := 12) C dX12_could_12 0 rfl ?_
    refine z_iconst (pc := 13) C dX12_could_13 (nI 1) (by decide) ?_
    refine z_cV1 (pc := 14) mX12_no C [_] dX12_could_14 lX12_170 mtX12_no (tX12_no (by first | assumption | omega)) (by assumption) rfl rfl (by decide) (Nat.le_of_ble_eq_true rfl) (Nat.zero_le _) (Nat.zero_le _) ?_
    refine z_iret (pc := 17) C dX12_could_17 rfl (Nat.zero_le _) (Nat.zero_le _) ⟨?_, ?_, rfl⟩
    · simp [aCould, aS, *]
    · first | exact mz0 hg (by simp [aCould, aS, *]) | exact mz1 hg (by simp [aCould, aS, *] <;> rfl)

set_option maxRecDepth 20000 in
set_option maxHeartbeats 1000000 in
theorem tX12_ask {h : ZH} {v : Nat → Int32} {R S F : Nat → Nat} {b : Bool} {s : Int32} (hM : h 1063 = some (zO 8 (mfs v))) (hA : h 1066 = some (zI 241 R)) (hB : h 1070 = some (zI 40 S)) (hG : h 1068 = some (zI 40 F)) (hR : wfR R) (hS : wfS R S) (hT : wfS R F) (hF : v 14 = zb b) (hb : wfB b R) : ZD mX12_ask 6 [.ref 1063, .int s] h (some (.int (aAsk R F s).1)) (zup h 1063 (zO 8 (mfs (mv v (aAsk R F s).2)))) := by
  intro n
  obtain ⟨w1, w3, w4, w5, w0, wP, wM, wK, wX⟩ := id hR
  obtain ⟨wT, wL, wB⟩ := id hS
  refine z_enter (lv := [(0, _), (1, _)]) (by decide) (Nat.le_of_ble_eq_true rfl) rfl (fun X C => ?_)
  refine z_aload_n (pc := 0) C dX12_ask_0 0 rfl ?_
  refine z_cV0 (pc := 1) mX12_good C [] dX12_ask_1 lX12_167 mtX12_good (tX12_good (by first | assumption | omega)) (by assumption) rfl rfl (by decide) (Nat.le_of_ble_eq_true rfl) (Nat.zero_le _) (Nat.zero_le _) ?_
  have hM1 : zup h 1063 (zO 8 (mfs (upd (upd v 0 0) 11 0))) 1063 = some (zO 8 (mfs (upd (upd v 0 0) 11 0))) := zup_same _ _ _
  have hA1 : zup h 1063 (zO 8 (mfs (upd (upd v 0 0) 11 0))) 1066 = some (zI 241 R) := (zup_ne (by decide)).trans hA
  have hB1 : zup h 1063 (zO 8 (mfs (upd (upd v 0 0) 11 0))) 1070 = some (zI 40 S) := (zup_ne (by decide)).trans hB
  have hG1 : zup h 1063 (zO 8 (mfs (upd (upd v 0 0) 11 0))) 1068 = some (zI 40 F) := (zup_ne (by decide)).trans hG
  have hF1 : upd (upd v 0 0) 11 0 14 = zb b := hF
  generalize hg : zup h 1063 (zO 8 (mfs (upd (upd v 0 0) 11 0))) = h1 at hM1 hA1 hB1 hG1 ⊢
  refine z_aload_n (pc := 4) C dX12_ask_4 0 rfl ?_
  refine z_iload_n (pc := 5) C dX12_ask_5 1 rfl ?_
  refine z_cV1 (pc := 6) mX12_isStray C [_] dX12_ask_6 lX12_358 mtX12_isStray (tX12_isStray (by first | assumption | omega) (by first | assumption | omega) (by first | assumption | omega) (by first | assumption | omega)) (by assumption) rfl rfl (by decide) (Nat.le_of_ble_eq_true rfl) (Nat.zero_le _) (Nat.zero_le _) ?_
  rw [wfB_s hb s]
  first | refine z_ifeqB (pc := 9) C 20 dX12_ask_9 (by decide) (fun hc9 => ?_) (fun hc9 => ?_) | refine z_ifeqN (pc := 9) C 20 dX12_ask_9 (by decide) (by omega) (fun hc9 => ?_) (fun hc9 => ?_) | refine z_if_eq (pc := 9) C 20 dX12_ask_9 (by decide) (fun hc9 => ?_) (fun hc9 => ?_)
  · skip
    refine z_aload_n (pc := 20) C dX12_ask_20 0 rfl ?_
    refine z_iconst (pc := 21) C dX12_ask_21 (nI 1) (by decide) ?_
    refine z_cV1 (pc := 22) mX12_no C [_] dX12_ask_22 lX12_170 mtX12_no (tX12_no (by first | assumption | omega)) (by assumption) rfl rfl (by decide) (Nat.le_of_ble_eq_true rfl) (Nat.zero_le _) (Nat.zero_le _) ?_
    refine z_iret (pc := 25) C dX12_ask_25 rfl (Nat.zero_le _) (Nat.zero_le _) ⟨?_, ?_, rfl⟩
    · simp [aAsk, aS, *]
    · first | exact mz0 hg (by simp [aAsk, aS, *]) | exact mz1 hg (by simp [aAsk, aS, *] <;> rfl)
  · skip
    obtain ⟨j, hj, rfl⟩ := zlt_of (by omega) hc9
    have pj := pn_nI (j := j) (by omega)
    refine z_aload_n (pc := 12) C dX12_ask_12 0 rfl ?_
    refine z_iload_n (pc := 13) C dX12_ask_13 1 rfl ?_
    refine z_cV1 (pc := 14) mX12_askOf C [_] dX12_ask_14 lX12_367 mtX12_askOf (tX12_askOf hM1 hA1 hG1 hR hT hj) (by assumption) rfl rfl (by decide) (Nat.le_of_ble_eq_true rfl) (Nat.zero_le _) (Nat.zero_le _) ?_
    refine z_goto (pc := 17) C 25 dX12_ask_17 (by decide) ?_
    refine z_iret (pc := 25) C dX12_ask_25 rfl (Nat.zero_le _) (Nat.zero_le _) ⟨?_, ?_, rfl⟩
    · simp [aAsk, aS, *]
    · first | exact mz0 hg (by simp [aAsk, aS, *]) | exact mz1 hg (by simp [aAsk, aS, *] <;> rfl)

set_option maxRecDepth 20000 in
set_option maxHeartbeats 1000000 in
theorem tX12_fault {h : ZH} {v : Nat → Int32} (hM : h 1063 = some (zO 8 (mfs v))) : ZD mX12_fault 0 [.ref 1063] h (some (.int (v 9))) (zup h 1063 (zO 8 (mfs (upd v 0 0)))) := by
  intro n
  refine z_enter (lv := [(0, _)]) (by decide) (Nat.le_of_ble_eq_true rfl) rfl (fun X C => ?_)
  refine z_aload_n (pc := 0) C dX12_fault_0 0 rfl ?_
  refine z_iconst (pc := 1) C dX12_fault_1 (nI 0) (by decide) ?_
  refine z_putf (pc := 2) (fs' := mfs (upd _ 0 _)) C dX12_fault_2 gX12_56 (by assumption) (fun _ => ⟨rfl, rfl⟩) (by exact Nat.le_of_ble_eq_true rfl) (mfs_set _ 0 _ (by decide)) ?_
  refine z_aload_n (pc := 5) C dX12_fault_5 0 rfl ?_
  refine z_getf (pc := 6) C dX12_fault_6 fX12_98 (zup_same _ _ _) (by first | rfl | assumption) ?_
  refine z_iret (pc := 9) C dX12_fault_9 rfl (Nat.zero_le _) (Nat.zero_le _) ⟨?_, ?_, rfl⟩
  · first | rfl | simp_all
  · rfl

set_option maxRecDepth 20000 in
set_option maxHeartbeats 1000000 in
theorem tX12_trouble {h : ZH} {v : Nat → Int32} (hM : h 1063 = some (zO 8 (mfs v))) : ZD mX12_trouble 0 [.ref 1063] h (some (.int (v 11))) (zup h 1063 (zO 8 (mfs (upd v 0 0)))) := by
  intro n
  refine z_enter (lv := [(0, _)]) (by decide) (Nat.le_of_ble_eq_true rfl) rfl (fun X C => ?_)
  refine z_aload_n (pc := 0) C dX12_trouble_0 0 rfl ?_
  refine z_iconst (pc := 1) C dX12_trouble_1 (nI 0) (by decide) ?_
  refine z_putf (pc := 2) (fs' := mfs (upd _ 0 _)) C dX12_trouble_2 gX12_56 (by assumption) (fun _ => ⟨rfl, rfl⟩) (by exact Nat.le_of_ble_eq_true rfl) (mfs_set _ 0 _ (by decide)) ?_
  refine z_aload_n (pc := 5) C dX12_trouble_5 0 rfl ?_
  refine z_getf (pc := 6) C dX12_trouble_6 fX12_59 (zup_same _ _ _) (by first | rfl | assumption) ?_
  refine z_iret (pc := 9) C dX12_trouble_9 rfl (Nat.zero_le _) (Nat.zero_le _) ⟨?_, ?_, rfl⟩
  · first | rfl | simp_all
  · rfl

set_option maxRecDepth 20000 in
set_option maxHeartbeats 1000000 in
theorem tX12_thrown {h : ZH} {v : Nat → Int32} (hM : h 1063 = some (zO 8 (mfs v))) : ZD mX12_thrown 0 [.ref 1063] h (some (.int (v 0))) h := by
  intro n
  refine z_enter (lv := [(0, _)]) (by decide) (Nat.le_of_ble_eq_true rfl) rfl (fun X C => ?_)
  refine z_aload_n (pc := 0) C dX12_thrown_0 0 rfl ?_
  refine z_getf (pc := 1) C dX12_thrown_1 fX12_56 (by assumption) (by first | rfl | assumption) ?_
  refine z_iret (pc := 4) C dX12_thrown_4 rfl (Nat.zero_le _) (Nat.zero_le _) ⟨?_, ?_, rfl⟩
  · first | rfl | simp_all
  · rfl
