theorem sleast_sask (L : Nat → Nat) : ∀ n, 0 < n → sleast L n = some (sask L n) := by
  intro n
  induction n with
  | zero => intro h; omega
  | succ n ih =>
    intro _
    rw [sleast, sask]
    by_cases e : n = 0
    · subst e; rfl
    · rw [ih (by omega), if_neg e]
      show (if L n < L (sask L n) then some n else some (sask L n)) = _
      split <;> rfl
theorem sAsk_eq (R F : Nat → Nat) (s : Nat) : sAsk R F s = (if 0 < sfs R F s (R 3) then some (sask (slea R F s) (R 3)) else none) := by
  unfold sAsk
  by_cases h : 0 < sfs R F s (R 3)
  · have h3 : 0 < R 3 := by
      rcases Nat.eq_zero_or_pos (R 3) with e | e
      · rw [e] at h; exact absurd h (Nat.lt_irrefl 0)
      · exact e
    rw [if_pos h, if_pos h, sleast_sask _ _ h3]
  · rw [if_neg h, if_neg h]
def srn (w : Nat) : Nat → Nat
  | 0 => 0
  | k + 1 => srn w k + (if srest w (decide (1 < k)) (decide (k % 2 = 1)) then 1 else 0)
def srf (w : Nat) : Nat → Option Nat
  | 0 => none
  | k + 1 => match srf w k with
    | some x => some x
    | none => if srest w (decide (1 < k)) (decide (k % 2 = 1)) then some (10 * (k / 2) + k % 2) else none
theorem srn_le (w : Nat) : ∀ k, srn w k ≤ k := by
  intro k
  induction k with
  | zero => exact Nat.le_refl _
  | succ k ih => rw [srn]; split <;> omega
def aEdge (R : Nat → Nat) (w : Int32) (k p q : Bool) : Int32 × Int32 := if swhy (decide (0 < R 1)) (zlt w 21) = 0 then ((if q then spoa (pn w) k p else skee (pn w) k p), 0) else (-100, nI (swhy (decide (0 < R 1)) (zlt w 21)))
def aRests (R : Nat → Nat) (w : Int32) : Int32 × Int32 := aW (decide (0 < R 1)) (zlt w 21) (nI (srn (pn w) 4))
def aRest (R : Nat → Nat) (w : Int32) : Int32 × Int32 := aW (decide (0 < R 1)) (zlt w 21) (zo (srf (pn w) 4))

set_option maxRecDepth 20000 in
set_option maxHeartbeats 1000000 in
theorem tX11_fits {h : ZH} {st : Nat} {ic tb fa pl : Int32} {sl sr t : Nat} {R S : Nat → Nat} {s : Int32} (hK : h 1000 = some (zO 7 (kfs st ic tb fa pl))) (hC : Scn h st sl sr t R S) (hR : wfR R) (hS : wfS R S) : ZD mX11_fits 4 [.ref 1000, .int s] h (some (.int (aFits R S s).1)) (zup h 1000 (zO 7 (kfs st ic (aFits R S s).2 fa pl))) := by
  intro n
  obtain ⟨w1, w3, w4, w5, w0, wP, wM, wK, wX⟩ := id hR
  obtain ⟨wT, wL, wB⟩ := id hS
  obtain ⟨hT, fl, ft, s0, s1, s2, rl, rt⟩ := id hC
  obtain ⟨fc, fh, fn, fk, fs, ff, fw, fe, t0, t1, t2, t3, t4, t5, t6, t7, t8, rc, rh, rn, rk, rs, rf, rv, re⟩ := id hT
  refine z_enter (lv := [(0, _), (1, _)]) (by decide) (Nat.le_of_ble_eq_true rfl) rfl (fun X C => ?_)
  refine z_aload_n (pc := 0) C dX11_fits_0 0 rfl ?_
  refine z_iload_n (pc := 1) C dX11_fits_1 1 rfl ?_
  refine z_cV1 (pc := 2) mX11_isStray C [_] dX11_fits_2 lX11_275 mtX11_isStray (tX11_isStray (by first | assumption | omega) (by first | assumption | omega) (by first | assumption | omega)) (by assumption) rfl rfl (by decide) (Nat.le_of_ble_eq_true rfl) (Nat.zero_le _) (Nat.zero_le _) ?_
  first | refine z_ifneB (pc := 5) C 14 dX11_fits_5 (by decide) (fun hc5 => ?_) (fun hc5 => ?_) | refine z_ifneN (pc := 5) C 14 dX11_fits_5 (by decide) (by omega) (fun hc5 => ?_) (fun hc5 => ?_) | refine z_if_ne (pc := 5) C 14 dX11_fits_5 (by decide) (fun hc5 => ?_) (fun hc5 => ?_)
  · skip
    obtain ⟨j, hj, rfl⟩ := zlt_of (by omega) hc5
    have pj := pn_nI (j := j) (by omega)
    refine z_aload_n (pc := 14) C dX11_fits_14 0 rfl ?_
    refine z_aload_n (pc := 15) C dX11_fits_15 0 rfl ?_
    refine z_getf (pc := 16) C dX11_fits_16 fX11_49 (by assumption) (by first | rfl | assumption) ?_
    refine z_iload_n (pc := 19) C dX11_fits_19 1 rfl ?_
    refine z_cS1 (pc := 20) mX6_countAll C [_, _] dX11_fits_20 lX11_278 mtX6_countAll (tX6_countAll (by first | assumption | omega) (by first | assumption | omega) (by first | assumption | omega) (by first | assumption | omega)) rfl rfl (by decide) (Nat.le_of_ble_eq_true rfl) (Nat.zero_le _) (Nat.zero_le _) ?_
    refine z_cV1 (pc := 23) mX11_answer C [_] dX11_fits_23 lX11_108 mtX11_answer (tX11_answer (by first | assumption | omega)) (by assumption) rfl rfl (by decide) (Nat.le_of_ble_eq_true rfl) (Nat.zero_le _) (Nat.zero_le _) ?_
    refine z_iret (pc := 26) C dX11_fits_26 rfl (Nat.zero_le _) (Nat.zero_le _) ⟨?_, ?_, rfl⟩
    · simp [aFits, aS, *]
    · simp [aFits, aS, *] <;> rfl
  · skip
    refine z_aload_n (pc := 8) C dX11_fits_8 0 rfl ?_
    refine z_iconst (pc := 9) C dX11_fits_9 (nI 1) (by decide) ?_
    refine z_cV1 (pc := 10) mX11_refuse C [_] dX11_fits_10 lX11_70 mtX11_refuse (tX11_refuse (by first | assumption | omega)) (by assumption) rfl rfl (by decide) (Nat.le_of_ble_eq_true rfl) (Nat.zero_le _) (Nat.zero_le _) ?_
    refine z_iret (pc := 13) C dX11_fits_13 rfl (Nat.zero_le _) (Nat.zero_le _) ⟨?_, ?_, rfl⟩
    · simp [aFits, aS, *]
    · simp [aFits, aS, *] <;> rfl

set_option maxRecDepth 20000 in
set_option maxHeartbeats 1000000 in
theorem tX11_could {h : ZH} {st : Nat} {ic tb fa pl : Int32} {sl sr t : Nat} {R S : Nat → Nat} {s : Int32} (hK : h 1000 = some (zO 7 (kfs st ic tb fa pl))) (hC : Scn h st sl sr t R S) (hR : wfR R) (hS : wfS R S) : ZD mX11_could 4 [.ref 1000, .int s] h (some (.int (aCould R S s).1)) (zup h 1000 (zO 7 (kfs st ic (aCould R S s).2 fa pl))) := by
  intro n
  obtain ⟨w1, w3, w4, w5, w0, wP, wM, wK, wX⟩ := id hR
  obtain ⟨wT, wL, wB⟩ := id hS
  obtain ⟨hT, fl, ft, s0, s1, s2, rl, rt⟩ := id hC
  obtain ⟨fc, fh, fn, fk, fs, ff, fw, fe, t0, t1, t2, t3, t4, t5, t6, t7, t8, rc, rh, rn, rk, rs, rf, rv, re⟩ := id hT
  refine z_enter (lv := [(0, _), (1, _)]) (by decide) (Nat.le_of_ble_eq_true rfl) rfl (fun X C => ?_)
  refine z_aload_n (pc := 0) C dX11_could_0 0 rfl ?_
  refine z_iload_n (pc := 1) C dX11_could_1 1 rfl ?_
  refine z_cV1 (pc := 2) mX11_isStray C [_] dX11_could_2 lX11_275 mtX11_isStray (tX11_isStray (by first | assumption | omega) (by first | assumption | omega) (by first | assumption | omega)) (by assumption) rfl rfl (by decide) (Nat.le_of_ble_eq_true rfl) (Nat.zero_le _) (Nat.zero_le _) ?_
  first | refine z_ifneB (pc := 5) C 14 dX11_could_5 (by decide) (fun hc5 => ?_) (fun hc5 => ?_) | refine z_ifneN (pc := 5) C 14 dX11_could_5 (by decide) (by omega) (fun hc5 => ?_) (fun hc5 => ?_) | refine z_if_ne (pc := 5) C 14 dX11_could_5 (by decide) (fun hc5 => ?_) (fun hc5 => ?_)
  · skip
    obtain ⟨j, hj, rfl⟩ := zlt_of (by omega) hc5
    have pj := pn_nI (j := j) (by omega)
    refine z_aload_n (pc := 14) C dX11_could_14 0 rfl ?_
    refine z_aload_n (pc := 15) C dX11_could_15 0 rfl ?_
    refine z_getf (pc := 16) C dX11_could_16 fX11_49 (by assumption) (by first | rfl | assumption) ?_
    refine z_iload_n (pc := 19) C dX11_could_19 1 rfl ?_
    refine z_cS1 (pc := 20) mX6_menOfFits C [_, _] dX11_could_20 lX11_287 mtX6_menOfFits (tX6_menOfFits (by first | assumption | omega) (by first | assumption | omega) (by first | assumption | omega) (by first | assumption | omega)) rfl rfl (by decide) (Nat.le_of_ble_eq_true rfl) (Nat.zero_le _) (Nat.zero_le _) ?_
    refine z_cV1 (pc := 23) mX11_answer C [_] dX11_could_23 lX11_108 mtX11_answer (tX11_answer (by first | assumption | omega)) (by assumption) rfl rfl (by decide) (Nat.le_of_ble_eq_true rfl) (Nat.zero_le _) (Nat.zero_le _) ?_
    refine z_iret (pc := 26) C dX11_could_26 rfl (Nat.zero_le _) (Nat.zero_le _) ⟨?_, ?_, rfl⟩
    · simp [aCould, aS, *]
    · simp [aCould, aS, *] <;> rfl
  · skip
    refine z_aload_n (pc := 8) C dX11_could_8 0 rfl ?_
    refine z_iconst (pc := 9) C dX11_could_9 (nI 1) (by decide) ?_
    refine z_cV1 (pc := 10) mX11_refuse C [_] dX11_could_10 lX11_70 mtX11_refuse (tX11_refuse (by first | assumption | omega)) (by assumption) rfl rfl (by decide) (Nat.le_of_ble_eq_true rfl) (Nat.zero_le _) (Nat.zero_le _) ?_
    refine z_iret (pc := 13) C dX11_could_13 rfl (Nat.zero_le _) (Nat.zero_le _) ⟨?_, ?_, rfl⟩
    · simp [aCould, aS, *]
    · simp [aCould, aS, *] <;> rfl

set_option maxRecDepth 20000 in
set_option maxHeartbeats 1000000 in
theorem tX11_ask {h : ZH} {st : Nat} {ic tb fa pl : Int32} {sl sr t : Nat} {R S : Nat → Nat} {s : Int32} (hK : h 1000 = some (zO 7 (kfs st ic tb fa pl))) (hC : Scn h st sl sr t R S) (hR : wfR R) (hS : wfS R S) : ZD mX11_ask 6 [.ref 1000, .int s] h (some (.int (aAsk R S s).1)) (zup h 1000 (zO 7 (kfs st ic (aAsk R S s).2 fa pl))) := by
  intro n
  obtain ⟨w1, w3, w4, w5, w0, wP, wM, wK, wX⟩ := id hR
  obtain ⟨wT, wL, wB⟩ := id hS
  obtain ⟨hT, fl, ft, s0, s1, s2, rl, rt⟩ := id hC
  obtain ⟨fc, fh, fn, fk, fs, ff, fw, fe, t0, t1, t2, t3, t4, t5, t6, t7, t8, rc, rh, rn, rk, rs, rf, rv, re⟩ := id hT
  refine z_enter (lv := [(0, _), (1, _)]) (by decide) (Nat.le_of_ble_eq_true rfl) rfl (fun X C => ?_)
  refine z_aload_n (pc := 0) C dX11_ask_0 0 rfl ?_
  refine z_iload_n (pc := 1) C dX11_ask_1 1 rfl ?_
  refine z_cV1 (pc := 2) mX11_isStray C [_] dX11_ask_2 lX11_275 mtX11_isStray (tX11_isStray (by first | assumption | omega) (by first | assumption | omega) (by first | assumption | omega)) (by assumption) rfl rfl (by decide) (Nat.le_of_ble_eq_true rfl) (Nat.zero_le _) (Nat.zero_le _) ?_
  first | refine z_ifneB (pc := 5) C 14 dX11_ask_5 (by decide) (fun hc5 => ?_) (fun hc5 => ?_) | refine z_ifneN (pc := 5) C 14 dX11_ask_5 (by decide) (by omega) (fun hc5 => ?_) (fun hc5 => ?_) | refine z_if_ne (pc := 5) C 14 dX11_ask_5 (by decide) (fun hc5 => ?_) (fun hc5 => ?_)
  · skip
    obtain ⟨j, hj, rfl⟩ := zlt_of (by omega) hc5
    have pj := pn_nI (j := j) (by omega)
    refine z_aload_n (pc := 14) C dX11_ask_14 0 rfl ?_
    refine z_aload_n (pc := 15) C dX11_ask_15 0 rfl ?_
    refine z_getf (pc := 16) C dX11_ask_16 fX11_49 (by assumption) (by first | rfl | assumption) ?_
    refine z_iload_n (pc := 19) C dX11_ask_19 1 rfl ?_
    refine z_cS1 (pc := 20) mX6_manToAsk C [_, _] dX11_ask_20 lX11_293 mtX6_manToAsk (tX6_manToAsk (by first | assumption | omega) (by first | assumption | omega) (by first | assumption | omega) (by first | assumption | omega)) rfl rfl (by decide) (Nat.le_of_ble_eq_true rfl) (Nat.zero_le _) (Nat.zero_le _) ?_
    rw [← sAsk_eq]
    refine z_cV1 (pc := 23) mX11_answer C [_] dX11_ask_23 lX11_108 mtX11_answer (tX11_answer (by first | assumption | omega)) (by assumption) rfl rfl (by decide) (Nat.le_of_ble_eq_true rfl) (Nat.zero_le _) (Nat.zero_le _) ?_
    refine z_iret (pc := 26) C dX11_ask_26 rfl (Nat.zero_le _) (Nat.zero_le _) ⟨?_, ?_, rfl⟩
    · simp [aAsk, aS, *]
    · simp [aAsk, aS, *] <;> rfl
  · skip
    refine z_aload_n (pc := 8) C dX11_ask_8 0 rfl ?_
    refine z_iconst (pc := 9) C dX11_ask_9 (nI 1) (by decide) ?_
    refine z_cV1 (pc := 10) mX11_refuse C [_] dX11_ask_10 lX11_70 mtX11_refuse (tX11_refuse (by first | assumption | omega)) (by assumption) rfl rfl (by decide) (Nat.le_of_ble_eq_true rfl) (Nat.zero_le _) (Nat.zero_le _) ?_
    refine z_iret (pc := 13) C dX11_ask_13 rfl (Nat.zero_le _) (Nat.zero_le _) ⟨?_, ?_, rfl⟩
    · simp [aAsk, aS, *]
    · simp [aAsk, aS, *] <;> rfl

set_option maxRecDepth 20000 in
set_option maxHeartbeats 1000000 in
theorem tX11_askLeaves {h : ZH} {st : Nat} {ic tb fa pl : Int32} {sl sr t : Nat} {R S : Nat → Nat} {s : Int32} (hK : h 1000 = some (zO 7 (kfs st ic tb fa pl))) (hC : Scn h st sl sr t R S) (hR : wfR R) (hS : wfS R S) : ZD mX11_askLeaves 6 [.ref 1000, .int s] h (some (.int (aAskL R S s).1)) (zup h 1000 (zO 7 (kfs st ic (aAskL R S s).2 fa pl))) := by
  intro n
  obtain ⟨w1, w3, w4, w5, w0, wP, wM, wK, wX⟩ := id hR
  obtain ⟨wT, wL, wB⟩ := id hS
  obtain ⟨hT, fl, ft, s0, s1, s2, rl, rt⟩ := id hC
  obtain ⟨fc, fh, fn, fk, fs, ff, fw, fe, t0, t1, t2, t3, t4, t5, t6, t7, t8, rc, rh, rn, rk, rs, rf, rv, re⟩ := id hT
  refine z_enter (lv := [(0, _), (1, _)]) (by decide) (Nat.le_of_ble_eq_true rfl) rfl (fun X C => ?_)
  refine z_aload_n (pc := 0) C dX11_askLeaves_0 0 rfl ?_
  refine z_iload_n (pc := 1) C dX11_askLeaves_1 1 rfl ?_
  refine z_cV1 (pc := 2) mX11_isStray C [_] dX11_askLeaves_2 lX11_275 mtX11_isStray (tX11_isStray (by first | assumption | omega) (by first | assumption | omega) (by first | assumption | omega)) (by assumption) rfl rfl (by decide) (Nat.le_of_ble_eq_true rfl) (Nat.zero_le _) (Nat.zero_le _) ?_
  first | refine z_ifneB (pc := 5) C 14 dX11_askLeaves_5 (by decide) (fun hc5 => ?_) (fun hc5 => ?_) | refine z_ifneN (pc := 5) C 14 dX11_askLeaves_5 (by decide) (by omega) (fun hc5 => ?_) (fun hc5 => ?_) | refine z_if_ne (pc := 5) C 14 dX11_askLeaves_5 (by decide) (fun hc5 => ?_) (fun hc5 => ?_)
  · skip
    obtain ⟨j, hj, rfl⟩ := zlt_of (by omega) hc5
    have pj := pn_nI (j := j) (by omega)
    refine z_aload_n (pc := 14) C dX11_askLeaves_14 0 rfl ?_
    refine z_getf (pc := 15) C dX11_askLeaves_15 fX11_49 (by assumption) (by first | rfl | assumption) ?_
    refine z_iload_n (pc := 18) C dX11_askLeaves_18 1 rfl ?_
    refine z_cS1 (pc := 19) mX6_manToAsk C [_, _] dX11_askLeaves_19 lX11_293 mtX6_manToAsk (tX6_manToAsk (by first | assumption | omega) (by first | assumption | omega) (by first | assumption | omega) (by first | assumption | omega)) rfl rfl (by decide) (Nat.le_of_ble_eq_true rfl) (Nat.zero_le _) (Nat.zero_le _) ?_
    rw [← sAsk_eq]
    have e1 : ∀ x, sAsk R S j = some x → x < R 3 := fun x hx => by
      unfold sAsk at hx
      split at hx
      · exact sleast_lt _ _ _ hx
      · cases hx
    refine z_istore_n (pc := 22) (lv' := [(2, _), (0, _), (1, _)]) C dX11_askLeaves_22 (by decide) rfl ?_
    refine z_aload_n (pc := 23) C dX11_askLeaves_23 1 rfl ?_
    refine z_iload_n (pc := 24) C dX11_askLeaves_24 0 rfl ?_
    first | refine z_ifgeO (pc := 25) C 33 dX11_askLeaves_25 (by decide) (fun x hx => by have := e1 x hx; omega) (fun hc25 => ?_) (fun hc25 => ?_) | refine z_ifgeN (pc := 25) C 33 dX11_askLeaves_25 (by decide) (by omega) (fun hc25 => ?_) (fun hc25 => ?_) | refine z_if_ge (pc := 25) C 33 dX11_askLeaves_25 (by decide) (fun hc25 => ?_) (fun hc25 => ?_)
    · skip
      obtain ⟨x, hx⟩ := hc25
      have e2 := e1 x hx
      rw [hx]
      refine z_aload_n (pc := 33) C dX11_askLeaves_33 1 rfl ?_
      refine z_getf (pc := 34) C dX11_askLeaves_34 fX11_49 (by assumption) (by first | rfl | assumption) ?_
      refine z_iload_n (pc := 37) C dX11_askLeaves_37 2 rfl ?_
      refine z_iload_n (pc := 38) C dX11_askLeaves_38 0 rfl ?_
      refine z_top (show zo (some x) = nI x from rfl) ?_
      refine z_cS1 (pc := 39) mX6_leftBehind C [_, _, _] dX11_askLeaves_39 lX11_296 mtX6_leftBehind (tX6_leftBehind hC hR hS hj (by omega)) rfl rfl (by decide) (Nat.le_of_ble_eq_true rfl) (Nat.zero_le _) (Nat.zero_le _) ?_
      refine z_cV1 (pc := 42) mX11_answer C [_] dX11_askLeaves_42 lX11_108 mtX11_answer (tX11_answer (by first | assumption | omega)) (by assumption) rfl rfl (by decide) (Nat.le_of_ble_eq_true rfl) (Nat.zero_le _) (Nat.zero_le _) ?_
      refine z_iret (pc := 45) C dX11_askLeaves_45 rfl (Nat.zero_le _) (Nat.zero_le _) ⟨?_, ?_, rfl⟩
      · simp [aAskL, aS, *]
      · simp [aAskL, aS, *] <;> rfl
    · skip
      refine z_bipush (pc := 28) C dX11_askLeaves_28 (-2) (by decide) ?_
      refine z_goto (pc := 30) C 42 dX11_askLeaves_30 (by decide) ?_
      refine z_cV1 (pc := 42) mX11_answer C [_] dX11_askLeaves_42 lX11_108 mtX11_answer (tX11_answer (by first | assumption | omega)) (by assumption) rfl rfl (by decide) (Nat.le_of_ble_eq_true rfl) (Nat.zero_le _) (Nat.zero_le _) ?_
      refine z_iret (pc := 45) C dX11_askLeaves_45 rfl (Nat.zero_le _) (Nat.zero_le _) ⟨?_, ?_, rfl⟩
      · simp [aAskL, aS, *]
      · simp [aAskL, aS, *] <;> rfl
  · skip
    refine z_aload_n (pc := 8) C dX11_askLeaves_8 0 rfl ?_
    refine z_iconst (pc := 9) C dX11_askLeaves_9 (nI 1) (by decide) ?_
    refine z_cV1 (pc := 10) mX11_refuse C [_] dX11_askLeaves_10 lX11_70 mtX11_refuse (tX11_refuse (by first | assumption | omega)) (by assumption) rfl rfl (by decide) (Nat.le_of_ble_eq_true rfl) (Nat.zero_le _) (Nat.zero_le _) ?_
    refine z_iret (pc := 13) C dX11_askLeaves_13 rfl (Nat.zero_le _) (Nat.zero_le _) ⟨?_, ?_, rfl⟩
    · simp [aAskL, aS, *]
    · simp [aAskL, aS, *] <;> rfl

set_option maxRecDepth 20000 in
set_option maxHeartbeats 1000000 in
theorem tX12_askLeaves {h : ZH} {v : Nat → Int32} {R S F : Nat → Nat} {b : Bool} {s : Int32} (hM : h 1063 = some (zO 8 (mfs v))) (hA : h 1066 = some (zI 241 R)) (hB : h 1070 = some (zI 40 S)) (hG : h 1068 = some (zI 40 F)) (hR : wfR R) (hS : wfS R S) (hT : wfS R F) (hF : v 14 = zb b) (hb : wfB b R) : ZD mX12_askLeaves 6 [.ref 1063, .int s] h (some (.int (aAskL R F s).1)) (zup h 1063 (zO 8 (mfs (mv v (aAskL R F s).2)))) := by
  intro n
  obtain ⟨w1, w3, w4, w5, w0, wP, wM, wK, wX⟩ := id hR
  obtain ⟨wT, wL, wB⟩ := id hS
  refine z_enter (lv := [(0, _), (1, _)]) (by decide) (Nat.le_of_ble_eq_true rfl) rfl (fun X C => ?_)
  refine z_aload_n (pc := 0) C dX12_askLeaves_0 0 rfl ?_
  refine z_cV0 (pc := 1) mX12_good C [] dX12_askLeaves_1 lX12_167 mtX12_good (tX12_good (by first | assumption | omega)) (by assumption) rfl rfl (by decide) (Nat.le_of_ble_eq_true rfl) (Nat.zero_le _) (Nat.zero_le _) ?_
  have hM1 : zup h 1063 (zO 8 (mfs (upd (upd v 0 0) 11 0))) 1063 = some (zO 8 (mfs (upd (upd v 0 0) 11 0))) := zup_same _ _ _
  have hA1 : zup h 1063 (zO 8 (mfs (upd (upd v 0 0) 11 0))) 1066 = some (zI 241 R) := (zup_ne (by decide)).trans hA
  have hB1 : zup h 1063 (zO 8 (mfs (upd (upd v 0 0) 11 0))) 1070 = some (zI 40 S) := (zup_ne (by decide)).trans hB
  have hG1 : zup h 1063 (zO 8 (mfs (upd (upd v 0 0) 11 0))) 1068 = some (zI 40 F) := (zup_ne (by decide)).trans hG
  have hF1 : upd (upd v 0 0) 11 0 14 = zb b := hF
  generalize hg : zup h 1063 (zO 8 (mfs (upd (upd v 0 0) 11 0))) = h1 at hM1 hA1 hB1 hG1 ⊢
  refine z_aload_n (pc := 4) C dX12_askLeaves_4 0 rfl ?_
  refine z_iload_n (pc := 5) C dX12_askLeaves_5 1 rfl ?_
  refine z_cV1 (pc := 6) mX12_isStray C [_] dX12_askLeaves_6 lX12_358 mtX12_isStray (tX12_isStray (by first | assumption | omega) (by first | assumption | omega) (by first | assumption | omega) (by first | assumption | omega)) (by assumption) rfl rfl (by decide) (Nat.le_of_ble_eq_true rfl) (Nat.zero_le _) (Nat.zero_le _) ?_
  rw [wfB_s hb s]
  first | refine z_ifneB (pc := 9) C 18 dX12_askLeaves_9 (by decide) (fun hc9 => ?_) (fun hc9 => ?_) | refine z_ifneN (pc := 9) C 18 dX12_askLeaves_9 (by decide) (by omega) (fun hc9 => ?_) (fun hc9 => ?_) | refine z_if_ne (pc := 9) C 18 dX12_askLeaves_9 (by decide) (fun hc9 => ?_) (fun hc9 => ?_)
  · skip
    obtain ⟨j, hj, rfl⟩ := zlt_of (by omega) hc9
    have pj := pn_nI (j := j) (by omega)
    refine z_aload_n (pc := 18) C dX12_askLeaves_18 0 rfl ?_
    refine z_iload_n (pc := 19) C dX12_askLeaves_19 1 rfl ?_
    refine z_cV1 (pc := 20) mX12_askOf C [_] dX12_askLeaves_20 lX12_367 mtX12_askOf (tX12_askOf hM1 hA1 hG1 hR hT hj) (by assumption) rfl rfl (by decide) (Nat.le_of_ble_eq_true rfl) (Nat.zero_le _) (Nat.zero_le _) ?_
    have e1 : ∀ x, sAsk R F j = some x → x < R 3 := fun x hx => by
      unfold sAsk at hx
      split at hx
      · exact sleast_lt _ _ _ hx
      · cases hx
    refine z_istore_n (pc := 23) (lv' := [(2, _), (0, _), (1, _)]) C dX12_askLeaves_23 (by decide) rfl ?_
    refine z_iload_n (pc := 24) C dX12_askLeaves_24 0 rfl ?_
    first | refine z_ifgeO (pc := 25) C 33 dX12_askLeaves_25 (by decide) (fun x hx => by have := e1 x hx; omega) (fun hc25 => ?_) (fun hc25 => ?_) | refine z_ifgeN (pc := 25) C 33 dX12_askLeaves_25 (by decide) (by omega) (fun hc25 => ?_) (fun hc25 => ?_) | refine z_if_ge (pc := 25) C 33 dX12_askLeaves_25 (by decide) (fun hc25 => ?_) (fun hc25 => ?_)
    · skip
      obtain ⟨x, hx⟩ := hc25
      have e2 := e1 x hx
      rw [hx]
      refine z_aload_n (pc := 33) C dX12_askLeaves_33 1 rfl ?_
      refine z_iload_n (pc := 34) C dX12_askLeaves_34 2 rfl ?_
      refine z_iload_n (pc := 35) C dX12_askLeaves_35 0 rfl ?_
      refine z_top (show zo (some x) = nI x from rfl) ?_
      refine z_cV1 (pc := 36) mX12_leavesOf C [_, _] dX12_askLeaves_36 lX12_364 mtX12_leavesOf (tX12_leavesOf hM1 hA1 hG1 hR hT hj (by omega)) (by assumption) rfl rfl (by decide) (Nat.le_of_ble_eq_true rfl) (Nat.zero_le _) (Nat.zero_le _) ?_
      refine z_iret (pc := 39) C dX12_askLeaves_39 rfl (Nat.zero_le _) (Nat.zero_le _) ⟨?_, ?_, rfl⟩
      · simp [aAskL, aS, *]
      · first | exact mz0 hg (by simp [aAskL, aS, *]) | exact mz1 hg (by simp [aAskL, aS, *] <;> rfl)
    · skip
      refine z_bipush (pc := 28) C dX12_askLeaves_28 (-2) (by decide) ?_
      refine z_goto (pc := 30) C 39 dX12_askLeaves_30 (by decide) ?_
      refine z_iret (pc := 39) C dX12_askLeaves_39 rfl (Nat.zero_le _) (Nat.zero_le _) ⟨?_, ?_, rfl⟩
      · simp [aAskL, aS, *]
      · first | exact mz0 hg (by simp [aAskL, aS, *]) | exact mz1 hg (by simp [aAskL, aS, *] <;> rfl)
  · skip
    refine z_aload_n (pc := 12) C dX12_askLeaves_12 0 rfl ?_
    refine z_iconst (pc := 13) C dX12_askLeaves_13 (nI 1) (by decide) ?_
    refine z_cV1 (pc := 14) mX12_no C [_] dX12_askLeaves_14 lX12_170 mtX12_no (tX12_no (by first | assumption | omega)) (by assumption) rfl rfl (by decide) (Nat.le_of_ble_eq_true rfl) (Nat.zero_le _) (Nat.zero_le _) ?_
    refine z_iret (pc := 17) C dX12_askLeaves_17 rfl (Nat.zero_le _) (Nat.zero_le _) ⟨?_, ?_, rfl⟩
    · simp [aAskL, aS, *]
    · first | exact mz0 hg (by simp [aAskL, aS, *]) | exact mz1 hg (by simp [aAskL, aS, *] <;> rfl)

set_option maxRecDepth 20000 in
set_option maxHeartbeats 1000000 in
theorem tX2_gain {h : ZH} {w : Nat} {k p q : Bool}  : ZD mX2_gain 0 [.int (nI w), .int (zb k), .int (zb p), .int (zb q)] h (some (.int (if q then spoa w k p else skee w k p))) h := by
  intro n
  refine z_enter (lv := [(0, _), (1, _), (2, _), (3, _)]) (by decide) (Nat.le_of_ble_eq_true rfl) rfl (fun X C => ?_)
  refine z_iload_n (pc := 0) C dX2_gain_0 1 rfl ?_
  first | refine z_ifeqB (pc := 1) C 19 dX2_gain_1 (by decide) (fun hc1 => ?_) (fun hc1 => ?_) | refine z_ifeqN (pc := 1) C 19 dX2_gain_1 (by decide) (by omega) (fun hc1 => ?_) (fun hc1 => ?_) | refine z_if_eq (pc := 1) C 19 dX2_gain_1 (by decide) (fun hc1 => ?_) (fun hc1 => ?_)
  · skip
    refine z_iload_n (pc := 19) C dX2_gain_19 1 rfl ?_
    first | refine z_ifeqB (pc := 20) C 33 dX2_gain_20 (by decide) (fun hc20 => ?_) (fun hc20 => ?_) | refine z_ifeqN (pc := 20) C 33 dX2_gain_20 (by decide) (by omega) (fun hc20 => ?_) (fun hc20 => ?_) | refine z_if_eq (pc := 20) C 33 dX2_gain_20 (by decide) (fun hc20 => ?_) (fun hc20 => ?_)
    · skip
      refine z_iload_n (pc := 33) C dX2_gain_33 2 rfl ?_
      first | refine z_ifeqB (pc := 34) C 48 dX2_gain_34 (by decide) (fun hc34 => ?_) (fun hc34 => ?_) | refine z_ifeqN (pc := 34) C 48 dX2_gain_34 (by decide) (by omega) (fun hc34 => ?_) (fun hc34 => ?_) | refine z_if_eq (pc := 34) C 48 dX2_gain_34 (by decide) (fun hc34 => ?_) (fun hc34 => ?_)
      · skip
        refine z_iconst (pc := 48) C dX2_gain_48 (nI 0) (by decide) ?_
        refine z_iret (pc := 49) C dX2_gain_49 rfl (Nat.zero_le _) (Nat.zero_le _) ⟨?_, ?_, rfl⟩
        · first | (exfalso; simp_all; done) | (simp [spoa, skee, *] <;> rfl)
        · rfl
      · skip
        refine z_iload_n (pc := 37) C dX2_gain_37 3 rfl ?_
        first | refine z_ifeqB (pc := 38) C 45 dX2_gain_38 (by decide) (fun hc38 => ?_) (fun hc38 => ?_) | refine z_ifeqN (pc := 38) C 45 dX2_gain_38 (by decide) (by omega) (fun hc38 => ?_) (fun hc38 => ?_) | refine z_if_eq (pc := 38) C 45 dX2_gain_38 (by decide) (fun hc38 => ?_) (fun hc38 => ?_)
        · skip
          refine z_iload_n (pc := 45) C dX2_gain_45 0 rfl ?_
          refine z_ineg (pc := 46) C dX2_gain_46 ?_
          refine z_iret (pc := 47) C dX2_gain_47 rfl (Nat.zero_le _) (Nat.zero_le _) ⟨?_, ?_, rfl⟩
          · first | (exfalso; simp_all; done) | (simp [spoa, skee, *] <;> rfl)
          · rfl
        · skip
          refine z_iload_n (pc := 41) C dX2_gain_41 0 rfl ?_
          refine z_goto (pc := 42) C 47 dX2_gain_42 (by decide) ?_
          refine z_iret (pc := 47) C dX2_gain_47 rfl (Nat.zero_le _) (Nat.zero_le _) ⟨?_, ?_, rfl⟩
          · first | (exfalso; simp_all; done) | (simp [spoa, skee, *] <;> rfl)
          · rfl
    · skip
      refine z_iload_n (pc := 23) C dX2_gain_23 3 rfl ?_
      first | refine z_ifeqB (pc := 24) C 31 dX2_gain_24 (by decide) (fun hc24 => ?_) (fun hc24 => ?_) | refine z_ifeqN (pc := 24) C 31 dX2_gain_24 (by decide) (by omega) (fun hc24 => ?_) (fun hc24 => ?_) | refine z_if_eq (pc := 24) C 31 dX2_gain_24 (by decide) (fun hc24 => ?_) (fun hc24 => ?_)
      · skip
        refine z_iconst (pc := 31) C dX2_gain_31 (-1) (by decide) ?_
        refine z_iret (pc := 32) C dX2_gain_32 rfl (Nat.zero_le _) (Nat.zero_le _) ⟨?_, ?_, rfl⟩
        · first | (exfalso; simp_all; done) | (simp [spoa, skee, *] <;> rfl)
        · rfl
      · skip
        refine z_iconst (pc := 27) C dX2_gain_27 (nI 0) (by decide) ?_
        refine z_goto (pc := 28) C 32 dX2_gain_28 (by decide) ?_
        refine z_iret (pc := 32) C dX2_gain_32 rfl (Nat.zero_le _) (Nat.zero_le _) ⟨?_, ?_, rfl⟩
        · first | (exfalso; simp_all; done) | (simp [spoa, skee, *] <;> rfl)
        · rfl
  · skip
    refine z_iload_n (pc := 4) C dX2_gain_4 2 rfl ?_
    first | refine z_ifeqB (pc := 5) C 19 dX2_gain_5 (by decide) (fun hc5 => ?_) (fun hc5 => ?_) | refine z_ifeqN (pc := 5) C 19 dX2_gain_5 (by decide) (by omega) (fun hc5 => ?_) (fun hc5 => ?_) | refine z_if_eq (pc := 5) C 19 dX2_gain_5 (by decide) (fun hc5 => ?_) (fun hc5 => ?_)
    · skip
      refine z_iload_n (pc := 19) C dX2_gain_19 1 rfl ?_
      first | refine z_ifeqB (pc := 20) C 33 dX2_gain_20 (by decide) (fun hc20 => ?_) (fun hc20 => ?_) | refine z_ifeqN (pc := 20) C 33 dX2_gain_20 (by decide) (by omega) (fun hc20 => ?_) (fun hc20 => ?_) | refine z_if_eq (pc := 20) C 33 dX2_gain_20 (by decide) (fun hc20 => ?_) (fun hc20 => ?_)
      · skip
        refine z_iload_n (pc := 33) C dX2_gain_33 2 rfl ?_
        first | refine z_ifeqB (pc := 34) C 48 dX2_gain_34 (by decide) (fun hc34 => ?_) (fun hc34 => ?_) | refine z_ifeqN (pc := 34) C 48 dX2_gain_34 (by decide) (by omega) (fun hc34 => ?_) (fun hc34 => ?_) | refine z_if_eq (pc := 34) C 48 dX2_gain_34 (by decide) (fun hc34 => ?_) (fun hc34 => ?_)
        · skip
          refine z_iconst (pc := 48) C dX2_gain_48 (nI 0) (by decide) ?_
          refine z_iret (pc := 49) C dX2_gain_49 rfl (Nat.zero_le _) (Nat.zero_le _) ⟨?_, ?_, rfl⟩
          · first | (exfalso; simp_all; done) | (simp [spoa, skee, *] <;> rfl)
          · rfl
        · skip
          refine z_iload_n (pc := 37) C dX2_gain_37 3 rfl ?_
          first | refine z_ifeqB (pc := 38) C 45 dX2_gain_38 (by decide) (fun hc38 => ?_) (fun hc38 => ?_) | refine z_ifeqN (pc := 38) C 45 dX2_gain_38 (by decide) (by omega) (fun hc38 => ?_) (fun hc38 => ?_) | refine z_if_eq (pc := 38) C 45 dX2_gain_38 (by decide) (fun hc38 => ?_) (fun hc38 => ?_)
          · skip
            refine z_iload_n (pc := 45) C dX2_gain_45 0 rfl ?_
            refine z_ineg (pc := 46) C dX2_gain_46 ?_
            refine z_iret (pc := 47) C dX2_gain_47 rfl (Nat.zero_le _) (Nat.zero_le _) ⟨?_, ?_, rfl⟩
            · first | (exfalso; simp_all; done) | (simp [spoa, skee, *] <;> rfl)
            · rfl
          · skip
            refine z_iload_n (pc := 41) C dX2_gain_41 0 rfl ?_
            refine z_goto (pc := 42) C 47 dX2_gain_42 (by decide) ?_
            refine z_iret (pc := 47) C dX2_gain_47 rfl (Nat.zero_le _) (Nat.zero_le _) ⟨?_, ?_, rfl⟩
            · first | (exfalso; simp_all; done) | (simp [spoa, skee, *] <;> rfl)
            · rfl
      · skip
        refine z_iload_n (pc := 23) C dX2_gain_23 3 rfl ?_
        first | refine z_ifeqB (pc := 24) C 31 dX2_gain_24 (by decide) (fun hc24 => ?_) (fun hc24 => ?_) | refine z_ifeqN (pc := 24) C 31 dX2_gain_24 (by decide) (by omega) (fun hc24 => ?_) (fun hc24 => ?_) | refine z_if_eq (pc := 24) C 31 dX2_gain_24 (by decide) (fun hc24 => ?_) (fun hc24 => ?_)
        · skip
          refine z_iconst (pc := 31) C dX2_gain_31 (-1) (by decide) ?_
          refine z_iret (pc := 32) C dX2_gain_32 rfl (Nat.zero_le _) (Nat.zero_le _) ⟨?_, ?_, rfl⟩
          · first | (exfalso; simp_all; done) | (simp [spoa, skee, *] <;> rfl)
          · rfl
        · skip
          refine z_iconst (pc := 27) C dX2_gain_27 (nI 0) (by decide) ?_
          refine z_goto (pc := 28) C 32 dX2_gain_28 (by decide) ?_
          refine z_iret (pc := 32) C dX2_gain_32 rfl (Nat.zero_le _) (Nat.zero_le _) ⟨?_, ?_, rfl⟩
          · first | (exfalso; simp_all; done) | (simp [spoa, skee, *] <;> rfl)
          · rfl
    · skip
      refine z_iload_n (pc := 8) C dX2_gain_8 3 rfl ?_
      first | refine z_ifeqB (pc := 9) C 17 dX2_gain_9 (by decide) (fun hc9 => ?_) (fun hc9 => ?_) | refine z_ifeqN (pc := 9) C 17 dX2_gain_9 (by decide) (by omega) (fun hc9 => ?_) (fun hc9 => ?_) | refine z_if_eq (pc := 9) C 17 dX2_gain_9 (by decide) (fun hc9 => ?_) (fun hc9 => ?_)
      · skip
        refine z_iconst (pc := 17) C dX2_gain_17 (nI 3) (by decide) ?_
        refine z_iret (pc := 18) C dX2_gain_18 rfl (Nat.zero_le _) (Nat.zero_le _) ⟨?_, ?_, rfl⟩
        · first | (exfalso; simp_all; done) | (simp [spoa, skee, *] <;> rfl)
        · rfl
      · skip
        refine z_iload_n (pc := 12) C dX2_gain_12 0 rfl ?_
        refine z_ineg (pc := 13) C dX2_gain_13 ?_
        refine z_goto (pc := 14) C 18 dX2_gain_14 (by decide) ?_
        refine z_iret (pc := 18) C dX2_gain_18 rfl (Nat.zero_le _) (Nat.zero_le _) ⟨?_, ?_, rfl⟩
        · first | (exfalso; simp_all; done) | (simp [spoa, skee, *] <;> rfl)
        · rfl

set_option maxRecDepth 20000 in
set_option maxHeartbeats 1000000 in
theorem tX2_isRest {h : ZH} {w k : Nat} (hk : k < 4) : ZD mX2_isRest 1 [.int (nI w), .int (nI k)] h (some (.int (zb (srest w (decide (1 < k)) (decide (k % 2 = 1)))))) h := by
  intro n
  refine z_enter (lv := [(0, _), (1, _)]) (by decide) (Nat.le_of_ble_eq_true rfl) rfl (fun X C => ?_)
  refine z_iload_n (pc := 0) C dX2_isRest_0 1 rfl ?_
  refine z_iconst (pc := 1) C dX2_isRest_1 (nI 2) (by decide) ?_
  first | refine z_icmpltN (pc := 2) C 9 dX2_isRest_2 (by decide) (by omega) (by omega) (fun hc2 => ?_) (fun hc2 => ?_) | refine z_icmp_lt (pc := 2) C 9 dX2_isRest_2 (by decide) (fun hc2 => ?_) (fun hc2 => ?_)
  · skip
    have a1 : decide (1 < k) = false := decide_eq_false (by omega)
    refine z_iconst (pc := 9) C dX2_isRest_9 (zb false) (by decide) ?_
    refine z_istore_n (pc := 10) (lv' := [(2, _), (0, _), (1, _)]) C dX2_isRest_10 (by decide) rfl ?_
    refine z_iload_n (pc := 11) C dX2_isRest_11 2 rfl ?_
    refine z_iconst (pc := 12) C dX2_isRest_12 (nI 2) (by decide) ?_
    first | refine z_iremN (pc := 13) C dX2_isRest_13 (by omega) (by omega) (by omega) ?_ | refine z_irem (pc := 13) C dX2_isRest_13 (by decide) ?_
    refine z_iconst (pc := 14) C dX2_isRest_14 (nI 1) (by decide) ?_
    first | refine z_icmpneN (pc := 15) C 22 dX2_isRest_15 (by decide) (by omega) (by omega) (fun hc15 => ?_) (fun hc15 => ?_) | refine z_icmp_ne (pc := 15) C 22 dX2_isRest_15 (by decide) (fun hc15 => ?_) (fun hc15 => ?_)
    · skip
      have a2 : decide (k % 2 = 1) = false := decide_eq_false hc15
      refine z_iconst (pc := 22) C dX2_isRest_22 (zb false) (by decide) ?_
      refine z_istore_n (pc := 23) (lv' := [(3, _), (2, _), (0, _), (1, _)]) C dX2_isRest_23 (by decide) rfl ?_
      refine z_iload_n (pc := 24) C dX2_isRest_24 2 rfl ?_
      refine z_iload_n (pc := 25) C dX2_isRest_25 1 rfl ?_
      refine z_iload_n (pc := 26) C dX2_isRest_26 0 rfl ?_
      refine z_iconst (pc := 27) C dX2_isRest_27 (zb false) (by decide) ?_
      refine z_cS1 (pc := 28) mX2_gain C [_, _, _, _] dX2_isRest_28 lX2_9 mtX2_gain tX2_gain rfl rfl (by decide) (Nat.le_of_ble_eq_true rfl) (Nat.zero_le _) (Nat.zero_le _) ?_
      refine z_iload_n (pc := 31) C dX2_isRest_31 2 rfl ?_
      refine z_iload_n (pc := 32) C dX2_isRest_32 1 rfl ?_
      first | refine z_ifneB (pc := 33) C 40 dX2_isRest_33 (by decide) (fun hc33 => ?_) (fun hc33 => ?_) | refine z_ifneN (pc := 33) C 40 dX2_isRest_33 (by decide) (by omega) (fun hc33 => ?_) (fun hc33 => ?_) | refine z_if_ne (pc := 33) C 40 dX2_isRest_33 (by decide) (fun hc33 => ?_) (fun hc33 => ?_)
      · first
          | (cases hc33; done)
          | skip
            refine z_iconst (pc := 40) C dX2_isRest_40 (zb false) (by decide) ?_
            refine z_iload_n (pc := 41) C dX2_isRest_41 0 rfl ?_
            refine z_iconst (pc := 42) C dX2_isRest_42 (zb false) (by decide) ?_
            refine z_cS1 (pc := 43) mX2_gain C [_, _, _, _] dX2_isRest_43 lX2_9 mtX2_gain tX2_gain rfl rfl (by decide) (Nat.le_of_ble_eq_true rfl) (Nat.zero_le _) (Nat.zero_le _) ?_
            refine z_icmp_lt (pc := 46) C 78 dX2_isRest_46 (by decide) (fun hc46 => ?_) (fun hc46 => ?_)
            · skip
              simp only [if_true, Bool.false_eq_true, if_false] at hc46
              have a3 := Int32.not_le.mpr hc46
              refine z_iconst (pc := 78) C dX2_isRest_78 (zb false) (by decide) ?_
              refine z_zret (pc := 79) C dX2_isRest_79 rfl (by first | exact zb_nar _ | rfl) (Nat.zero_le _) (Nat.zero_le _) ⟨?_, ?_, rfl⟩
              · rw [a1, a2]; simp [srest, *] <;> rfl
              · rfl
            · skip
              simp only [if_true, Bool.false_eq_true, if_false] at hc46
              have a3 := Int32.not_lt.mp hc46
              refine z_iload_n (pc := 49) C dX2_isRest_49 2 rfl ?_
              refine z_iload_n (pc := 50) C dX2_isRest_50 1 rfl ?_
              refine z_iload_n (pc := 51) C dX2_isRest_51 0 rfl ?_
              refine z_iconst (pc := 52) C dX2_isRest_52 (zb true) (by decide) ?_
              refine z_cS1 (pc := 53) mX2_gain C [_, _, _, _] dX2_isRest_53 lX2_9 mtX2_gain tX2_gain rfl rfl (by decide) (Nat.le_of_ble_eq_true rfl) (Nat.zero_le _) (Nat.zero_le _) ?_
              refine z_iload_n (pc := 56) C dX2_isRest_56 2 rfl ?_
              refine z_iload_n (pc := 57) C dX2_isRest_57 1 rfl ?_
              refine z_iload_n (pc := 58) C dX2_isRest_58 0 rfl ?_
              first | refine z_ifneB (pc := 59) C 66 dX2_isRest_59 (by decide) (fun hc59 => ?_) (fun hc59 => ?_) | refine z_ifneN (pc := 59) C 66 dX2_isRest_59 (by decide) (by omega) (fun hc59 => ?_) (fun hc59 => ?_) | refine z_if_ne (pc := 59) C 66 dX2_isRest_59 (by decide) (fun hc59 => ?_) (fun hc59 => ?_)
              · first
                  | (cases hc59; done)
                  | skip
                    refine z_iconst (pc := 66) C dX2_isRest_66 (zb false) (by decide) ?_
                    refine z_iconst (pc := 67) C dX2_isRest_67 (zb true) (by decide) ?_
                    refine z_cS1 (pc := 68) mX2_gain C [_, _, _, _] dX2_isRest_68 lX2_9 mtX2_gain tX2_gain rfl rfl (by decide) (Nat.le_of_ble_eq_true rfl) (Nat.zero_le _) (Nat.zero_le _) ?_
                    refine z_icmp_lt (pc := 71) C 78 dX2_isRest_71 (by decide) (fun hc71 => ?_) (fun hc71 => ?_)
                    · skip
                      simp only [if_true, Bool.false_eq_true, if_false] at hc71
                      have a4 := Int32.not_le.mpr hc71
                      refine z_iconst (pc := 78) C dX2_isRest_78 (zb false) (by decide) ?_
                      refine z_zret (pc := 79) C dX2_isRest_79 rfl (by first | exact zb_nar _ | rfl) (Nat.zero_le _) (Nat.zero_le _) ⟨?_, ?_, rfl⟩
                      · rw [a1, a2]; simp [srest, *] <;> rfl
                      · rfl
                    · skip
                      simp only [if_true, Bool.false_eq_true, if_false] at hc71
                      have a4 := Int32.not_lt.mp hc71
                      refine z_iconst (pc := 74) C dX2_isRest_74 (zb true) (by decide) ?_
                      refine z_goto (pc := 75) C 79 dX2_isRest_75 (by decide) ?_
                      refine z_zret (pc := 79) C dX2_isRest_79 rfl (by first | exact zb_nar _ | rfl) (Nat.zero_le _) (Nat.zero_le _) ⟨?_, ?_, rfl⟩
                      · rw [a1, a2]; simp [srest, *] <;> rfl
                      · rfl
              · first
                  | (cases hc59; done)
                  | skip
                    refine z_iconst (pc := 62) C dX2_isRest_62 (zb true) (by decide) ?_
                    refine z_goto (pc := 63) C 67 dX2_isRest_63 (by decide) ?_
                    refine z_iconst (pc := 67) C dX2_isRest_67 (zb true) (by decide) ?_
                    refine z_cS1 (pc := 68) mX2_gain C [_, _, _, _] dX2_isRest_68 lX2_9 mtX2_gain tX2_gain rfl rfl (by decide) (Nat.le_of_ble_eq_true rfl) (Nat.zero_le _) (Nat.zero_le _) ?_
                    refine z_icmp_lt (pc := 71) C 78 dX2_isRest_71 (by decide) (fun hc71 => ?_) (fun hc71 => ?_)
                    · skip
                      simp only [if_true, Bool.false_eq_true, if_false] at hc71
                      have a4 := Int32.not_le.mpr hc71
                      refine z_iconst (pc := 78) C dX2_isRest_78 (zb false) (by decide) ?_
                      refine z_zret (pc := 79) C dX2_isRest_79 rfl (by first | exact zb_nar _ | rfl) (Nat.zero_le _) (Nat.zero_le _) ⟨?_, ?_, rfl⟩
                      · rw [a1, a2]; simp [srest, *] <;> rfl
                      · rfl
                    · skip
                      simp only [if_true, Bool.false_eq_true, if_false] at hc71
                      have a4 := Int32.not_lt.mp hc71
                      refine z_iconst (pc := 74) C dX2_isRest_74 (zb true) (by decide) ?_
                      refine z_goto (pc := 75) C 79 dX2_isRest_75 (by decide) ?_
                      refine z_zret (pc := 79) C dX2_isRest_79 rfl (by first | exact zb_nar _ | rfl) (Nat.zero_le _) (Nat.zero_le _) ⟨?_, ?_, rfl⟩
                      · rw [a1, a2]; simp [srest, *] <;> rfl
                      · rfl
      · first
          | (cases hc33; done)
          | skip
            refine z_iconst (pc := 36) C dX2_isRest_36 (zb true) (by decide) ?_
            refine z_goto (pc := 37) C 41 dX2_isRest_37 (by decide) ?_
            refine z_iload_n (pc := 41) C dX2_isRest_41 0 rfl ?_
            refine z_iconst (pc := 42) C dX2_isRest_42 (zb false) (by decide) ?_
            refine z_cS1 (pc := 43) mX2_gain C [_, _, _, _] dX2_isRest_43 lX2_9 mtX2_gain tX2_gain rfl rfl (by decide) (Nat.le_of_ble_eq_true rfl) (Nat.zero_le _) (Nat.zero_le _) ?_
            refine z_icmp_lt (pc := 46) C 78 dX2_isRest_46 (by decide) (fun hc46 => ?_) (fun hc46 => ?_)
            · skip
              simp only [if_true, Bool.false_eq_true, if_false] at hc46
              have a3 := Int32.not_le.mpr hc46
              refine z_iconst (pc := 78) C dX2_isRest_78 (zb false) (by decide) ?_
              refine z_zret (pc := 79) C dX2_isRest_79 rfl (by first | exact zb_nar _ | rfl) (Nat.zero_le _) (Nat.zero_le _) ⟨?_, ?_, rfl⟩
              · rw [a1, a2]; simp [srest, *] <;> rfl
              · rfl
            · skip
              simp only [if_true, Bool.false_eq_true, if_false] at hc46
              have a3 := Int32.not_lt.mp hc46
              refine z_iload_n (pc := 49) C dX2_isRest_49 2 rfl ?_
              refine z_iload_n (pc := 50) C dX2_isRest_50 1 rfl ?_
              refine z_iload_n (pc := 51) C dX2_isRest_51 0 rfl ?_
              refine z_iconst (pc := 52) C dX2_isRest_52 (zb true) (by decide) ?_
              refine z_cS1 (pc := 53) mX2_gain C [_, _, _, _] dX2_isRest_53 lX2_9 mtX2_gain tX2_gain rfl rfl (by decide) (Nat.le_of_ble_eq_true rfl) (Nat.zero_le _) (Nat.zero_le _) ?_
              refine z_iload_n (pc := 56) C dX2_isRest_56 2 rfl ?_
              refine z_iload_n (pc := 57) C dX2_isRest_57 1 rfl ?_
              refine z_iload_n (pc := 58) C dX2_isRest_58 0 rfl ?_
              first | refine z_ifneB (pc := 59) C 66 dX2_isRest_59 (by decide) (fun hc59 => ?_) (fun hc59 => ?_) | refine z_ifneN (pc := 59) C 66 dX2_isRest_59 (by decide) (by omega) (fun hc59 => ?_) (fun hc59 => ?_) | refine z_if_ne (pc := 59) C 66 dX2_isRest_59 (by decide) (fun hc59 => ?_) (fun hc59 => ?_)
              · first
                  | (cases hc59; done)
                  | skip
                    refine z_iconst (pc := 66) C dX2_isRest_66 (zb false) (by decide) ?_
                    refine z_iconst (pc := 67) C dX2_isRest_67 (zb true) (by decide) ?_
                    refine z_cS1 (pc := 68) mX2_gain C [_, _, _, _] dX2_isRest_68 lX2_9 mtX2_gain tX2_gain rfl rfl (by decide) (Nat.le_of_ble_eq_true rfl) (Nat.zero_le _) (Nat.zero_le _) ?_
                    refine z_icmp_lt (pc := 71) C 78 dX2_isRest_71 (by decide) (fun hc71 => ?_) (fun hc71 => ?_)
                    · skip
                      simp only [if_true, Bool.false_eq_true, if_false] at hc71
                      have a4 := Int32.not_le.mpr hc71
                      refine z_iconst (pc := 78) C dX2_isRest_78 (zb false) (by decide) ?_
                      refine z_zret (pc := 79) C dX2_isRest_79 rfl (by first | exact zb_nar _ | rfl) (Nat.zero_le _) (Nat.zero_le _) ⟨?_, ?_, rfl⟩
                      · rw [a1, a2]; simp [srest, *] <;> rfl
                      · rfl
                    · skip
                      simp only [if_true, Bool.false_eq_true, if_false] at hc71
                      have a4 := Int32.not_lt.mp hc71
                      refine z_iconst (pc := 74) C dX2_isRest_74 (zb true) (by decide) ?_
                      refine z_goto (pc := 75) C 79 dX2_isRest_75 (by decide) ?_
                      refine z_zret (pc := 79) C dX2_isRest_79 rfl (by first | exact zb_nar _ | rfl) (Nat.zero_le _) (Nat.zero_le _) ⟨?_, ?_, rfl⟩
                      · rw [a1, a2]; simp [srest, *] <;> rfl
                      · rfl
              · first
                  | (cases hc59; done)
                  | skip
                    refine z_iconst (pc := 62) C dX2_isRest_62 (zb true) (by decide) ?_
                    refine z_goto (pc := 63) C 67 dX2_isRest_63 (by decide) ?_
                    refine z_iconst (pc := 67) C dX2_isRest_67 (zb true) (by decide) ?_
                    refine z_cS1 (pc := 68) mX2_gain C [_, _, _, _] dX2_isRest_68 lX2_9 mtX2_gain tX2_gain rfl rfl (by decide) (Nat.le_of_ble_eq_true rfl) (Nat.zero_le _) (Nat.zero_le _) ?_
                    refine z_icmp_lt (pc := 71) C 78 dX2_isRest_71 (by decide) (fun hc71 => ?_) (fun hc71 => ?_)
                    · skip
                      simp only [if_true, Bool.false_eq_true, if_false] at hc71
                      have a4 := Int32.not_le.mpr hc71
                      refine z_iconst (pc := 78) C dX2_isRest_78 (zb false) (by decide) ?_
                      refine z_zret (pc := 79) C dX2_isRest_79 rfl (by first | exact zb_nar _ | rfl) (Nat.zero_le _) (Nat.zero_le _) ⟨?_, ?_, rfl⟩
                      · rw [a1, a2]; simp [srest, *] <;> rfl
                      · rfl
                    · skip
                      simp only [if_true, Bool.false_eq_true, if_false] at hc71
                      have a4 := Int32.not_lt.mp hc71
                      refine z_iconst (pc := 74) C dX2_isRest_74 (zb true) (by decide) ?_
                      refine z_goto (pc := 75) C 79 dX2_isRest_75 (by decide) ?_
                      refine z_zret (pc := 79) C dX2_isRest_79 rfl (by first | exact zb_nar _ | rfl) (Nat.zero_le _) (Nat.zero_le _) ⟨?_, ?_, rfl⟩
                      · rw [a1, a2]; simp [srest, *] <;> rfl
                      · rfl
    · skip
      have a2 : decide (k % 2 = 1) = true := decide_eq_true hc15
      refine z_iconst (pc := 18) C dX2_isRest_18 (zb true) (by decide) ?_
      refine z_goto (pc := 19) C 23 dX2_isRest_19 (by decide) ?_
      refine z_istore_n (pc := 23) (lv' := [(3, _), (2, _), (0, _), (1, _)]) C dX2_isRest_23 (by decide) rfl ?_
      refine z_iload_n (pc := 24) C dX2_isRest_24 2 rfl ?_
      refine z_iload_n (pc := 25) C dX2_isRest_25 1 rfl ?_
      refine z_iload_n (pc := 26) C dX2_isRest_26 0 rfl ?_
      refine z_iconst (pc := 27) C dX2_isRest_27 (zb false) (by decide) ?_
      refine z_cS1 (pc := 28) mX2_gain C [_, _, _, _] dX2_isRest_28 lX2_9 mtX2_gain tX2_gain rfl rfl (by decide) (Nat.le_of_ble_eq_true rfl) (Nat.zero_le _) (Nat.zero_le _) ?_
      refine z_iload_n (pc := 31) C dX2_isRest_31 2 rfl ?_
      refine z_iload_n (pc := 32) C dX2_isRest_32 1 rfl ?_
      first | refine z_ifneB (pc := 33) C 40 dX2_isRest_33 (by decide) (fun hc33 => ?_) (fun hc33 => ?_) | refine z_ifneN (pc := 33) C 40 dX2_isRest_33 (by decide) (by omega) (fun hc33 => ?_) (fun hc33 => ?_) | refine z_if_ne (pc := 33) C 40 dX2_isRest_33 (by decide) (fun hc33 => ?_) (fun hc33 => ?_)
      · first
          | (cases hc33; done)
          | skip
            refine z_iconst (pc := 40) C dX2_isRest_40 (zb false) (by decide) ?_
            refine z_iload_n (pc := 41) C dX2_isRest_41 0 rfl ?_
            refine z_iconst (pc := 42) C dX2_isRest_42 (zb false) (by decide) ?_
            refine z_cS1 (pc := 43) mX2_gain C [_, _, _, _] dX2_isRest_43 lX2_9 mtX2_gain tX2_gain rfl rfl (by decide) (Nat.le_of_ble_eq_true rfl) (Nat.zero_le _) (Nat.zero_le _) ?_
            refine z_icmp_lt (pc := 46) C 78 dX2_isRest_46 (by decide) (fun hc46 => ?_) (fun hc46 => ?_)
            · skip
              simp only [if_true, Bool.false_eq_true, if_false] at hc46
              have a3 := Int32.not_le.mpr hc46
              refine z_iconst (pc := 78) C dX2_isRest_78 (zb false) (by decide) ?_
              refine z_zret (pc := 79) C dX2_isRest_79 rfl (by first | exact zb_nar _ | rfl) (Nat.zero_le _) (Nat.zero_le _) ⟨?_, ?_, rfl⟩
              · rw [a1, a2]; simp [srest, *] <;> rfl
              · rfl
            · skip
              simp only [if_true, Bool.false_eq_true, if_false] at hc46
              have a3 := Int32.not_lt.mp hc46
              refine z_iload_n (pc := 49) C dX2_isRest_49 2 rfl ?_
              refine z_iload_n (pc := 50) C dX2_isRest_50 1 rfl ?_
              refine z_iload_n (pc := 51) C dX2_isRest_51 0 rfl ?_
              refine z_iconst (pc := 52) C dX2_isRest_52 (zb true) (by decide) ?_
              refine z_cS1 (pc := 53) mX2_gain C [_, _, _, _] dX2_isRest_53 lX2_9 mtX2_gain tX2_gain rfl rfl (by decide) (Nat.le_of_ble_eq_true rfl) (Nat.zero_le _) (Nat.zero_le _) ?_
              refine z_iload_n (pc := 56) C dX2_isRest_56 2 rfl ?_
              refine z_iload_n (pc := 57) C dX2_isRest_57 1 rfl ?_
              refine z_iload_n (pc := 58) C dX2_isRest_58 0 rfl ?_
              first | refine z_ifneB (pc := 59) C 66 dX2_isRest_59 (by decide) (fun hc59 => ?_) (fun hc59 => ?_) | refine z_ifneN (pc := 59) C 66 dX2_isRest_59 (by decide) (by omega) (fun hc59 => ?_) (fun hc59 => ?_) | refine z_if_ne (pc := 59) C 66 dX2_isRest_59 (by decide) (fun hc59 => ?_) (fun hc59 => ?_)
              · first
                  | (cases hc59; done)
                  | skip
                    refine z_iconst (pc := 66) C dX2_isRest_66 (zb false) (by decide) ?_
                    refine z_iconst (pc := 67) C dX2_isRest_67 (zb true) (by decide) ?_
                    refine z_cS1 (pc := 68) mX2_gain C [_, _, _, _] dX2_isRest_68 lX2_9 mtX2_gain tX2_gain rfl rfl (by decide) (Nat.le_of_ble_eq_true rfl) (Nat.zero_le _) (Nat.zero_le _) ?_
                    refine z_icmp_lt (pc := 71) C 78 dX2_isRest_71 (by decide) (fun hc71 => ?_) (fun hc71 => ?_)
                    · skip
                      simp only [if_true, Bool.false_eq_true, if_false] at hc71
                      have a4 := Int32.not_le.mpr hc71
                      refine z_iconst (pc := 78) C dX2_isRest_78 (zb false) (by decide) ?_
                      refine z_zret (pc := 79) C dX2_isRest_79 rfl (by first | exact zb_nar _ | rfl) (Nat.zero_le _) (Nat.zero_le _) ⟨?_, ?_, rfl⟩
                      · rw [a1, a2]; simp [srest, *] <;> rfl
                      · rfl
                    · skip
                      simp only [if_true, Bool.false_eq_true, if_false] at hc71
                      have a4 := Int32.not_lt.mp hc71
                      refine z_iconst (pc := 74) C dX2_isRest_74 (zb true) (by decide) ?_
                      refine z_goto (pc := 75) C 79 dX2_isRest_75 (by decide) ?_
                      refine z_zret (pc := 79) C dX2_isRest_79 rfl (by first | exact zb_nar _ | rfl) (Nat.zero_le _) (Nat.zero_le _) ⟨?_, ?_, rfl⟩
                      · rw [a1, a2]; simp [srest, *] <;> rfl
                      · rfl
              · first
                  | (cases hc59; done)
                  | skip
                    refine z_iconst (pc := 62) C dX2_isRest_62 (zb true) (by decide) ?_
                    refine z_goto (pc := 63) C 67 dX2_isRest_63 (by decide) ?_
                    refine z_iconst (pc := 67) C dX2_isRest_67 (zb true) (by decide) ?_
                    refine z_cS1 (pc := 68) mX2_gain C [_, _, _, _] dX2_isRest_68 lX2_9 mtX2_gain tX2_gain rfl rfl (by decide) (Nat.le_of_ble_eq_true rfl) (Nat.zero_le _) (Nat.zero_le _) ?_
                    refine z_icmp_lt (pc := 71) C 78 dX2_isRest_71 (by decide) (fun hc71 => ?_) (fun hc71 => ?_)
                    · skip
                      simp only [if_true, Bool.false_eq_true, if_false] at hc71
                      have a4 := Int32.not_le.mpr hc71
                      refine z_iconst (pc := 78) C dX2_isRest_78 (zb false) (by decide) ?_
                      refine z_zret (pc := 79) C dX2_isRest_79 rfl (by first | exact zb_nar _ | rfl) (Nat.zero_le _) (Nat.zero_le _) ⟨?_, ?_, rfl⟩
                      · rw [a1, a2]; simp [srest, *] <;> rfl
                      · rfl
                    · skip
                      simp only [if_true, Bool.false_eq_true, if_false] at hc71
                      have a4 := Int32.not_lt.mp hc71
                      refine z_iconst (pc := 74) C dX2_isRest_74 (zb true) (by decide) ?_
                      refine z_goto (pc := 75) C 79 dX2_isRest_75 (by decide) ?_
                      refine z_zret (pc := 79) C dX2_isRest_79 rfl (by first | exact zb_nar _ | rfl) (Nat.zero_le _) (Nat.zero_le _) ⟨?_, ?_, rfl⟩
                      · rw [a1, a2]; simp [srest, *] <;> rfl
                      · rfl
      · first
          | (cases hc33; done)
          | skip
            refine z_iconst (pc := 36) C dX2_isRest_36 (zb true) (by decide) ?_
            refine z_goto (pc := 37) C 41 dX2_isRest_37 (by decide) ?_
            refine z_iload_n (pc := 41) C dX2_isRest_41 0 rfl ?_
            refine z_iconst (pc := 42) C dX2_isRest_42 (zb false) (by decide) ?_
            refine z_cS1 (pc := 43) mX2_gain C [_, _, _, _] dX2_isRest_43 lX2_9 mtX2_gain tX2_gain rfl rfl (by decide) (Nat.le_of_ble_eq_true rfl) (Nat.zero_le _) (Nat.zero_le _) ?_
            refine z_icmp_lt (pc := 46) C 78 dX2_isRest_46 (by decide) (fun hc46 => ?_) (fun hc46 => ?_)
            · skip
              simp only [if_true, Bool.false_eq_true, if_false] at hc46
              have a3 := Int32.not_le.mpr hc46
              refine z_iconst (pc := 78) C dX2_isRest_78 (zb false) (by decide) ?_
              refine z_zret (pc := 79) C dX2_isRest_79 rfl (by first | exact zb_nar _ | rfl) (Nat.zero_le _) (Nat.zero_le _) ⟨?_, ?_, rfl⟩
              · rw [a1, a2]; simp [srest, *] <;> rfl
              · rfl
            · skip
              simp only [if_true, Bool.false_eq_true, if_false] at hc46
              have a3 := Int32.not_lt.mp hc46
              refine z_iload_n (pc := 49) C dX2_isRest_49 2 rfl ?_
              refine z_iload_n (pc := 50) C dX2_isRest_50 1 rfl ?_
              refine z_iload_n (pc := 51) C dX2_isRest_51 0 rfl ?_
              refine z_iconst (pc := 52) C dX2_isRest_52 (zb true) (by decide) ?_
              refine z_cS1 (pc := 53) mX2_gain C [_, _, _, _] dX2_isRest_53 lX2_9 mtX2_gain tX2_gain rfl rfl (by decide) (Nat.le_of_ble_eq_true rfl) (Nat.zero_le _) (Nat.zero_le _) ?_
              refine z_iload_n (pc := 56) C dX2_isRest_56 2 rfl ?_
              refine z_iload_n (pc := 57) C dX2_isRest_57 1 rfl ?_
              refine z_iload_n (pc := 58) C dX2_isRest_58 0 rfl ?_
              first | refine z_ifneB (pc := 59) C 66 dX2_isRest_59 (by decide) (fun hc59 => ?_) (fun hc59 => ?_) | refine z_ifneN (pc := 59) C 66 dX2_isRest_59 (by decide) (by omega) (fun hc59 => ?_) (fun hc59 => ?_) | refine z_if_ne (pc := 59) C 66 dX2_isRest_59 (by decide) (fun hc59 => ?_) (fun hc59 => ?_)
              · first
                  | (cases hc59; done)
                  | skip
                    refine z_iconst (pc := 66) C dX2_isRest_66 (zb false) (by decide) ?_
                    refine z_iconst (pc := 67) C dX2_isRest_67 (zb true) (by decide) ?_
                    refine z_cS1 (pc := 68) mX2_gain C [_, _, _, _] dX2_isRest_68 lX2_9 mtX2_gain tX2_gain rfl rfl (by decide) (Nat.le_of_ble_eq_true rfl) (Nat.zero_le _) (Nat.zero_le _) ?_
                    refine z_icmp_lt (pc := 71) C 78 dX2_isRest_71 (by decide) (fun hc71 => ?_) (fun hc71 => ?_)
                    · skip
                      simp only [if_true, Bool.false_eq_true, if_false] at hc71
                      have a4 := Int32.not_le.mpr hc71
                      refine z_iconst (pc := 78) C dX2_isRest_78 (zb false) (by decide) ?_
                      refine z_zret (pc := 79) C dX2_isRest_79 rfl (by first | exact zb_nar _ | rfl) (Nat.zero_le _) (Nat.zero_le _) ⟨?_, ?_, rfl⟩
                      · rw [a1, a2]; simp [srest, *] <;> rfl
                      · rfl
                    · skip
                      simp only [if_true, Bool.false_eq_true, if_false] at hc71
                      have a4 := Int32.not_lt.mp hc71
                      refine z_iconst (pc := 74) C dX2_isRest_74 (zb true) (by decide) ?_
                      refine z_goto (pc := 75) C 79 dX2_isRest_75 (by decide) ?_
                      refine z_zret (pc := 79) C dX2_isRest_79 rfl (by first | exact zb_nar _ | rfl) (Nat.zero_le _) (Nat.zero_le _) ⟨?_, ?_, rfl⟩
                      · rw [a1, a2]; simp [srest, *] <;> rfl
                      · rfl
              · first
                  | (cases hc59; done)
                  | skip
                    refine z_iconst (pc := 62) C dX2_isRest_62 (zb true) (by decide) ?_
                    refine z_goto (pc := 63) C 67 dX2_isRest_63 (by decide) ?_
                    refine z_iconst (pc := 67) C dX2_isRest_67 (zb true) (by decide) ?_
                    refine z_cS1 (pc := 68) mX2_gain C [_, _, _, _] dX2_isRest_68 lX2_9 mtX2_gain tX2_gain rfl rfl (by decide) (Nat.le_of_ble_eq_true rfl) (Nat.zero_le _) (Nat.zero_le _) ?_
                    refine z_icmp_lt (pc := 71) C 78 dX2_isRest_71 (by decide) (fun hc71 => ?_) (fun hc71 => ?_)
                    · skip
                      simp only [if_true, Bool.false_eq_true, if_false] at hc71
                      have a4 := Int32.not_le.mpr hc71
                      refine z_iconst (pc := 78) C dX2_isRest_78 (zb false) (by decide) ?_
                      refine z_zret (pc := 79) C dX2_isRest_79 rfl (by first | exact zb_nar _ | rfl) (Nat.zero_le _) (Nat.zero_le _) ⟨?_, ?_, rfl⟩
                      · rw [a1, a2]; simp [srest, *] <;> rfl
                      · rfl
                    · skip
                      simp only [if_true, Bool.false_eq_true, if_false] at hc71
                      have a4 := Int32.not_lt.mp hc71
                      refine z_iconst (pc := 74) C dX2_isRest_74 (zb true) (by decide) ?_
                      refine z_goto (pc := 75) C 79 dX2_isRest_75 (by decide) ?_
                      refine z_zret (pc := 79) C dX2_isRest_79 rfl (by first | exact zb_nar _ | rfl) (Nat.zero_le _) (Nat.zero_le _) ⟨?_, ?_, rfl⟩
                      · rw [a1, a2]; simp [srest, *] <;> rfl
                      · rfl
  · skip
    have a1 : decide (1 < k) = true := decide_eq_true (by omega)
    refine z_iconst (pc := 5) C dX2_isRest_5 (zb true) (by decide) ?_
    refine z_goto (pc := 6) C 10 dX2_isRest_6 (by decide) ?_
    refine z_istore_n (pc := 10) (lv' := [(2, _), (0, _), (1, _)]) C dX2_isRest_10 (by decide) rfl ?_
    refine z_iload_n (pc := 11) C dX2_isRest_11 2 rfl ?_
    refine z_iconst (pc := 12) C dX2_isRest_12 (nI 2) (by decide) ?_
    first | refine z_iremN (pc := 13) C dX2_isRest_13 (by omega) (by omega) (by omega) ?_ | refine z_irem (pc := 13) C dX2_isRest_13 (by decide) ?_
    refine z_iconst (pc := 14) C dX2_isRest_14 (nI 1) (by decide) ?_
    first | refine z_icmpneN (pc := 15) C 22 dX2_isRest_15 (by decide) (by omega) (by omega) (fun hc15 => ?_) (fun hc15 => ?_) | refine z_icmp_ne (pc := 15) C 22 dX2_isRest_15 (by decide) (fun hc15 => ?_) (fun hc15 => ?_)
    · skip
      have a2 : decide (k % 2 = 1) = false := decide_eq_false hc15
      refine z_iconst (pc := 22) C dX2_isRest_22 (zb false) (by decide) ?_
      refine z_istore_n (pc := 23) (lv' := [(3, _), (2, _), (0, _), (1, _)]) C dX2_isRest_23 (by decide) rfl ?_
      refine z_iload_n (pc := 24) C dX2_isRest_24 2 rfl ?_
      refine z_iload_n (pc := 25) C dX2_isRest_25 1 rfl ?_
      refine z_iload_n (pc := 26) C dX2_isRest_26 0 rfl ?_
      refine z_iconst (pc := 27) C dX2_isRest_27 (zb false) (by decide) ?_
      refine z_cS1 (pc := 28) mX2_gain C [_, _, _, _] dX2_isRest_28 lX2_9 mtX2_gain tX2_gain rfl rfl (by decide) (Nat.le_of_ble_eq_true rfl) (Nat.zero_le _) (Nat.zero_le _) ?_
      refine z_iload_n (pc := 31) C dX2_isRest_31 2 rfl ?_
      refine z_iload_n (pc := 32) C dX2_isRest_32 1 rfl ?_
      first | refine z_ifneB (pc := 33) C 40 dX2_isRest_33 (by decide) (fun hc33 => ?_) (fun hc33 => ?_) | refine z_ifneN (pc := 33) C 40 dX2_isRest_33 (by decide) (by omega) (fun hc33 => ?_) (fun hc33 => ?_) | refine z_if_ne (pc := 33) C 40 dX2_isRest_33 (by decide) (fun hc33 => ?_) (fun hc33 => ?_)
      · first
          | (cases hc33; done)
          | skip
            refine z_iconst (pc := 40) C dX2_isRest_40 (zb false) (by decide) ?_
            refine z_iload_n (pc := 41) C dX2_isRest_41 0 rfl ?_
            refine z_iconst (pc := 42) C dX2_isRest_42 (zb false) (by decide) ?_
            refine z_cS1 (pc := 43) mX2_gain C [_, _, _, _] dX2_isRest_43 lX2_9 mtX2_gain tX2_gain rfl rfl (by decide) (Nat.le_of_ble_eq_true rfl) (Nat.zero_le _) (Nat.zero_le _) ?_
            refine z_icmp_lt (pc := 46) C 78 dX2_isRest_46 (by decide) (fun hc46 => ?_) (fun hc46 => ?_)
            · skip
              simp only [if_true, Bool.false_eq_true, if_false] at hc46
              have a3 := Int32.not_le.mpr hc46
              refine z_iconst (pc := 78) C dX2_isRest_78 (zb false) (by decide) ?_
              refine z_zret (pc := 79) C dX2_isRest_79 rfl (by first | exact zb_nar _ | rfl) (Nat.zero_le _) (Nat.zero_le _) ⟨?_, ?_, rfl⟩
              · rw [a1, a2]; simp [srest, *] <;> rfl
              · rfl
            · skip
              simp only [if_true, Bool.false_eq_true, if_false] at hc46
              have a3 := Int32.not_lt.mp hc46
              refine z_iload_n (pc := 49) C dX2_isRest_49 2 rfl ?_
              refine z_iload_n (pc := 50) C dX2_isRest_50 1 rfl ?_
              refine z_iload_n (pc := 51) C dX2_isRest_51 0 rfl ?_
              refine z_iconst (pc := 52) C dX2_isRest_52 (zb true) (by decide) ?_
              refine z_cS1 (pc := 53) mX2_gain C [_, _, _, _] dX2_isRest_53 lX2_9 mtX2_gain tX2_gain rfl rfl (by decide) (Nat.le_of_ble_eq_true rfl) (Nat.zero_le _) (Nat.zero_le _) ?_
              refine z_iload_n (pc := 56) C dX2_isRest_56 2 rfl ?_
              refine z_iload_n (pc := 57) C dX2_isRest_57 1 rfl ?_
              refine z_iload_n (pc := 58) C dX2_isRest_58 0 rfl ?_
              first | refine z_ifneB (pc := 59) C 66 dX2_isRest_59 (by decide) (fun hc59 => ?_) (fun hc59 => ?_) | refine z_ifneN (pc := 59) C 66 dX2_isRest_59 (by decide) (by omega) (fun hc59 => ?_) (fun hc59 => ?_) | refine z_if_ne (pc := 59) C 66 dX2_isRest_59 (by decide) (fun hc59 => ?_) (fun hc59 => ?_)
              · first
                  | (cases hc59; done)
                  | skip
                    refine z_iconst (pc := 66) C dX2_isRest_66 (zb false) (by decide) ?_
                    refine z_iconst (pc := 67) C dX2_isRest_67 (zb true) (by decide) ?_
                    refine z_cS1 (pc := 68) mX2_gain C [_, _, _, _] dX2_isRest_68 lX2_9 mtX2_gain tX2_gain rfl rfl (by decide) (Nat.le_of_ble_eq_true rfl) (Nat.zero_le _) (Nat.zero_le _) ?_
                    refine z_icmp_lt (pc := 71) C 78 dX2_isRest_71 (by decide) (fun hc71 => ?_) (fun hc71 => ?_)
                    · skip
                      simp only [if_true, Bool.false_eq_true, if_false] at hc71
                      have a4 := Int32.not_le.mpr hc71
                      refine z_iconst (pc := 78) C dX2_isRest_78 (zb false) (by decide) ?_
                      refine z_zret (pc := 79) C dX2_isRest_79 rfl (by first | exact zb_nar _ | rfl) (Nat.zero_le _) (Nat.zero_le _) ⟨?_, ?_, rfl⟩
                      · rw [a1, a2]; simp [srest, *] <;> rfl
                      · rfl
                    · skip
                      simp only [if_true, Bool.false_eq_true, if_false] at hc71
                      have a4 := Int32.not_lt.mp hc71
                      refine z_iconst (pc := 74) C dX2_isRest_74 (zb true) (by decide) ?_
                      refine z_goto (pc := 75) C 79 dX2_isRest_75 (by decide) ?_
                      refine z_zret (pc := 79) C dX2_isRest_79 rfl (by first | exact zb_nar _ | rfl) (Nat.zero_le _) (Nat.zero_le _) ⟨?_, ?_, rfl⟩
                      · rw [a1, a2]; simp [srest, *] <;> rfl
                      · rfl
              · first
                  | (cases hc59; done)
                  | skip
                    refine z_iconst (pc := 62) C dX2_isRest_62 (zb true) (by decide) ?_
                    refine z_goto (pc := 63) C 67 dX2_isRest_63 (by decide) ?_
                    refine z_iconst (pc := 67) C dX2_isRest_67 (zb true) (by decide) ?_
                    refine z_cS1 (pc := 68) mX2_gain C [_, _, _, _] dX2_isRest_68 lX2_9 mtX2_gain tX2_gain rfl rfl (by decide) (Nat.le_of_ble_eq_true rfl) (Nat.zero_le _) (Nat.zero_le _) ?_
                    refine z_icmp_lt (pc := 71) C 78 dX2_isRest_71 (by decide) (fun hc71 => ?_) (fun hc71 => ?_)
                    · skip
                      simp only [if_true, Bool.false_eq_true, if_false] at hc71
                      have a4 := Int32.not_le.mpr hc71
                      refine z_iconst (pc := 78) C dX2_isRest_78 (zb false) (by decide) ?_
                      refine z_zret (pc := 79) C dX2_isRest_79 rfl (by first | exact zb_nar _ | rfl) (Nat.zero_le _) (Nat.zero_le _) ⟨?_, ?_, rfl⟩
                      · rw [a1, a2]; simp [srest, *] <;> rfl
                      · rfl
                    · skip
                      simp only [if_true, Bool.false_eq_true, if_false] at hc71
                      have a4 := Int32.not_lt.mp hc71
                      refine z_iconst (pc := 74) C dX2_isRest_74 (zb true) (by decide) ?_
                      refine z_goto (pc := 75) C 79 dX2_isRest_75 (by decide) ?_
                      refine z_zret (pc := 79) C dX2_isRest_79 rfl (by first | exact zb_nar _ | rfl) (Nat.zero_le _) (Nat.zero_le _) ⟨?_, ?_, rfl⟩
                      · rw [a1, a2]; simp [srest, *] <;> rfl
                      · rfl
      · first
          | (cases hc33; done)
          | skip
            refine z_iconst (pc := 36) C dX2_isRest_36 (zb true) (by decide) ?_
            refine z_goto (pc := 37) C 41 dX2_isRest_37 (by decide) ?_
            refine z_iload_n (pc := 41) C dX2_isRest_41 0 rfl ?_
            refine z_iconst (pc := 42) C dX2_isRest_42 (zb false) (by decide) ?_
            refine z_cS1 (pc := 43) mX2_gain C [_, _, _, _] dX2_isRest_43 lX2_9 mtX2_gain tX2_gain rfl rfl (by decide) (Nat.le_of_ble_eq_true rfl) (Nat.zero_le _) (Nat.zero_le _) ?_
            refine z_icmp_lt (pc := 46) C 78 dX2_isRest_46 (by decide) (fun hc46 => ?_) (fun hc46 => ?_)
            · skip
              simp only [if_true, Bool.false_eq_true, if_false] at hc46
              have a3 := Int32.not_le.mpr hc46
              refine z_iconst (pc := 78) C dX2_isRest_78 (zb false) (by decide) ?_
              refine z_zret (pc := 79) C dX2_isRest_79 rfl (by first | exact zb_nar _ | rfl) (Nat.zero_le _) (Nat.zero_le _) ⟨?_, ?_, rfl⟩
              · rw [a1, a2]; simp [srest, *] <;> rfl
              · rfl
            · skip
              simp only [if_true, Bool.false_eq_true, if_false] at hc46
              have a3 := Int32.not_lt.mp hc46
              refine z_iload_n (pc := 49) C dX2_isRest_49 2 rfl ?_
              refine z_iload_n (pc := 50) C dX2_isRest_50 1 rfl ?_
              refine z_iload_n (pc := 51) C dX2_isRest_51 0 rfl ?_
              refine z_iconst (pc := 52) C dX2_isRest_52 (zb true) (by decide) ?_
              refine z_cS1 (pc := 53) mX2_gain C [_, _, _, _] dX2_isRest_53 lX2_9 mtX2_gain tX2_gain rfl rfl (by decide) (Nat.le_of_ble_eq_true rfl) (Nat.zero_le _) (Nat.zero_le _) ?_
              refine z_iload_n (pc := 56) C dX2_isRest_56 2 rfl ?_
              refine z_iload_n (pc := 57) C dX2_isRest_57 1 rfl ?_
              refine z_iload_n (pc := 58) C dX2_isRest_58 0 rfl ?_
              first | refine z_ifneB (pc := 59) C 66 dX2_isRest_59 (by decide) (fun hc59 => ?_) (fun hc59 => ?_) | refine z_ifneN (pc := 59) C 66 dX2_isRest_59 (by decide) (by omega) (fun hc59 => ?_) (fun hc59 => ?_) | refine z_if_ne (pc := 59) C 66 dX2_isRest_59 (by decide) (fun hc59 => ?_) (fun hc59 => ?_)
              · first
                  | (cases hc59; done)
                  | skip
                    refine z_iconst (pc := 66) C dX2_isRest_66 (zb false) (by decide) ?_
                    refine z_iconst (pc := 67) C dX2_isRest_67 (zb true) (by decide) ?_
                    refine z_cS1 (pc := 68) mX2_gain C [_, _, _, _] dX2_isRest_68 lX2_9 mtX2_gain tX2_gain rfl rfl (by decide) (Nat.le_of_ble_eq_true rfl) (Nat.zero_le _) (Nat.zero_le _) ?_
                    refine z_icmp_lt (pc := 71) C 78 dX2_isRest_71 (by decide) (fun hc71 => ?_) (fun hc71 => ?_)
                    · skip
                      simp only [if_true, Bool.false_eq_true, if_false] at hc71
                      have a4 := Int32.not_le.mpr hc71
                      refine z_iconst (pc := 78) C dX2_isRest_78 (zb false) (by decide) ?_
                      refine z_zret (pc := 79) C dX2_isRest_79 rfl (by first | exact zb_nar _ | rfl) (Nat.zero_le _) (Nat.zero_le _) ⟨?_, ?_, rfl⟩
                      · rw [a1, a2]; simp [srest, *] <;> rfl
                      · rfl
                    · skip
                      simp only [if_true, Bool.false_eq_true, if_false] at hc71
                      have a4 := Int32.not_lt.mp hc71
                      refine z_iconst (pc := 74) C dX2_isRest_74 (zb true) (by decide) ?_
                      refine z_goto (pc := 75) C 79 dX2_isRest_75 (by decide) ?_
                      refine z_zret (pc := 79) C dX2_isRest_79 rfl (by first | exact zb_nar _ | rfl) (Nat.zero_le _) (Nat.zero_le _) ⟨?_, ?_, rfl⟩
                      · rw [a1, a2]; simp [srest, *] <;> rfl
                      · rfl
              · first
                  | (cases hc59; done)
                  | skip
                    refine z_iconst (pc := 62) C dX2_isRest_62 (zb true) (by decide) ?_
                    refine z_goto (pc := 63) C 67 dX2_isRest_63 (by decide) ?_
                    refine z_iconst (pc := 67) C dX2_isRest_67 (zb true) (by decide) ?_
                    refine z_cS1 (pc := 68) mX2_gain C [_, _, _, _] dX2_isRest_68 lX2_9 mtX2_gain tX2_gain rfl rfl (by decide) (Nat.le_of_ble_eq_true rfl) (Nat.zero_le _) (Nat.zero_le _) ?_
                    refine z_icmp_lt (pc := 71) C 78 dX2_isRest_71 (by decide) (fun hc71 => ?_) (fun hc71 => ?_)
                    · skip
                      simp only [if_true, Bool.false_eq_true, if_false] at hc71
                      have a4 := Int32.not_le.mpr hc71
                      refine z_iconst (pc := 78) C dX2_isRest_78 (zb false) (by decide) ?_
                      refine z_zret (pc := 79) C dX2_isRest_79 rfl (by first | exact zb_nar _ | rfl) (Nat.zero_le _) (Nat.zero_le _) ⟨?_, ?_, rfl⟩
                      · rw [a1, a2]; simp [srest, *] <;> rfl
                      · rfl
                    · skip
                      simp only [if_true, Bool.false_eq_true, if_false] at hc71
                      have a4 := Int32.not_lt.mp hc71
                      refine z_iconst (pc := 74) C dX2_isRest_74 (zb true) (by decide) ?_
                      refine z_goto (pc := 75) C 79 dX2_isRest_75 (by decide) ?_
                      refine z_zret (pc := 79) C dX2_isRest_79 rfl (by first | exact zb_nar _ | rfl) (Nat.zero_le _) (Nat.zero_le _) ⟨?_, ?_, rfl⟩
                      · rw [a1, a2]; simp [srest, *] <;> rfl
                      · rfl
    · skip
      have a2 : decide (k % 2 = 1) = true := decide_eq_true hc15
      refine z_iconst (pc := 18) C dX2_isRest_18 (zb true) (by decide) ?_
      refine z_goto (pc := 19) C 23 dX2_isRest_19 (by decide) ?_
      refine z_istore_n (pc := 23) (lv' := [(3, _), (2, _), (0, _), (1, _)]) C dX2_isRest_23 (by decide) rfl ?_
      refine z_iload_n (pc := 24) C dX2_isRest_24 2 rfl ?_
      refine z_iload_n (pc := 25) C dX2_isRest_25 1 rfl ?_
      refine z_iload_n (pc := 26) C dX2_isRest_26 0 rfl ?_
      refine z_iconst (pc := 27) C dX2_isRest_27 (zb false) (by decide) ?_
      refine z_cS1 (pc := 28) mX2_gain C [_, _, _, _] dX2_isRest_28 lX2_9 mtX2_gain tX2_gain rfl rfl (by decide) (Nat.le_of_ble_eq_true rfl) (Nat.zero_le _) (Nat.zero_le _) ?_
      refine z_iload_n (pc := 31) C dX2_isRest_31 2 rfl ?_
      refine z_iload_n (pc := 32) C dX2_isRest_32 1 rfl ?_
      first | refine z_ifneB (pc := 33) C 40 dX2_isRest_33 (by decide) (fun hc33 => ?_) (fun hc33 => ?_) | refine z_ifneN (pc := 33) C 40 dX2_isRest_33 (by decide) (by omega) (fun hc33 => ?_) (fun hc33 => ?_) | refine z_if_ne (pc := 33) C 40 dX2_isRest_33 (by decide) (fun hc33 => ?_) (fun hc33 => ?_)
      · first
          | (cases hc33; done)
          | skip
            refine z_iconst (pc := 40) C dX2_isRest_40 (zb false) (by decide) ?_
            refine z_iload_n (pc := 41) C dX2_isRest_41 0 rfl ?_
            refine z_iconst (pc := 42) C dX2_isRest_42 (zb false) (by decide) ?_
            refine z_cS1 (pc := 43) mX2_gain C [_, _, _, _] dX2_isRest_43 lX2_9 mtX2_gain tX2_gain rfl rfl (by decide) (Nat.le_of_ble_eq_true rfl) (Nat.zero_le _) (Nat.zero_le _) ?_
            refine z_icmp_lt (pc := 46) C 78 dX2_isRest_46 (by decide) (fun hc46 => ?_) (fun hc46 => ?_)
            · skip
              simp only [if_true, Bool.false_eq_true, if_false] at hc46
              have a3 := Int32.not_le.mpr hc46
              refine z_iconst (pc := 78) C dX2_isRest_78 (zb false) (by decide) ?_
              refine z_zret (pc := 79) C dX2_isRest_79 rfl (by first | exact zb_nar _ | rfl) (Nat.zero_le _) (Nat.zero_le _) ⟨?_, ?_, rfl⟩
              · rw [a1, a2]; simp [srest, *] <;> rfl
              · rfl
            · skip
              simp only [if_true, Bool.false_eq_true, if_false] at hc46
              have a3 := Int32.not_lt.mp hc46
              refine z_iload_n (pc := 49) C dX2_isRest_49 2 rfl ?_
              refine z_iload_n (pc := 50) C dX2_isRest_50 1 rfl ?_
              refine z_iload_n (pc := 51) C dX2_isRest_51 0 rfl ?_
              refine z_iconst (pc := 52) C dX2_isRest_52 (zb true) (by decide) ?_
              refine z_cS1 (pc := 53) mX2_gain C [_, _, _, _] dX2_isRest_53 lX2_9 mtX2_gain tX2_gain rfl rfl (by decide) (Nat.le_of_ble_eq_true rfl) (Nat.zero_le _) (Nat.zero_le _) ?_
              refine z_iload_n (pc := 56) C dX2_isRest_56 2 rfl ?_
              refine z_iload_n (pc := 57) C dX2_isRest_57 1 rfl ?_
              refine z_iload_n (pc := 58) C dX2_isRest_58 0 rfl ?_
              first | refine z_ifneB (pc := 59) C 66 dX2_isRest_59 (by decide) (fun hc59 => ?_) (fun hc59 => ?_) | refine z_ifneN (pc := 59) C 66 dX2_isRest_59 (by decide) (by omega) (fun hc59 => ?_) (fun hc59 => ?_) | refine z_if_ne (pc := 59) C 66 dX2_isRest_59 (by decide) (fun hc59 => ?_) (fun hc59 => ?_)
              · first
                  | (cases hc59; done)
                  | skip
                    refine z_iconst (pc := 66) C dX2_isRest_66 (zb false) (by decide) ?_
                    refine z_iconst (pc := 67) C dX2_isRest_67 (zb true) (by decide) ?_
                    refine z_cS1 (pc := 68) mX2_gain C [_, _, _, _] dX2_isRest_68 lX2_9 mtX2_gain tX2_gain rfl rfl (by decide) (Nat.le_of_ble_eq_true rfl) (Nat.zero_le _) (Nat.zero_le _) ?_
                    refine z_icmp_lt (pc := 71) C 78 dX2_isRest_71 (by decide) (fun hc71 => ?_) (fun hc71 => ?_)
                    · skip
                      simp only [if_true, Bool.false_eq_true, if_false] at hc71
                      have a4 := Int32.not_le.mpr hc71
                      refine z_iconst (pc := 78) C dX2_isRest_78 (zb false) (by decide) ?_
                      refine z_zret (pc := 79) C dX2_isRest_79 rfl (by first | exact zb_nar _ | rfl) (Nat.zero_le _) (Nat.zero_le _) ⟨?_, ?_, rfl⟩
                      · rw [a1, a2]; simp [srest, *] <;> rfl
                      · rfl
                    · skip
                      simp only [if_true, Bool.false_eq_true, if_false] at hc71
                      have a4 := Int32.not_lt.mp hc71
                      refine z_iconst (pc := 74) C dX2_isRest_74 (zb true) (by decide) ?_
                      refine z_goto (pc := 75) C 79 dX2_isRest_75 (by decide) ?_
                      refine z_zret (pc := 79) C dX2_isRest_79 rfl (by first | exact zb_nar _ | rfl) (Nat.zero_le _) (Nat.zero_le _) ⟨?_, ?_, rfl⟩
                      · rw [a1, a2]; simp [srest, *] <;> rfl
                      · rfl
              · first
                  | (cases hc59; done)
                  | skip
                    refine z_iconst (pc := 62) C dX2_isRest_62 (zb true) (by decide) ?_
                    refine z_goto (pc := 63) C 67 dX2_isRest_63 (by decide) ?_
                    refine z_iconst (pc := 67) C dX2_isRest_67 (zb true) (by decide) ?_
                    refine z_cS1 (pc := 68) mX2_gain C [_, _, _, _] dX2_isRest_68 lX2_9 mtX2_gain tX2_gain rfl rfl (by decide) (Nat.le_of_ble_eq_true rfl) (Nat.zero_le _) (Nat.zero_le _) ?_
                    refine z_icmp_lt (pc := 71) C 78 dX2_isRest_71 (by decide) (fun hc71 => ?_) (fun hc71 => ?_)
                    · skip
                      simp only [if_true, Bool.false_eq_true, if_false] at hc71
                      have a4 := Int32.not_le.mpr hc71
                      refine z_iconst (pc := 78) C dX2_isRest_78 (zb false) (by decide) ?_
                      refine z_zret (pc := 79) C dX2_isRest_79 rfl (by first | exact zb_nar _ | rfl) (Nat.zero_le _) (Nat.zero_le _) ⟨?_, ?_, rfl⟩
                      · rw [a1, a2]; simp [srest, *] <;> rfl
                      · rfl
                    · skip
                      simp only [if_true, Bool.false_eq_true, if_false] at hc71
                      have a4 := Int32.not_lt.mp hc71
                      refine z_iconst (pc := 74) C dX2_isRest_74 (zb true) (by decide) ?_
                      refine z_goto (pc := 75) C 79 dX2_isRest_75 (by decide) ?_
                      refine z_zret (pc := 79) C dX2_isRest_79 rfl (by first | exact zb_nar _ | rfl) (Nat.zero_le _) (Nat.zero_le _) ⟨?_, ?_, rfl⟩
                      · rw [a1, a2]; simp [srest, *] <;> rfl
                      · rfl
      · first
          | (cases hc33; done)
          | skip
            refine z_iconst (pc := 36) C dX2_isRest_36 (zb true) (by decide) ?_
            refine z_goto (pc := 37) C 41 dX2_isRest_37 (by decide) ?_
            refine z_iload_n (pc := 41) C dX2_isRest_41 0 rfl ?_
            refine z_iconst (pc := 42) C dX2_isRest_42 (zb false) (by decide) ?_
            refine z_cS1 (pc := 43) mX2_gain C [_, _, _, _] dX2_isRest_43 lX2_9 mtX2_gain tX2_gain rfl rfl (by decide) (Nat.le_of_ble_eq_true rfl) (Nat.zero_le _) (Nat.zero_le _) ?_
            refine z_icmp_lt (pc := 46) C 78 dX2_isRest_46 (by decide) (fun hc46 => ?_) (fun hc46 => ?_)
            · skip
              simp only [if_true, Bool.false_eq_true, if_false] at hc46
              have a3 := Int32.not_le.mpr hc46
              refine z_iconst (pc := 78) C dX2_isRest_78 (zb false) (by decide) ?_
              refine z_zret (pc := 79) C dX2_isRest_79 rfl (by first | exact zb_nar _ | rfl) (Nat.zero_le _) (Nat.zero_le _) ⟨?_, ?_, rfl⟩
              · rw [a1, a2]; simp [srest, *] <;> rfl
              · rfl
            · skip
              simp only [if_true, Bool.false_eq_true, if_false] at hc46
              have a3 := Int32.not_lt.mp hc46
              refine z_iload_n (pc := 49) C dX2_isRest_49 2 rfl ?_
              refine z_iload_n (pc := 50) C dX2_isRest_50 1 rfl ?_
              refine z_iload_n (pc := 51) C dX2_isRest_51 0 rfl ?_
              refine z_iconst (pc := 52) C dX2_isRest_52 (zb true) (by decide) ?_
              refine z_cS1 (pc := 53) mX2_gain C [_, _, _, _] dX2_isRest_53 lX2_9 mtX2_gain tX2_gain rfl rfl (by decide) (Nat.le_of_ble_eq_true rfl) (Nat.zero_le _) (Nat.zero_le _) ?_
              refine z_iload_n (pc := 56) C dX2_isRest_56 2 rfl ?_
              refine z_iload_n (pc := 57) C dX2_isRest_57 1 rfl ?_
              refine z_iload_n (pc := 58) C dX2_isRest_58 0 rfl ?_
              first | refine z_ifneB (pc := 59) C 66 dX2_isRest_59 (by decide) (fun hc59 => ?_) (fun hc59 => ?_) | refine z_ifneN (pc := 59) C 66 dX2_isRest_59 (by decide) (by omega) (fun hc59 => ?_) (fun hc59 => ?_) | refine z_if_ne (pc := 59) C 66 dX2_isRest_59 (by decide) (fun hc59 => ?_) (fun hc59 => ?_)
              · first
                  | (cases hc59; done)
                  | skip
                    refine z_iconst (pc := 66) C dX2_isRest_66 (zb false) (by decide) ?_
                    refine z_iconst (pc := 67) C dX2_isRest_67 (zb true) (by decide) ?_
                    refine z_cS1 (pc := 68) mX2_gain C [_, _, _, _] dX2_isRest_68 lX2_9 mtX2_gain tX2_gain rfl rfl (by decide) (Nat.le_of_ble_eq_true rfl) (Nat.zero_le _) (Nat.zero_le _) ?_
                    refine z_icmp_lt (pc := 71) C 78 dX2_isRest_71 (by decide) (fun hc71 => ?_) (fun hc71 => ?_)
                    · skip
                      simp only [if_true, Bool.false_eq_true, if_false] at hc71
                      have a4 := Int32.not_le.mpr hc71
                      refine z_iconst (pc := 78) C dX2_isRest_78 (zb false) (by decide) ?_
                      refine z_zret (pc := 79) C dX2_isRest_79 rfl (by first | exact zb_nar _ | rfl) (Nat.zero_le _) (Nat.zero_le _) ⟨?_, ?_, rfl⟩
                      · rw [a1, a2]; simp [srest, *] <;> rfl
                      · rfl
                    · skip
                      simp only [if_true, Bool.false_eq_true, if_false] at hc71
                      have a4 := Int32.not_lt.mp hc71
                      refine z_iconst (pc := 74) C dX2_isRest_74 (zb true) (by decide) ?_
                      refine z_goto (pc := 75) C 79 dX2_isRest_75 (by decide) ?_
                      refine z_zret (pc := 79) C dX2_isRest_79 rfl (by first | exact zb_nar _ | rfl) (Nat.zero_le _) (Nat.zero_le _) ⟨?_, ?_, rfl⟩
                      · rw [a1, a2]; simp [srest, *] <;> rfl
                      · rfl
              · first
                  | (cases hc59; done)
                  | skip
                    refine z_iconst (pc := 62) C dX2_isRest_62 (zb true) (by decide) ?_
                    refine z_goto (pc := 63) C 67 dX2_isRest_63 (by decide) ?_
                    refine z_iconst (pc := 67) C dX2_isRest_67 (zb true) (by decide) ?_
                    refine z_cS1 (pc := 68) mX2_gain C [_, _, _, _] dX2_isRest_68 lX2_9 mtX2_gain tX2_gain rfl rfl (by decide) (Nat.le_of_ble_eq_true rfl) (Nat.zero_le _) (Nat.zero_le _) ?_
                    refine z_icmp_lt (pc := 71) C 78 dX2_isRest_71 (by decide) (fun hc71 => ?_) (fun hc71 => ?_)
                    · skip
                      simp only [if_true, Bool.false_eq_true, if_false] at hc71
                      have a4 := Int32.not_le.mpr hc71
                      refine z_iconst (pc := 78) C dX2_isRest_78 (zb false) (by decide) ?_
                      refine z_zret (pc := 79) C dX2_isRest_79 rfl (by first | exact zb_nar _ | rfl) (Nat.zero_le _) (Nat.zero_le _) ⟨?_, ?_, rfl⟩
                      · rw [a1, a2]; simp [srest, *] <;> rfl
                      · rfl
                    · skip
                      simp only [if_true, Bool.false_eq_true, if_false] at hc71
                      have a4 := Int32.not_lt.mp hc71
                      refine z_iconst (pc := 74) C dX2_isRest_74 (zb true) (by decide) ?_
                      refine z_goto (pc := 75) C 79 dX2_isRest_75 (by decide) ?_
                      refine z_zret (pc := 79) C dX2_isRest_79 rfl (by first | exact zb_nar _ | rfl) (Nat.zero_le _) (Nat.zero_le _) ⟨?_, ?_, rfl⟩
                      · rw [a1, a2]; simp [srest, *] <;> rfl
                      · rfl

set_option maxRecDepth 20000 in
set_option maxHeartbeats 1000000 in
theorem tX2_countRests {h : ZH} {w : Nat}  : ZD mX2_countRests 2 [.int (nI w)] h (some (.int (nI (srn w 4)))) h := by
  intro n
  refine z_enter (lv := [(0, _)]) (by decide) (Nat.le_of_ble_eq_true rfl) rfl (fun X C => ?_)
  refine z_iconst (pc := 0) C dX2_countRests_0 (nI 0) (by decide) ?_
  refine z_istore_n (pc := 1) (lv' := [(1, _), (0, _)]) C dX2_countRests_1 (by decide) rfl ?_
  refine z_iconst (pc := 2) C dX2_countRests_2 (nI 0) (by decide) ?_
  refine z_istore_n (pc := 3) (lv' := [(2, _), (1, _), (0, _)]) C dX2_countRests_3 (by decide) rfl ?_
  refine z_sub (lv' := [(0, _), (1, _), (2, _)]) [2, 1, 0] rfl ?_
  have lp4 : ∀ (f : Nat) (k acc : Nat), (k + f = 4 ∧ acc = srn w k) → Zc X mX2_countRests (zEnd X (fun r hh n' => r = (some (.int (nI (srn w 4)))) ∧ hh = h ∧ n' = n) 0 0) 4 [(0, .int (nI w)), (1, .int (nI acc)), (2, .int (nI k))] [] h n 0 0 := by
    intro f
    induction f using Nat.strongRecOn with
    | _ f ih =>
      intro k acc hk
      obtain ⟨hk, he⟩ := hk
      refine z_iload_n (pc := 4) C dX2_countRests_4 2 rfl ?_
      refine z_iconst (pc := 5) C dX2_countRests_5 (nI 4) (by decide) ?_
      first | refine z_icmpgeN (pc := 6) C 26 dX2_countRests_6 (by decide) (by omega) (by omega) (fun hc6 => ?_) (fun hc6 => ?_) | refine z_icmp_ge (pc := 6) C 26 dX2_countRests_6 (by decide) (fun hc6 => ?_) (fun hc6 => ?_)
      · skip
        refine z_iload_n (pc := 26) C dX2_countRests_26 1 rfl ?_
        refine z_iret (pc := 27) C dX2_countRests_27 rfl (Nat.zero_le _) (Nat.zero_le _) ⟨?_, ?_, rfl⟩
        · obtain rfl : k = 4 := (by omega); rw [he]
        · rfl
      · skip
        refine z_iload_n (pc := 9) C dX2_countRests_9 0 rfl ?_
        refine z_iload_n (pc := 10) C dX2_countRests_10 2 rfl ?_
        refine z_cS1 (pc := 11) mX2_isRest C [_, _] dX2_countRests_11 lX2_15 mtX2_isRest (tX2_isRest (by omega)) rfl rfl (by decide) (Nat.le_of_ble_eq_true rfl) (Nat.zero_le _) (Nat.zero_le _) ?_
        first | refine z_ifeqB (pc := 14) C 20 dX2_countRests_14 (by decide) (fun hc14 => ?_) (fun hc14 => ?_) | refine z_ifeqN (pc := 14) C 20 dX2_countRests_14 (by decide) (by omega) (fun hc14 => ?_) (fun hc14 => ?_) | refine z_if_eq (pc := 14) C 20 dX2_countRests_14 (by decide) (fun hc14 => ?_) (fun hc14 => ?_)
        · skip
          first | refine z_iincN (pc := 20) (lv' := [(2, _), (0, _), (1, _)]) C 1 dX2_countRests_20 2 rfl (by decide) (by decide) rfl ?_ | refine z_iinc (pc := 20) (lv' := [(2, _), (0, _), (1, _)]) C dX2_countRests_20 2 rfl _ rfl (by decide) rfl ?_
          refine z_goto (pc := 23) C 4 dX2_countRests_23 (by decide) ?_
          refine z_sub (lv' := [(0, _), (1, _), (2, _)]) [1, 2, 0] rfl ?_
          exact ih (f - 1) (by omega) (k + 1) _ ⟨by omega, by rw [he, srn, hc14]; simp⟩
        · skip
          first | refine z_iincN (pc := 17) (lv' := [(1, _), (0, _), (2, _)]) C 1 dX2_countRests_17 1 rfl (by decide) (by decide) rfl ?_ | refine z_iinc (pc := 17) (lv' := [(1, _), (0, _), (2, _)]) C dX2_countRests_17 1 rfl _ rfl (by decide) rfl ?_
          first | refine z_iincN (pc := 20) (lv' := [(2, _), (1, _), (0, _)]) C 1 dX2_countRests_20 2 rfl (by decide) (by decide) rfl ?_ | refine z_iinc (pc := 20) (lv' := [(2, _), (1, _), (0, _)]) C dX2_countRests_20 2 rfl _ rfl (by decide) rfl ?_
          refine z_goto (pc := 23) C 4 dX2_countRests_23 (by decide) ?_
          refine z_sub (lv' := [(0, _), (1, _), (2, _)]) [2, 1, 0] rfl ?_
          exact ih (f - 1) (by omega) (k + 1) _ ⟨by omega, by rw [he, srn, hc14]; simp⟩
  exact lp4 4 0 0 ⟨by omega, rfl⟩

theorem srf_up {w k x : Nat} (h : srf w (k + 1) = some x) : ∀ n, k < n → srf w n = some x := by
  intro n
  induction n with
  | zero => intro hn; omega
  | succ n ih =>
    intro hn
    by_cases e : k = n
    · subst e; exact h
    · rw [srf, ih (by omega)]

set_option maxRecDepth 20000 in
set_option maxHeartbeats 1000000 in
theorem tX2_firstRest {h : ZH} {w : Nat}  : ZD mX2_firstRest 2 [.int (nI w)] h (some (.int (zo (srf w 4)))) h := by
  intro n
  refine z_enter (lv := [(0, _)]) (by decide) (Nat.le_of_ble_eq_true rfl) rfl (fun X C => ?_)
  refine z_iconst (pc := 0) C dX2_firstRest_0 (nI 0) (by decide) ?_
  refine z_istore_n (pc := 1) (lv' := [(1, _), (0, _)]) C dX2_firstRest_1 (by decide) rfl ?_
  refine z_sub (lv' := [(0, _), (1, _)]) [1, 0] rfl ?_
  have lp2 : ∀ (f : Nat) (k : Nat), (k + f = 4 ∧ srf w k = none) → Zc X mX2_firstRest (zEnd X (fun r hh n' => r = (some (.int (zo (srf w 4)))) ∧ hh = h ∧ n' = n) 0 0) 2 [(0, .int (nI w)), (1, .int (nI k))] [] h n 0 0 := by
    intro f
    induction f using Nat.strongRecOn with
    | _ f ih =>
      intro k hk
      obtain ⟨hk, he⟩ := hk
      refine z_iload_n (pc := 2) C dX2_firstRest_2 1 rfl ?_
      refine z_iconst (pc := 3) C dX2_firstRest_3 (nI 4) (by decide) ?_
      first | refine z_icmpgeN (pc := 4) C 32 dX2_firstRest_4 (by decide) (by omega) (by omega) (fun hc4 => ?_) (fun hc4 => ?_) | refine z_icmp_ge (pc := 4) C 32 dX2_firstRest_4 (by decide) (fun hc4 => ?_) (fun hc4 => ?_)
      · skip
        refine z_bipush (pc := 32) C dX2_firstRest_32 (-2) (by decide) ?_
        refine z_iret (pc := 34) C dX2_firstRest_34 rfl (Nat.zero_le _) (Nat.zero_le _) ⟨?_, ?_, rfl⟩
        · obtain rfl : k = 4 := (by omega); rw [he]; rfl
        · rfl
      · skip
        refine z_iload_n (pc := 7) C dX2_firstRest_7 0 rfl ?_
        refine z_iload_n (pc := 8) C dX2_firstRest_8 1 rfl ?_
        refine z_cS1 (pc := 9) mX2_isRest C [_, _] dX2_firstRest_9 lX2_15 mtX2_isRest (tX2_isRest (by omega)) rfl rfl (by decide) (Nat.le_of_ble_eq_true rfl) (Nat.zero_le _) (Nat.zero_le _) ?_
        first | refine z_ifeqB (pc := 12) C 26 dX2_firstRest_12 (by decide) (fun hc12 => ?_) (fun hc12 => ?_) | refine z_ifeqN (pc := 12) C 26 dX2_firstRest_12 (by decide) (by omega) (fun hc12 => ?_) (fun hc12 => ?_) | refine z_if_eq (pc := 12) C 26 dX2_firstRest_12 (by decide) (fun hc12 => ?_) (fun hc12 => ?_)
        · skip
          first | refine z_iincN (pc := 26) (lv' := [(1, _), (0, _)]) C 1 dX2_firstRest_26 1 rfl (by decide) (by decide) rfl ?_ | refine z_iinc (pc := 26) (lv' := [(1, _), (0, _)]) C dX2_firstRest_26 1 rfl _ rfl (by decide) rfl ?_
          refine z_goto (pc := 29) C 2 dX2_firstRest_29 (by decide) ?_
          refine z_sub (lv' := [(0, _), (1, _)]) [1, 0] rfl ?_
          exact ih (f - 1) (by omega) (k + 1) ⟨by omega, by rw [srf, he, hc12]; rfl⟩
        · skip
          refine z_bipush (pc := 15) C dX2_firstRest_15 (nI 10) (by decide) ?_
          refine z_iload_n (pc := 17) C dX2_firstRest_17 1 rfl ?_
          refine z_iconst (pc := 18) C dX2_firstRest_18 (nI 2) (by decide) ?_
          first | refine z_idivN (pc := 19) C dX2_firstRest_19 (by omega) (by omega) (by omega) ?_ | refine z_idiv (pc := 19) C dX2_firstRest_19 (by decide) ?_
          first | refine z_imulN (pc := 20) C dX2_firstRest_20 ?_ | refine z_imul (pc := 20) C dX2_firstRest_20 ?_
          refine z_iload_n (pc := 21) C dX2_firstRest_21 1 rfl ?_
          refine z_iconst (pc := 22) C dX2_firstRest_22 (nI 2) (by decide) ?_
          first | refine z_iremN (pc := 23) C dX2_firstRest_23 (by omega) (by omega) (by omega) ?_ | refine z_irem (pc := 23) C dX2_firstRest_23 (by decide) ?_
          first | refine z_iaddN (pc := 24) C dX2_firstRest_24 ?_ | refine z_iadd (pc := 24) C dX2_firstRest_24 ?_
          refine z_iret (pc := 25) C dX2_firstRest_25 rfl (Nat.zero_le _) (Nat.zero_le _) ⟨?_, ?_, rfl⟩
          · rw [show srf w 4 = some (10 * (k / 2) + k % 2) from srf_up (by rw [srf, he, hc12]; rfl) 4 (by omega)]; rfl
          · rfl
  exact lp2 4 0 ⟨by omega, rfl⟩

set_option maxRecDepth 20000 in
set_option maxHeartbeats 1000000 in
theorem tX11_refusesWorth {h : ZH} {st : Nat} {ic tb fa pl : Int32} {t : Nat} {R S : Nat → Nat} {w : Int32} (hK : h 1000 = some (zO 7 (kfs st ic tb fa pl))) (hC : Scn h 1051 1052 1053 t R S) (hR : wfR R) : ZD mX11_refusesWorth 2 [.ref 1000, .int w] h (some (.int (zb (decide (¬ (swhy (decide (0 < R 1)) (zlt w 21)) = 0))))) (if (swhy (decide (0 < R 1)) (zlt w 21)) = 0 then h else zup h 1000 (zO 7 (kfs st ic (nI (swhy (decide (0 < R 1)) (zlt w 21))) fa pl))) := by
  intro n
  obtain ⟨w1, w3, w4, w5, w0, wP, wM, wK, wX⟩ := id hR
  refine z_enter (lv := [(0, _), (1, _)]) (by decide) (Nat.le_of_ble_eq_true rfl) rfl (fun X C => ?_)
  refine z_aload_n (pc := 0) C dX11_refusesWorth_0 0 rfl ?_
  refine z_cV1 (pc := 1) mX11_isForest C [] dX11_refusesWorth_1 lX11_183 mtX11_isForest (tX11_isForest (by first | assumption | omega) (by first | assumption | omega) (by first | assumption | omega)) (by assumption) rfl rfl (by decide) (Nat.le_of_ble_eq_true rfl) (Nat.zero_le _) (Nat.zero_le _) ?_
  first | refine z_ifneB (pc := 4) C 14 dX11_refusesWorth_4 (by decide) (fun hc4 => ?_) (fun hc4 => ?_) | refine z_ifneN (pc := 4) C 14 dX11_refusesWorth_4 (by decide) (by omega) (fun hc4 => ?_) (fun hc4 => ?_) | refine z_if_ne (pc := 4) C 14 dX11_refusesWorth_4 (by decide) (fun hc4 => ?_) (fun hc4 => ?_)
  · skip
    have e0 := of_decide_eq_true hc4
    refine z_iload_n (pc := 14) C dX11_refusesWorth_14 1 rfl ?_
    refine z_if_lt (pc := 15) C 24 dX11_refusesWorth_15 (by decide) (fun hc15 => ?_) (fun hc15 => ?_)
    · skip
      have e5 : zlt w 21 = false := zlt_f1 hc15
      refine z_aload_n (pc := 24) C dX11_refusesWorth_24 0 rfl ?_
      refine z_iconst (pc := 25) C dX11_refusesWorth_25 (nI 2) (by decide) ?_
      refine z_putf (pc := 26) (fs' := kfs _ _ _ _ _) C dX11_refusesWorth_26 gX11_111 (by assumption) (fun _ => ⟨rfl, rfl⟩) (by exact Nat.le_of_ble_eq_true rfl) (by rfl) ?_
      refine z_iconst (pc := 29) C dX11_refusesWorth_29 (zb true) (by decide) ?_
      refine z_zret (pc := 30) C dX11_refusesWorth_30 rfl (by first | exact zb_nar _ | rfl) (Nat.zero_le _) (Nat.zero_le _) ⟨?_, ?_, rfl⟩
      · simp [swhy, *] <;> rfl
      · simp [swhy, *] <;> rfl
    · skip
      refine z_iload_n (pc := 18) C dX11_refusesWorth_18 1 rfl ?_
      refine z_bipush (pc := 19) C dX11_refusesWorth_19 (nI 20) (by decide) ?_
      refine z_icmp_le (pc := 21) C 31 dX11_refusesWorth_21 (by decide) (fun hc21 => ?_) (fun hc21 => ?_)
      · skip
        have e5 : zlt w 21 = true := zlt_le3 (c := 20) (by decide) hc15 hc21
        refine z_iconst (pc := 31) C dX11_refusesWorth_31 (zb false) (by decide) ?_
        refine z_zret (pc := 32) C dX11_refusesWorth_32 rfl (by first | exact zb_nar _ | rfl) (Nat.zero_le _) (Nat.zero_le _) ⟨?_, ?_, rfl⟩
        · simp [swhy, *] <;> rfl
        · simp [swhy, *] <;> rfl
      · skip
        have e5 : zlt w 21 = false := zlt_f3 (c := 20) (by decide) hc21
        refine z_aload_n (pc := 24) C dX11_refusesWorth_24 0 rfl ?_
        refine z_iconst (pc := 25) C dX11_refusesWorth_25 (nI 2) (by decide) ?_
        refine z_putf (pc := 26) (fs' := kfs _ _ _ _ _) C dX11_refusesWorth_26 gX11_111 (by assumption) (fun _ => ⟨rfl, rfl⟩) (by exact Nat.le_of_ble_eq_true rfl) (by rfl) ?_
        refine z_iconst (pc := 29) C dX11_refusesWorth_29 (zb true) (by decide) ?_
        refine z_zret (pc := 30) C dX11_refusesWorth_30 rfl (by first | exact zb_nar _ | rfl) (Nat.zero_le _) (Nat.zero_le _) ⟨?_, ?_, rfl⟩
        · simp [swhy, *] <;> rfl
        · simp [swhy, *] <;> rfl
  · skip
    have e0 := of_decide_eq_false hc4
    refine z_aload_n (pc := 7) C dX11_refusesWorth_7 0 rfl ?_
    refine z_iconst (pc := 8) C dX11_refusesWorth_8 (nI 1) (by decide) ?_
    refine z_putf (pc := 9) (fs' := kfs _ _ _ _ _) C dX11_refusesWorth_9 gX11_111 (by assumption) (fun _ => ⟨rfl, rfl⟩) (by exact Nat.le_of_ble_eq_true rfl) (by rfl) ?_
    refine z_iconst (pc := 12) C dX11_refusesWorth_12 (zb true) (by decide) ?_
    refine z_zret (pc := 13) C dX11_refusesWorth_13 rfl (by first | exact zb_nar _ | rfl) (Nat.zero_le _) (Nat.zero_le _) ⟨?_, ?_, rfl⟩
    · simp [swhy, *] <;> rfl
    · simp [swhy, *] <;> rfl

set_option maxRecDepth 20000 in
set_option maxHeartbeats 1000000 in
theorem tX11_edge {h : ZH} {st : Nat} {ic tb fa pl : Int32} {t : Nat} {R S : Nat → Nat} {w : Int32} {k p q9 : Bool} (hK : h 1000 = some (zO 7 (kfs st ic tb fa pl))) (hC : Scn h 1051 1052 1053 t R S) (hR : wfR R) : ZD mX11_edge 3 [.ref 1000, .int w, .int (zb k), .int (zb p), .int (zb q9)] h (some (.int (aEdge R w k p q9).1)) (zup h 1000 (zO 7 (kfs st ic (aEdge R w k p q9).2 fa pl))) := by
  intro n
  obtain ⟨w1, w3, w4, w5, w0, wP, wM, wK, wX⟩ := id hR
  refine z_enter (lv := [(0, _), (1, _), (2, _), (3, _), (4, _)]) (by decide) (Nat.le_of_ble_eq_true rfl) rfl (fun X C => ?_)
  refine z_aload_n (pc := 0) C dX11_edge_0 0 rfl ?_
  refine z_iload_n (pc := 1) C dX11_edge_1 1 rfl ?_
  refine z_cV1 (pc := 2) mX11_refusesWorth C [_] dX11_edge_2 lX11_299 mtX11_refusesWorth (tX11_refusesWorth hK hC hR) (by assumption) rfl rfl (by decide) (Nat.le_of_ble_eq_true rfl) (Nat.zero_le _) (Nat.zero_le _) ?_
  first | refine z_ifeqB (pc := 5) C 11 dX11_edge_5 (by decide) (fun hc5 => ?_) (fun hc5 => ?_) | refine z_ifeqN (pc := 5) C 11 dX11_edge_5 (by decide) (by omega) (fun hc5 => ?_) (fun hc5 => ?_) | refine z_if_eq (pc := 5) C 11 dX11_edge_5 (by decide) (fun hc5 => ?_) (fun hc5 => ?_)
  · skip
    have ez : (swhy (decide (0 < R 1)) (zlt w 21)) = 0 := by have := of_decide_eq_false hc5; omega
    obtain ⟨e6, e7⟩ := swhy_0.mp ez
    rw [if_pos ez]
    obtain ⟨q, hq, rfl⟩ := zlt_of (by omega) e7
    have pq := pn_nI (j := q) (by omega)
    refine z_aload_n (pc := 11) C dX11_edge_11 0 rfl ?_
    refine z_iload_n (pc := 12) C dX11_edge_12 1 rfl ?_
    refine z_iload_n (pc := 13) C dX11_edge_13 2 rfl ?_
    refine z_iload_n (pc := 14) C dX11_edge_14 3 rfl ?_
    refine z_iload (pc := 15) C dX11_edge_15 4 rfl ?_
    refine z_cS1 (pc := 17) mX2_gain C [_, _, _, _] dX11_edge_17 lX11_302 mtX2_gain tX2_gain rfl rfl (by decide) (Nat.le_of_ble_eq_true rfl) (Nat.zero_le _) (Nat.zero_le _) ?_
    refine z_cV1 (pc := 20) mX11_answer C [_] dX11_edge_20 lX11_108 mtX11_answer (tX11_answer (by first | assumption | omega)) (by assumption) rfl rfl (by decide) (Nat.le_of_ble_eq_true rfl) (Nat.zero_le _) (Nat.zero_le _) ?_
    refine z_iret (pc := 23) C dX11_edge_23 rfl (Nat.zero_le _) (Nat.zero_le _) ⟨?_, ?_, rfl⟩
    · simp [aEdge, aW, swhy_tt, *]
    · simp [aEdge, aW, swhy_tt, *] <;> rfl
  · skip
    have ez := of_decide_eq_true hc5
    rw [if_neg ez]
    refine z_bipush (pc := 8) C dX11_edge_8 (-100) (by decide) ?_
    refine z_iret (pc := 10) C dX11_edge_10 rfl (Nat.zero_le _) (Nat.zero_le _) ⟨?_, ?_, rfl⟩
    · simp [aEdge, aW, swhy_tt, *]
    · simp [aEdge, aW, swhy_tt, *] <;> rfl

set_option maxRecDepth 20000 in
set_option maxHeartbeats 1000000 in
theorem tX11_rests {h : ZH} {st : Nat} {ic tb fa pl : Int32} {t : Nat} {R S : Nat → Nat} {w : Int32} (hK : h 1000 = some (zO 7 (kfs st ic tb fa pl))) (hC : Scn h 1051 1052 1053 t R S) (hR : wfR R) : ZD mX11_rests 3 [.ref 1000, .int w] h (some (.int (aRests R w).1)) (zup h 1000 (zO 7 (kfs st ic (aRests R w).2 fa pl))) := by
  intro n
  obtain ⟨w1, w3, w4, w5, w0, wP, wM, wK, wX⟩ := id hR
  refine z_enter (lv := [(0, _), (1, _)]) (by decide) (Nat.le_of_ble_eq_true rfl) rfl (fun X C => ?_)
  refine z_aload_n (pc := 0) C dX11_rests_0 0 rfl ?_
  refine z_iload_n (pc := 1) C dX11_rests_1 1 rfl ?_
  refine z_cV1 (pc := 2) mX11_refusesWorth C [_] dX11_rests_2 lX11_299 mtX11_refusesWorth (tX11_refusesWorth hK hC hR) (by assumption) rfl rfl (by decide) (Nat.le_of_ble_eq_true rfl) (Nat.zero_le _) (Nat.zero_le _) ?_
  first | refine z_ifeqB (pc := 5) C 10 dX11_rests_5 (by decide) (fun hc5 => ?_) (fun hc5 => ?_) | refine z_ifeqN (pc := 5) C 10 dX11_rests_5 (by decide) (by omega) (fun hc5 => ?_) (fun hc5 => ?_) | refine z_if_eq (pc := 5) C 10 dX11_rests_5 (by decide) (fun hc5 => ?_) (fun hc5 => ?_)
  · skip
    have ez : (swhy (decide (0 < R 1)) (zlt w 21)) = 0 := by have := of_decide_eq_false hc5; omega
    obtain ⟨e6, e7⟩ := swhy_0.mp ez
    rw [if_pos ez]
    obtain ⟨q, hq, rfl⟩ := zlt_of (by omega) e7
    have pq := pn_nI (j := q) (by omega)
    refine z_aload_n (pc := 10) C dX11_rests_10 0 rfl ?_
    refine z_iload_n (pc := 11) C dX11_rests_11 1 rfl ?_
    refine z_cS1 (pc := 12) mX2_countRests C [_] dX11_rests_12 lX11_308 mtX2_countRests tX2_countRests rfl rfl (by decide) (Nat.le_of_ble_eq_true rfl) (Nat.zero_le _) (Nat.zero_le _) ?_
    refine z_cV1 (pc := 15) mX11_answer C [_] dX11_rests_15 lX11_108 mtX11_answer (tX11_answer (by first | assumption | omega)) (by assumption) rfl rfl (by decide) (Nat.le_of_ble_eq_true rfl) (Nat.zero_le _) (Nat.zero_le _) ?_
    refine z_iret (pc := 18) C dX11_rests_18 rfl (Nat.zero_le _) (Nat.zero_le _) ⟨?_, ?_, rfl⟩
    · simp [aRests, aW, swhy_tt, *]
    · simp [aRests, aW, swhy_tt, *] <;> rfl
  · skip
    have ez := of_decide_eq_true hc5
    rw [if_neg ez]
    refine z_iconst (pc := 8) C dX11_rests_8 (-1) (by decide) ?_
    refine z_iret (pc := 9) C dX11_rests_9 rfl (Nat.zero_le _) (Nat.zero_le _) ⟨?_, ?_, rfl⟩
    · simp [aRests, aW, swhy_tt, *]
    · simp [aRests, aW, swhy_tt, *] <;> rfl

set_option maxRecDepth 20000 in
set_option maxHeartbeats 1000000 in
theorem tX11_rest {h : ZH} {st : Nat} {ic tb fa pl : Int32} {t : Nat} {R S : Nat → Nat} {w : Int32} (hK : h 1000 = some (zO 7 (kfs st ic tb fa pl))) (hC : Scn h 1051 1052 1053 t R S) (hR : wfR R) : ZD mX11_rest 3 [.ref 1000, .int w] h (some (.int (aRest R w).1)) (zup h 1000 (zO 7 (kfs st ic (aRest R w).2 fa pl))) := by
  intro n
  obtain ⟨w1, w3, w4, w5, w0, wP, wM, wK, wX⟩ := id hR
  refine z_enter (lv := [(0, _), (1, _)]) (by decide) (Nat.le_of_ble_eq_true rfl) rfl (fun X C => ?_)
  refine z_aload_n (pc := 0) C dX11_rest_0 0 rfl ?_
  refine z_iload_n (pc := 1) C dX11_rest_1 1 rfl ?_
  refine z_cV1 (pc := 2) mX11_refusesWorth C [_] dX11_rest_2 lX11_299 mtX11_refusesWorth (tX11_refusesWorth hK hC hR) (by assumption) rfl rfl (by decide) (Nat.le_of_ble_eq_true rfl) (Nat.zero_le _) (Nat.zero_le _) ?_
  first | refine z_ifeqB (pc := 5) C 10 dX11_rest_5 (by decide) (fun hc5 => ?_) (fun hc5 => ?_) | refine z_ifeqN (pc := 5) C 10 dX11_rest_5 (by decide) (by omega) (fun hc5 => ?_) (fun hc5 => ?_) | refine z_if_eq (pc := 5) C 10 dX11_rest_5 (by decide) (fun hc5 => ?_) (fun hc5 => ?_)
  · skip
    have ez : (swhy (decide (0 < R 1)) (zlt w 21)) = 0 := by have := of_decide_eq_false hc5; omega
    obtain ⟨e6, e7⟩ := swhy_0.mp ez
    rw [if_pos ez]
    obtain ⟨q, hq, rfl⟩ := zlt_of (by omega) e7
    have pq := pn_nI (j := q) (by omega)
    refine z_aload_n (pc := 10) C dX11_rest_10 0 rfl ?_
    refine z_iload_n (pc := 11) C dX11_rest_11 1 rfl ?_
    refine z_cS1 (pc := 12) mX2_firstRest C [_] dX11_rest_12 lX11_311 mtX2_firstRest tX2_firstRest rfl rfl (by decide) (Nat.le_of_ble_eq_true rfl) (Nat.zero_le _) (Nat.zero_le _) ?_
    refine z_cV1 (pc := 15) mX11_answer C [_] dX11_rest_15 lX11_108 mtX11_answer (tX11_answer (by first | assumption | omega)) (by assumption) rfl rfl (by decide) (Nat.le_of_ble_eq_true rfl) (Nat.zero_le _) (Nat.zero_le _) ?_
    refine z_iret (pc := 18) C dX11_rest_18 rfl (Nat.zero_le _) (Nat.zero_le _) ⟨?_, ?_, rfl⟩
    · simp [aRest, aW, swhy_tt, *]
    · simp [aRest, aW, swhy_tt, *] <;> rfl
  · skip
    have ez := of_decide_eq_true hc5
    rw [if_neg ez]
    refine z_iconst (pc := 8) C dX11_rest_8 (-1) (by decide) ?_
    refine z_iret (pc := 9) C dX11_rest_9 rfl (Nat.zero_le _) (Nat.zero_le _) ⟨?_, ?_, rfl⟩
    · simp [aRest, aW, swhy_tt, *]
    · simp [aRest, aW, swhy_tt, *] <;> rfl
