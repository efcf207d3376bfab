/-- the class's object: where start is, the count of images, trouble, fault, its place -/
def kfs (st : Nat) (ic tb fa pl : Int32) : List Value := [.ref 1001, .ref 1019, .ref 1032, .ref 1034, .ref 1038, .ref 1051, .ref st, .int ic, .int tb, .int fa, .int pl]
theorem zlt_t {p : Int32} {c : Nat} (hc : c < 2147483648) (h1 : ¬ p < 0) (h2 : ¬ nI c ≤ p) : zlt p c = true := by
  unfold zlt
  rw [Int32.lt_iff_toInt_lt, show (0 : Int32).toInt = 0 from rfl] at h1
  rw [Int32.le_iff_toInt_le, nI_toInt (by omega)] at h2
  exact decide_eq_true (by omega)
theorem zlt_f1 {p : Int32} {c : Nat} (h1 : p < 0) : zlt p c = false := by
  unfold zlt
  rw [Int32.lt_iff_toInt_lt, show (0 : Int32).toInt = 0 from rfl] at h1
  exact decide_eq_false (by omega)
theorem zlt_f2 {p : Int32} {c : Nat} (hc : c < 2147483648) (h2 : nI c ≤ p) : zlt p c = false := by
  unfold zlt
  rw [Int32.le_iff_toInt_le, nI_toInt (by omega)] at h2
  exact decide_eq_false (by omega)
theorem zlt_le3 {p : Int32} {c : Nat} (hc : c < 2147483647) (h1 : ¬ p < 0) (h2 : p ≤ nI c) : zlt p (c + 1) = true := by
  unfold zlt
  rw [Int32.lt_iff_toInt_lt, show (0 : Int32).toInt = 0 from rfl] at h1
  rw [Int32.le_iff_toInt_le, nI_toInt (by omega)] at h2
  exact decide_eq_true (by omega)
theorem zlt_f3 {p : Int32} {c : Nat} (hc : c < 2147483647) (h2 : ¬ p ≤ nI c) : zlt p (c + 1) = false := by
  unfold zlt
  rw [Int32.le_iff_toInt_le, nI_toInt (by omega)] at h2
  exact decide_eq_false (by omega)
theorem sbits_tb (P : Nat → Bool) : ∀ n k, (sbits P n).testBit k = (decide (k < n) && P k) := by
  intro n
  induction n with
  | zero => intro k; simp [sbits]
  | succ n ih =>
    intro k
    rw [sbits, Nat.testBit_or, ih]
    by_cases e : k = n
    · subst e
      cases hp : P k
      · simp
      · simp [tb1]
    · have h1 : ((if P n = true then 1 <<< n else 0) : Nat).testBit k = false := by
        split
        · rw [tb1]; exact decide_eq_false (fun z => e z.symm)
        · exact Nat.zero_testBit k
      rw [h1, Bool.or_false]
      by_cases q : k < n
      · simp [q, show k < n + 1 by omega]
      · simp [q, show ¬ k < n + 1 by omega]
theorem snr_tb (R S : Nat → Nat) (a : Nat) : ∀ n k, (snr R S a n).testBit k = (decide (k < R 4) && (match sstd R S k with | some p => decide (p < n) && a.testBit p | none => false)) := by
  intro n
  induction n with
  | zero =>
    intro k
    show (0 : Nat).testBit k = _
    cases sstd R S k <;> simp
  | succ n ih =>
    intro k
    rw [snr, Nat.testBit_or, ih]
    have h1 : ((if a.testBit n = true then sKat R S n else 0) : Nat).testBit k = (a.testBit n && (decide (k < R 4) && decide (sstd R S k = some n))) := by
      split
      · rename_i e; rw [e]; unfold sKat; rw [sbits_tb]; simp
      · rename_i e; rw [Nat.zero_testBit, show a.testBit n = false from by simpa using e]; rfl
    rw [h1]
    cases hk : sstd R S k with
    | none => simp
    | some p =>
      by_cases e : p = n
      · subst e
        cases hz : a.testBit p <;> simp [hz]
      · have e2 : decide (p < n + 1) = decide (p < n) := by
          by_cases q : p < n
          · simp [q, show p < n + 1 by omega]
          · simp [q, show ¬ p < n + 1 by omega]
        simp [e, e2]
theorem sKw_snr {R S : Nat → Nat} (hR : wfR R) (hS : wfS R S) (a : Nat) : sKw R S a = snr R S a (R 1) := by
  apply Nat.eq_of_testBit_eq
  intro k
  unfold sKw
  rw [sbits_tb, snr_tb]
  by_cases hk : k < R 4
  · cases e : sstd R S k with
    | none => rfl
    | some p => simp [hk, sstd_lt hR hS hk e]
  · simp [hk]

set_option maxRecDepth 20000 in
set_option maxHeartbeats 1000000 in
theorem tX11_places {h : ZH} {st : Nat} {ic tb fa pl : Int32} {t : Nat} {R S : Nat → Nat} (hK : h 1000 = some (zO 7 (kfs st ic tb fa pl))) (hC : Scn h 1051 1052 1053 t R S) : ZD mX11_places 0 [.ref 1000] h (some (.int (nI (R 1)))) h := by
  intro n
  obtain ⟨hT, fl, ft, s0, s1, s2, rl, rt⟩ := id hC
  obtain ⟨fc, fh, fn, fk, fs, ff, fw, fe, t0, t1, t2, t3, t4, t5, t6, t7, t8, rc, rh, rn, rk, rs, rf, rv, re⟩ := id hT
  refine z_enter (lv := [(0, _)]) (by decide) (Nat.le_of_ble_eq_true rfl) rfl (fun X C => ?_)
  refine z_aload_n (pc := 0) C dX11_places_0 0 rfl ?_
  refine z_getf (pc := 1) C dX11_places_1 fX11_53 (by assumption) (by first | rfl | assumption) ?_
  refine z_getf (pc := 4) C dX11_places_4 fX11_120 (by assumption) (by first | rfl | assumption) ?_
  refine z_getf (pc := 7) C dX11_places_7 fX11_387 (by assumption) (by first | rfl | assumption) ?_
  refine z_iconst (pc := 10) C dX11_places_10 (nI 1) (by decide) ?_
  refine z_ialdE (pc := 11) C dX11_places_11 (by assumption) (by omega) (by decide) (rc 1 (by decide) (by decide)) ?_
  refine z_iret (pc := 12) C dX11_places_12 rfl (Nat.zero_le _) (Nat.zero_le _) ⟨?_, ?_, rfl⟩
  · first | rfl | simp_all
  · rfl

set_option maxRecDepth 20000 in
set_option maxHeartbeats 1000000 in
theorem tX11_men {h : ZH} {st : Nat} {ic tb fa pl : Int32} {t : Nat} {R S : Nat → Nat} (hK : h 1000 = some (zO 7 (kfs st ic tb fa pl))) (hC : Scn h 1051 1052 1053 t R S) : ZD mX11_men 0 [.ref 1000] h (some (.int (nI (R 3)))) h := by
  intro n
  obtain ⟨hT, fl, ft, s0, s1, s2, rl, rt⟩ := id hC
  obtain ⟨fc, fh, fn, fk, fs, ff, fw, fe, t0, t1, t2, t3, t4, t5, t6, t7, t8, rc, rh, rn, rk, rs, rf, rv, re⟩ := id hT
  refine z_enter (lv := [(0, _)]) (by decide) (Nat.le_of_ble_eq_true rfl) rfl (fun X C => ?_)
  refine z_aload_n (pc := 0) C dX11_men_0 0 rfl ?_
  refine z_getf (pc := 1) C dX11_men_1 fX11_53 (by assumption) (by first | rfl | assumption) ?_
  refine z_getf (pc := 4) C dX11_men_4 fX11_120 (by assumption) (by first | rfl | assumption) ?_
  refine z_getf (pc := 7) C dX11_men_7 fX11_387 (by assumption) (by first | rfl | assumption) ?_
  refine z_iconst (pc := 10) C dX11_men_10 (nI 3) (by decide) ?_
  refine z_ialdE (pc := 11) C dX11_men_11 (by assumption) (by omega) (by decide) (rc 3 (by decide) (by decide)) ?_
  refine z_iret (pc := 12) C dX11_men_12 rfl (Nat.zero_le _) (Nat.zero_le _) ⟨?_, ?_, rfl⟩
  · first | rfl | simp_all
  · rfl

set_option maxRecDepth 20000 in
set_option maxHeartbeats 1000000 in
theorem tX11_kills {h : ZH} {st : Nat} {ic tb fa pl : Int32} {t : Nat} {R S : Nat → Nat} (hK : h 1000 = some (zO 7 (kfs st ic tb fa pl))) (hC : Scn h 1051 1052 1053 t R S) : ZD mX11_kills 0 [.ref 1000] h (some (.int (nI (R 4)))) h := by
  intro n
  obtain ⟨hT, fl, ft, s0, s1, s2, rl, rt⟩ := id hC
  obtain ⟨fc, fh, fn, fk, fs, ff, fw, fe, t0, t1, t2, t3, t4, t5, t6, t7, t8, rc, rh, rn, rk, rs, rf, rv, re⟩ := id hT
  refine z_enter (lv := [(0, _)]) (by decide) (Nat.le_of_ble_eq_true rfl) rfl (fun X C => ?_)
  refine z_aload_n (pc := 0) C dX11_kills_0 0 rfl ?_
  refine z_getf (pc := 1) C dX11_kills_1 fX11_53 (by assumption) (by first | rfl | assumption) ?_
  refine z_getf (pc := 4) C dX11_kills_4 fX11_120 (by assumption) (by first | rfl | assumption) ?_
  refine z_getf (pc := 7) C dX11_kills_7 fX11_387 (by assumption) (by first | rfl | assumption) ?_
  refine z_iconst (pc := 10) C dX11_kills_10 (nI 4) (by decide) ?_
  refine z_ialdE (pc := 11) C dX11_kills_11 (by assumption) (by omega) (by decide) (rc 4 (by decide) (by decide)) ?_
  refine z_iret (pc := 12) C dX11_kills_12 rfl (Nat.zero_le _) (Nat.zero_le _) ⟨?_, ?_, rfl⟩
  · first | rfl | simp_all
  · rfl

set_option maxRecDepth 20000 in
set_option maxHeartbeats 1000000 in
theorem tX11_isForest {h : ZH} {st : Nat} {ic tb fa pl : Int32} {t : Nat} {R S : Nat → Nat} (hK : h 1000 = some (zO 7 (kfs st ic tb fa pl))) (hC : Scn h 1051 1052 1053 t R S) (hR : wfR R) : ZD mX11_isForest 1 [.ref 1000] h (some (.int (zb (decide (0 < R 1))))) h := by
  intro n
  obtain ⟨w1, w3, w4, w5, w0, wP, wM, wK, wX⟩ := id hR
  refine z_enter (lv := [(0, _)]) (by decide) (Nat.le_of_ble_eq_true rfl) rfl (fun X C => ?_)
  refine z_aload_n (pc := 0) C dX11_isForest_0 0 rfl ?_
  refine z_cV1 (pc := 1) mX11_places C [] dX11_isForest_1 lX11_104 mtX11_places (tX11_places hK hC) (by assumption) rfl rfl (by decide) (Nat.le_of_ble_eq_true rfl) (Nat.zero_le _) (Nat.zero_le _) ?_
  first | refine z_ifleN (pc := 4) C 11 dX11_isForest_4 (by decide) (by omega) (fun hc4 => ?_) (fun hc4 => ?_) | refine z_if_le (pc := 4) C 11 dX11_isForest_4 (by decide) (fun hc4 => ?_) (fun hc4 => ?_)
  · skip
    refine z_iconst (pc := 11) C dX11_isForest_11 (nI 0) (by decide) ?_
    refine z_zret (pc := 12) C dX11_isForest_12 rfl (by first | exact zb_nar _ | rfl) (Nat.zero_le _) (Nat.zero_le _) ⟨?_, ?_, rfl⟩
    · first | (rw [decide_eq_false (by omega)]; rfl) | (rw [decide_eq_true hc4]; rfl)
    · rfl
  · skip
    refine z_iconst (pc := 7) C dX11_isForest_7 (nI 1) (by decide) ?_
    refine z_goto (pc := 8) C 12 dX11_isForest_8 (by decide) ?_
    refine z_zret (pc := 12) C dX11_isForest_12 rfl (by first | exact zb_nar _ | rfl) (Nat.zero_le _) (Nat.zero_le _) ⟨?_, ?_, rfl⟩
    · first | (rw [decide_eq_false (by omega)]; rfl) | (rw [decide_eq_true hc4]; rfl)
    · rfl

set_option maxRecDepth 20000 in
set_option maxHeartbeats 1000000 in
theorem tX11_isPlace {h : ZH} {st : Nat} {ic tb fa pl : Int32} {t : Nat} {R S : Nat → Nat} {p : Int32} (hK : h 1000 = some (zO 7 (kfs st ic tb fa pl))) (hC : Scn h 1051 1052 1053 t R S) (hR : wfR R) : ZD mX11_isPlace 1 [.ref 1000, .int p] h (some (.int (zb (zlt p (R 1))))) h := by
  intro n
  obtain ⟨w1, w3, w4, w5, w0, wP, wM, wK, wX⟩ := id hR
  refine z_enter (lv := [(0, _), (1, _)]) (by decide) (Nat.le_of_ble_eq_true rfl) rfl (fun X C => ?_)
  refine z_iload_n (pc := 0) C dX11_isPlace_0 1 rfl ?_
  refine z_if_lt (pc := 1) C 16 dX11_isPlace_1 (by decide) (fun hc1 => ?_) (fun hc1 => ?_)
  · skip
    have e5 : zlt p (R 1) = false := zlt_f1 hc1
    refine z_iconst (pc := 16) C dX11_isPlace_16 (nI 0) (by decide) ?_
    refine z_zret (pc := 17) C dX11_isPlace_17 rfl (by first | exact zb_nar _ | rfl) (Nat.zero_le _) (Nat.zero_le _) ⟨?_, ?_, rfl⟩
    · rw [e5]; rfl
    · rfl
  · skip
    refine z_iload_n (pc := 4) C dX11_isPlace_4 1 rfl ?_
    refine z_aload_n (pc := 5) C dX11_isPlace_5 0 rfl ?_
    refine z_cV1 (pc := 6) mX11_places C [] dX11_isPlace_6 lX11_104 mtX11_places (tX11_places hK hC) (by assumption) rfl rfl (by decide) (Nat.le_of_ble_eq_true rfl) (Nat.zero_le _) (Nat.zero_le _) ?_
    refine z_icmp_ge (pc := 9) C 16 dX11_isPlace_9 (by decide) (fun hc9 => ?_) (fun hc9 => ?_)
    · skip
      have e5 : zlt p (R 1) = false := zlt_f2 (by omega) hc9
      refine z_iconst (pc := 16) C dX11_isPlace_16 (nI 0) (by decide) ?_
      refine z_zret (pc := 17) C dX11_isPlace_17 rfl (by first | exact zb_nar _ | rfl) (Nat.zero_le _) (Nat.zero_le _) ⟨?_, ?_, rfl⟩
      · rw [e5]; rfl
      · rfl
    · skip
      have e5 : zlt p (R 1) = true := zlt_t (by omega) hc1 hc9
      refine z_iconst (pc := 12) C dX11_isPlace_12 (nI 1) (by decide) ?_
      refine z_goto (pc := 13) C 17 dX11_isPlace_13 (by decide) ?_
      refine z_zret (pc := 17) C dX11_isPlace_17 rfl (by first | exact zb_nar _ | rfl) (Nat.zero_le _) (Nat.zero_le _) ⟨?_, ?_, rfl⟩
      · rw [e5]; rfl
      · rfl

set_option maxRecDepth 20000 in
set_option maxHeartbeats 1000000 in
theorem tX11_isMan {h : ZH} {st : Nat} {ic tb fa pl : Int32} {t : Nat} {R S : Nat → Nat} {p : Int32} (hK : h 1000 = some (zO 7 (kfs st ic tb fa pl))) (hC : Scn h 1051 1052 1053 t R S) (hR : wfR R) : ZD mX11_isMan 1 [.ref 1000, .int p] h (some (.int (zb (zlt p (R 3))))) h := by
  intro n
  obtain ⟨w1, w3, w4, w5, w0, wP, wM, wK, wX⟩ := id hR
  refine z_enter (lv := [(0, _), (1, _)]) (by decide) (Nat.le_of_ble_eq_true rfl) rfl (fun X C => ?_)
  refine z_iload_n (pc := 0) C dX11_isMan_0 1 rfl ?_
  refine z_if_lt (pc := 1) C 16 dX11_isMan_1 (by decide) (fun hc1 => ?_) (fun hc1 => ?_)
  · skip
    have e5 : zlt p (R 3) = false := zlt_f1 hc1
    refine z_iconst (pc := 16) C dX11_isMan_16 (nI 0) (by decide) ?_
    refine z_zret (pc := 17) C dX11_isMan_17 rfl (by first | exact zb_nar _ | rfl) (Nat.zero_le _) (Nat.zero_le _) ⟨?_, ?_, rfl⟩
    · rw [e5]; rfl
    · rfl
  · skip
    refine z_iload_n (pc := 4) C dX11_isMan_4 1 rfl ?_
    refine z_aload_n (pc := 5) C dX11_isMan_5 0 rfl ?_
    refine z_cV1 (pc := 6) mX11_men C [] dX11_isMan_6 lX11_331 mtX11_men (tX11_men hK hC) (by assumption) rfl rfl (by decide) (Nat.le_of_ble_eq_true rfl) (Nat.zero_le _) (Nat.zero_le _) ?_
    refine z_icmp_ge (pc := 9) C 16 dX11_isMan_9 (by decide) (fun hc9 => ?_) (fun hc9 => ?_)
    · skip
      have e5 : zlt p (R 3) = false := zlt_f2 (by omega) hc9
      refine z_iconst (pc := 16) C dX11_isMan_16 (nI 0) (by decide) ?_
      refine z_zret (pc := 17) C dX11_isMan_17 rfl (by first | exact zb_nar _ | rfl) (Nat.zero_le _) (Nat.zero_le _) ⟨?_, ?_, rfl⟩
      · rw [e5]; rfl
      · rfl
    · skip
      have e5 : zlt p (R 3) = true := zlt_t (by omega) hc1 hc9
      refine z_iconst (pc := 12) C dX11_isMan_12 (nI 1) (by decide) ?_
      refine z_goto (pc := 13) C 17 dX11_isMan_13 (by decide) ?_
      refine z_zret (pc := 17) C dX11_isMan_17 rfl (by first | exact zb_nar _ | rfl) (Nat.zero_le _) (Nat.zero_le _) ⟨?_, ?_, rfl⟩
      · rw [e5]; rfl
      · rfl

set_option maxRecDepth 20000 in
set_option maxHeartbeats 1000000 in
theorem tX11_isKill {h : ZH} {st : Nat} {ic tb fa pl : Int32} {t : Nat} {R S : Nat → Nat} {p : Int32} (hK : h 1000 = some (zO 7 (kfs st ic tb fa pl))) (hC : Scn h 1051 1052 1053 t R S) (hR : wfR R) : ZD mX11_isKill 1 [.ref 1000, .int p] h (some (.int (zb (zlt p (R 4))))) h := by
  intro n
  obtain ⟨w1, w3, w4, w5, w0, wP, wM, wK, wX⟩ := id hR
  refine z_enter (lv := [(0, _), (1, _)]) (by decide) (Nat.le_of_ble_eq_true rfl) rfl (fun X C => ?_)
  refine z_iload_n (pc := 0) C dX11_isKill_0 1 rfl ?_
  refine z_if_lt (pc := 1) C 16 dX11_isKill_1 (by decide) (fun hc1 => ?_) (fun hc1 => ?_)
  · skip
    have e5 : zlt p (R 4) = false := zlt_f1 hc1
    refine z_iconst (pc := 16) C dX11_isKill_16 (nI 0) (by decide) ?_
    refine z_zret (pc := 17) C dX11_isKill_17 rfl (by first | exact zb_nar _ | rfl) (Nat.zero_le _) (Nat.zero_le _) ⟨?_, ?_, rfl⟩
    · rw [e5]; rfl
    · rfl
  · skip
    refine z_iload_n (pc := 4) C dX11_isKill_4 1 rfl ?_
    refine z_aload_n (pc := 5) C dX11_isKill_5 0 rfl ?_
    refine z_cV1 (pc := 6) mX11_kills C [] dX11_isKill_6 lX11_338 mtX11_kills (tX11_kills hK hC) (by assumption) rfl rfl (by decide) (Nat.le_of_ble_eq_true rfl) (Nat.zero_le _) (Nat.zero_le _) ?_
    refine z_icmp_ge (pc := 9) C 16 dX11_isKill_9 (by decide) (fun hc9 => ?_) (fun hc9 => ?_)
    · skip
      have e5 : zlt p (R 4) = false := zlt_f2 (by omega) hc9
      refine z_iconst (pc := 16) C dX11_isKill_16 (nI 0) (by decide) ?_
      refine z_zret (pc := 17) C dX11_isKill_17 rfl (by first | exact zb_nar _ | rfl) (Nat.zero_le _) (Nat.zero_le _) ⟨?_, ?_, rfl⟩
      · rw [e5]; rfl
      · rfl
    · skip
      have e5 : zlt p (R 4) = true := zlt_t (by omega) hc1 hc9
      refine z_iconst (pc := 12) C dX11_isKill_12 (nI 1) (by decide) ?_
      refine z_goto (pc := 13) C 17 dX11_isKill_13 (by decide) ?_
      refine z_zret (pc := 17) C dX11_isKill_17 rfl (by first | exact zb_nar _ | rfl) (Nat.zero_le _) (Nat.zero_le _) ⟨?_, ?_, rfl⟩
      · rw [e5]; rfl
      · rfl

set_option maxRecDepth 20000 in
set_option maxHeartbeats 1000000 in
theorem tX11_isStray {h : ZH} {st : Nat} {ic tb fa pl : Int32} {sl sr t : Nat} {R S : Nat → Nat} {p : Int32} (hK : h 1000 = some (zO 7 (kfs st ic tb fa pl))) (hC : Scn h st sl sr t R S) (hR : wfR R) : ZD mX11_isStray 0 [.ref 1000, .int p] h (some (.int (zb (zlt p (R 5))))) h := by
  intro n
  obtain ⟨w1, w3, w4, w5, w0, wP, wM, wK, wX⟩ := id hR
  obtain ⟨hT, fl, ft, s0, s1, s2, rl, rt⟩ := id hC
  obtain ⟨fc, fh, fn, fk, fs, ff, fw, fe, t0, t1, t2, t3, t4, t5, t6, t7, t8, rc, rh, rn, rk, rs, rf, rv, re⟩ := id hT
  refine z_enter (lv := [(0, _), (1, _)]) (by decide) (Nat.le_of_ble_eq_true rfl) rfl (fun X C => ?_)
  refine z_iload_n (pc := 0) C dX11_isStray_0 1 rfl ?_
  refine z_if_lt (pc := 1) C 24 dX11_isStray_1 (by decide) (fun hc1 => ?_) (fun hc1 => ?_)
  · skip
    have e5 : zlt p (R 5) = false := zlt_f1 hc1
    refine z_iconst (pc := 24) C dX11_isStray_24 (nI 0) (by decide) ?_
    refine z_zret (pc := 25) C dX11_isStray_25 rfl (by first | exact zb_nar _ | rfl) (Nat.zero_le _) (Nat.zero_le _) ⟨?_, ?_, rfl⟩
    · rw [e5]; rfl
    · rfl
  · skip
    refine z_iload_n (pc := 4) C dX11_isStray_4 1 rfl ?_
    refine z_aload_n (pc := 5) C dX11_isStray_5 0 rfl ?_
    refine z_getf (pc := 6) C dX11_isStray_6 fX11_49 (by assumption) (by first | rfl | assumption) ?_
    refine z_getf (pc := 9) C dX11_isStray_9 fX11_120 (by assumption) (by first | rfl | assumption) ?_
    refine z_getf (pc := 12) C dX11_isStray_12 fX11_387 (by assumption) (by first | rfl | assumption) ?_
    refine z_iconst (pc := 15) C dX11_isStray_15 (nI 5) (by decide) ?_
    refine z_ialdE (pc := 16) C dX11_isStray_16 (by assumption) (by omega) (by decide) (rc 5 (by decide) (by decide)) ?_
    refine z_icmp_ge (pc := 17) C 24 dX11_isStray_17 (by decide) (fun hc17 => ?_) (fun hc17 => ?_)
    · skip
      have e5 : zlt p (R 5) = false := zlt_f2 (by omega) hc17
      refine z_iconst (pc := 24) C dX11_isStray_24 (nI 0) (by decide) ?_
      refine z_zret (pc := 25) C dX11_isStray_25 rfl (by first | exact zb_nar _ | rfl) (Nat.zero_le _) (Nat.zero_le _) ⟨?_, ?_, rfl⟩
      · rw [e5]; rfl
      · rfl
    · skip
      have e5 : zlt p (R 5) = true := zlt_t (by omega) hc1 hc17
      refine z_iconst (pc := 20) C dX11_isStray_20 (nI 1) (by decide) ?_
      refine z_goto (pc := 21) C 25 dX11_isStray_21 (by decide) ?_
      refine z_zret (pc := 25) C dX11_isStray_25 rfl (by first | exact zb_nar _ | rfl) (Nat.zero_le _) (Nat.zero_le _) ⟨?_, ?_, rfl⟩
      · rw [e5]; rfl
      · rfl

set_option maxRecDepth 20000 in
set_option maxHeartbeats 1000000 in
theorem tX11_answer {h : ZH} {st : Nat} {ic tb fa pl : Int32} {x : Int32} (hK : h 1000 = some (zO 7 (kfs st ic tb fa pl))) : ZD mX11_answer 0 [.ref 1000, .int x] h (some (.int x)) (zup h 1000 (zO 7 (kfs st ic 0 fa pl))) := by
  intro n
  refine z_enter (lv := [(0, _), (1, _)]) (by decide) (Nat.le_of_ble_eq_true rfl) rfl (fun X C => ?_)
  refine z_aload_n (pc := 0) C dX11_answer_0 0 rfl ?_
  refine z_iconst (pc := 1) C dX11_answer_1 (nI 0) (by decide) ?_
  refine z_putf (pc := 2) (fs' := kfs _ _ _ _ _) C dX11_answer_2 gX11_111 (by assumption) (fun _ => ⟨rfl, rfl⟩) (by exact Nat.le_of_ble_eq_true rfl) (by rfl) ?_
  refine z_iload_n (pc := 5) C dX11_answer_5 1 rfl ?_
  refine z_iret (pc := 6) C dX11_answer_6 rfl (Nat.zero_le _) (Nat.zero_le _) ⟨?_, ?_, rfl⟩
  · first | rfl | simp_all
  · rfl

set_option maxRecDepth 20000 in
set_option maxHeartbeats 1000000 in
theorem tX11_refuse {h : ZH} {st : Nat} {ic tb fa pl : Int32} {x : Int32} (hK : h 1000 = some (zO 7 (kfs st ic tb fa pl))) : ZD mX11_refuse 0 [.ref 1000, .int x] h (some (.int (-1))) (zup h 1000 (zO 7 (kfs st ic x fa pl))) := by
  intro n
  refine z_enter (lv := [(0, _), (1, _)]) (by decide) (Nat.le_of_ble_eq_true rfl) rfl (fun X C => ?_)
  refine z_aload_n (pc := 0) C dX11_refuse_0 0 rfl ?_
  refine z_iload_n (pc := 1) C dX11_refuse_1 1 rfl ?_
  refine z_putf (pc := 2) (fs' := kfs _ _ _ _ _) C dX11_refuse_2 gX11_111 (by assumption) (fun _ => ⟨rfl, rfl⟩) (by exact Nat.le_of_ble_eq_true rfl) (by rfl) ?_
  refine z_iconst (pc := 5) C dX11_refuse_5 (-1) (by decide) ?_
  refine z_iret (pc := 6) C dX11_refuse_6 rfl (Nat.zero_le _) (Nat.zero_le _) ⟨?_, ?_, rfl⟩
  · first | rfl | simp_all
  · rfl

set_option maxRecDepth 20000 in
set_option maxHeartbeats 1000000 in
theorem tX11_settle {h : ZH} {st : Nat} {ic tb fa pl : Int32} {a : Nat} (hK : h 1000 = some (zO 7 (kfs st ic tb fa pl))) (ha : a < 2147483648) : ZD mX11_settle 0 [.ref 1000, .int (nI a)] h (some (.int (zb (decide (a = 0))))) (zup h 1000 (zO 7 (kfs st ic (nI a) fa pl))) := by
  intro n
  refine z_enter (lv := [(0, _), (1, _)]) (by decide) (Nat.le_of_ble_eq_true rfl) rfl (fun X C => ?_)
  refine z_aload_n (pc := 0) C dX11_settle_0 0 rfl ?_
  refine z_iload_n (pc := 1) C dX11_settle_1 1 rfl ?_
  refine z_putf (pc := 2) (fs' := kfs _ _ _ _ _) C dX11_settle_2 gX11_111 (by assumption) (fun _ => ⟨rfl, rfl⟩) (by exact Nat.le_of_ble_eq_true rfl) (by rfl) ?_
  refine z_iload_n (pc := 5) C dX11_settle_5 1 rfl ?_
  first | refine z_ifneB (pc := 6) C 13 dX11_settle_6 (by decide) (fun hc6 => ?_) (fun hc6 => ?_) | refine z_ifneN (pc := 6) C 13 dX11_settle_6 (by decide) (by omega) (fun hc6 => ?_) (fun hc6 => ?_) | refine z_if_ne (pc := 6) C 13 dX11_settle_6 (by decide) (fun hc6 => ?_) (fun hc6 => ?_)
  · skip
    refine z_iconst (pc := 13) C dX11_settle_13 (nI 0) (by decide) ?_
    refine z_zret (pc := 14) C dX11_settle_14 rfl (by first | exact zb_nar _ | rfl) (Nat.zero_le _) (Nat.zero_le _) ⟨?_, ?_, rfl⟩
    · first | (rw [decide_eq_true hc6]; rfl) | (rw [decide_eq_false (by omega)]; rfl)
    · rfl
  · skip
    refine z_iconst (pc := 9) C dX11_settle_9 (nI 1) (by decide) ?_
    refine z_goto (pc := 10) C 14 dX11_settle_10 (by decide) ?_
    refine z_zret (pc := 14) C dX11_settle_14 rfl (by first | exact zb_nar _ | rfl) (Nat.zero_le _) (Nat.zero_le _) ⟨?_, ?_, rfl⟩
    · first | (rw [decide_eq_true hc6]; rfl) | (rw [decide_eq_false (by omega)]; rfl)
    · rfl

set_option maxRecDepth 20000 in
set_option maxHeartbeats 1000000 in
theorem tX11_place {h : ZH} {st : Nat} {ic tb fa pl : Int32} {t : Nat} {R S : Nat → Nat} {p w : Int32} (hK : h 1000 = some (zO 7 (kfs st ic tb fa pl))) (hC : Scn h 1051 1052 1053 t R S) (hR : wfR R) (hS : wfS R S) : ZD mX11_place 6 [.ref 1000, .int p, .int w] h (some (.int (aPlace R S p w).1)) (zup h 1000 (zO 7 (kfs st ic (aPlace R S p w).2 fa pl))) := by
  intro n
  obtain ⟨w1, w3, w4, w5, w0, wP, wM, wK, wX⟩ := id hR
  obtain ⟨wT, wL, wB⟩ := id hS
  obtain ⟨hT, fl, ft, s0, s1, s2, rl, rt⟩ := id hC
  obtain ⟨fc, fh, fn, fk, fs, ff, fw, fe, t0, t1, t2, t3, t4, t5, t6, t7, t8, rc, rh, rn, rk, rs, rf, rv, re⟩ := id hT
  refine z_enter (lv := [(0, _), (1, _), (2, _)]) (by decide) (Nat.le_of_ble_eq_true rfl) rfl (fun X C => ?_)
  refine z_aload_n (pc := 0) C dX11_place_0 0 rfl ?_
  refine z_iload_n (pc := 1) C dX11_place_1 1 rfl ?_
  refine z_cV1 (pc := 2) mX11_isPlace C [_] dX11_place_2 lX11_114 mtX11_isPlace (tX11_isPlace (by first | assumption | omega) (by first | assumption | omega) (by first | assumption | omega)) (by assumption) rfl rfl (by decide) (Nat.le_of_ble_eq_true rfl) (Nat.zero_le _) (Nat.zero_le _) ?_
  first | refine z_ifeqB (pc := 5) C 17 dX11_place_5 (by decide) (fun hc5 => ?_) (fun hc5 => ?_) | refine z_ifeqN (pc := 5) C 17 dX11_place_5 (by decide) (by omega) (fun hc5 => ?_) (fun hc5 => ?_) | refine z_if_eq (pc := 5) C 17 dX11_place_5 (by decide) (fun hc5 => ?_) (fun hc5 => ?_)
  · skip
    refine z_aload_n (pc := 17) C dX11_place_17 0 rfl ?_
    refine z_iconst (pc := 18) C dX11_place_18 (nI 1) (by decide) ?_
    refine z_cV1 (pc := 19) mX11_refuse C [_] dX11_place_19 lX11_70 mtX11_refuse (tX11_refuse (by first | assumption | omega)) (by assumption) rfl rfl (by decide) (Nat.le_of_ble_eq_true rfl) (Nat.zero_le _) (Nat.zero_le _) ?_
    refine z_iret (pc := 22) C dX11_place_22 rfl (Nat.zero_le _) (Nat.zero_le _) ⟨?_, ?_, rfl⟩
    · simp [aPlace, *]
    · simp [aPlace, *] <;> rfl
  · skip
    refine z_iload_n (pc := 8) C dX11_place_8 2 rfl ?_
    refine z_if_lt (pc := 9) C 17 dX11_place_9 (by decide) (fun hc9 => ?_) (fun hc9 => ?_)
    · skip
      have e5 : zlt w 6 = false := zlt_f1 hc9
      refine z_aload_n (pc := 17) C dX11_place_17 0 rfl ?_
      refine z_iconst (pc := 18) C dX11_place_18 (nI 1) (by decide) ?_
      refine z_cV1 (pc := 19) mX11_refuse C [_] dX11_place_19 lX11_70 mtX11_refuse (tX11_refuse (by first | assumption | omega)) (by assumption) rfl rfl (by decide) (Nat.le_of_ble_eq_true rfl) (Nat.zero_le _) (Nat.zero_le _) ?_
      refine z_iret (pc := 22) C dX11_place_22 rfl (Nat.zero_le _) (Nat.zero_le _) ⟨?_, ?_, rfl⟩
      · simp [aPlace, *]
      · simp [aPlace, *] <;> rfl
    · skip
      refine z_iload_n (pc := 12) C dX11_place_12 2 rfl ?_
      refine z_iconst (pc := 13) C dX11_place_13 (nI 5) (by decide) ?_
      refine z_icmp_le (pc := 14) C 23 dX11_place_14 (by decide) (fun hc14 => ?_) (fun hc14 => ?_)
      · skip
        have e5 : zlt w 6 = true := zlt_le3 (c := 5) (by decide) hc9 hc14
        obtain ⟨j, hj, rfl⟩ := zlt_of (by omega) hc5
        have pj := pn_nI (j := j) (by omega)
        obtain ⟨q, hq, rfl⟩ := zlt_of (by omega) e5
        have pq := pn_nI (j := q) (by omega)
        refine z_iload_n (pc := 23) C dX11_place_23 2 rfl ?_
        rcases (show q = 0 ∨ q = 1 ∨ q = 2 ∨ q = 3 ∨ q = 4 ∨ q = 5 by omega) with rfl | rfl | rfl | rfl | rfl | rfl
        · skip
          refine z_tblIn (pc := 24) C 60 dX11_place_24 (by decide) (by decide) rfl (by decide) ?_
          refine z_aload_n (pc := 60) C dX11_place_60 0 rfl ?_
          refine z_aload_n (pc := 61) C dX11_place_61 0 rfl ?_
          refine z_getf (pc := 62) C dX11_place_62 fX11_53 (by assumption) (by first | rfl | assumption) ?_
          refine z_iload_n (pc := 65) C dX11_place_65 1 rfl ?_
          refine z_cV1 (pc := 66) mX5_isLit C [_] dX11_place_66 lX11_117 mtX5_isLit (tX5_isLit (by first | assumption | omega) (by first | assumption | omega) (by first | assumption | omega)) (by assumption) rfl rfl (by decide) (Nat.le_of_ble_eq_true rfl) (Nat.zero_le _) (Nat.zero_le _) ?_
          first | refine z_ifeqB (pc := 69) C 76 dX11_place_69 (by decide) (fun hc69 => ?_) (fun hc69 => ?_) | refine z_ifeqN (pc := 69) C 76 dX11_place_69 (by decide) (by omega) (fun hc69 => ?_) (fun hc69 => ?_) | refine z_if_eq (pc := 69) C 76 dX11_place_69 (by decide) (fun hc69 => ?_) (fun hc69 => ?_)
          · skip
            refine z_iconst (pc := 76) C dX11_place_76 (nI 0) (by decide) ?_
            refine z_cV1 (pc := 77) mX11_answer C [_] dX11_place_77 lX11_108 mtX11_answer (tX11_answer (by first | assumption | omega)) (by assumption) rfl rfl (by decide) (Nat.le_of_ble_eq_true rfl) (Nat.zero_le _) (Nat.zero_le _) ?_
            refine z_iret (pc := 80) C dX11_place_80 rfl (Nat.zero_le _) (Nat.zero_le _) ⟨?_, ?_, rfl⟩
            · simp [aPlace, *] <;> rfl
            · simp [aPlace, *] <;> rfl
          · skip
            refine z_iconst (pc := 72) C dX11_place_72 (nI 1) (by decide) ?_
            refine z_goto (pc := 73) C 77 dX11_place_73 (by decide) ?_
            refine z_cV1 (pc := 77) mX11_answer C [_] dX11_place_77 lX11_108 mtX11_answer (tX11_answer (by first | assumption | omega)) (by assumption) rfl rfl (by decide) (Nat.le_of_ble_eq_true rfl) (Nat.zero_le _) (Nat.zero_le _) ?_
            refine z_iret (pc := 80) C dX11_place_80 rfl (Nat.zero_le _) (Nat.zero_le _) ⟨?_, ?_, rfl⟩
            · simp [aPlace, *] <;> rfl
            · simp [aPlace, *] <;> rfl
        · skip
          refine z_tblIn (pc := 24) C 81 dX11_place_24 (by decide) (by decide) rfl (by decide) ?_
          refine z_aload_n (pc := 81) C dX11_place_81 0 rfl ?_
          refine z_aload_n (pc := 82) C dX11_place_82 0 rfl ?_
          refine z_getf (pc := 83) C dX11_place_83 fX11_53 (by assumption) (by first | rfl | assumption) ?_
          refine z_getf (pc := 86) C dX11_place_86 fX11_120 (by assumption) (by first | rfl | assumption) ?_
          refine z_getf (pc := 89) C dX11_place_89 fX11_124 (by assumption) (by first | rfl | assumption) ?_
          refine z_iload_n (pc := 92) C dX11_place_92 1 rfl ?_
          refine z_ialdE (pc := 93) C dX11_place_93 (by assumption) (by omega) (by decide) (rh j hj) ?_
          refine z_cV1 (pc := 94) mX11_answer C [_] dX11_place_94 lX11_108 mtX11_answer (tX11_answer (by first | assumption | omega)) (by assumption) rfl rfl (by decide) (Nat.le_of_ble_eq_true rfl) (Nat.zero_le _) (Nat.zero_le _) ?_
          refine z_iret (pc := 97) C dX11_place_97 rfl (Nat.zero_le _) (Nat.zero_le _) ⟨?_, ?_, rfl⟩
          · simp [aPlace, *]
          · simp [aPlace, *] <;> rfl
        · skip
          refine z_tblIn (pc := 24) C 98 dX11_place_24 (by decide) (by decide) rfl (by decide) ?_
          refine z_aload_n (pc := 98) C dX11_place_98 0 rfl ?_
          refine z_aload_n (pc := 99) C dX11_place_99 0 rfl ?_
          refine z_getf (pc := 100) C dX11_place_100 fX11_53 (by assumption) (by first | rfl | assumption) ?_
          refine z_getf (pc := 103) C dX11_place_103 fX11_120 (by assumption) (by first | rfl | assumption) ?_
          refine z_getf (pc := 106) C dX11_place_106 fX11_128 (by assumption) (by first | rfl | assumption) ?_
          refine z_iload_n (pc := 109) C dX11_place_109 1 rfl ?_
          refine z_ialdE (pc := 110) C dX11_place_110 (by assumption) (by omega) (by decide) (rn j hj) ?_
          refine z_cV1 (pc := 111) mX11_answer C [_] dX11_place_111 lX11_108 mtX11_answer (tX11_answer (by first | assumption | omega)) (by assumption) rfl rfl (by decide) (Nat.le_of_ble_eq_true rfl) (Nat.zero_le _) (Nat.zero_le _) ?_
          refine z_iret (pc := 114) C dX11_place_114 rfl (Nat.zero_le _) (Nat.zero_le _) ⟨?_, ?_, rfl⟩
          · simp [aPlace, *]
          · simp [aPlace, *] <;> rfl
        · skip
          refine z_tblIn (pc := 24) C 115 dX11_place_24 (by decide) (by decide) rfl (by decide) ?_
          refine z_aload_n (pc := 115) C dX11_place_115 0 rfl ?_
          refine z_aload_n (pc := 116) C dX11_place_116 0 rfl ?_
          refine z_getf (pc := 117) C dX11_place_117 fX11_53 (by assumption) (by first | rfl | assumption) ?_
          refine z_iload_n (pc := 120) C dX11_place_120 1 rfl ?_
          refine z_cV1 (pc := 121) mX5_menAt C [_] dX11_place_121 lX11_131 mtX5_menAt (tX5_menAt (by first | assumption | omega) (by first | assumption | omega) (by first | assumption | omega) (by first | assumption | omega)) (by assumption) rfl rfl (by decide) (Nat.le_of_ble_eq_true rfl) (Nat.zero_le _) (Nat.zero_le _) ?_
          refine z_cV1 (pc := 124) mX11_answer C [_] dX11_place_124 lX11_108 mtX11_answer (tX11_answer (by first | assumption | omega)) (by assumption) rfl rfl (by decide) (Nat.le_of_ble_eq_true rfl) (Nat.zero_le _) (Nat.zero_le _) ?_
          refine z_iret (pc := 127) C dX11_place_127 rfl (Nat.zero_le _) (Nat.zero_le _) ⟨?_, ?_, rfl⟩
          · simp [aPlace, *]
          · simp [aPlace, *] <;> rfl
        · skip
          refine z_tblIn (pc := 24) C 128 dX11_place_24 (by decide) (by decide) rfl (by decide) ?_
          refine z_aload_n (pc := 128) C dX11_place_128 0 rfl ?_
          refine z_aload_n (pc := 129) C dX11_place_129 0 rfl ?_
          refine z_getf (pc := 130) C dX11_place_130 fX11_53 (by assumption) (by first | rfl | assumption) ?_
          refine z_iload_n (pc := 133) C dX11_place_133 1 rfl ?_
          refine z_cV1 (pc := 134) mX5_killsAt C [_] dX11_place_134 lX11_134 mtX5_killsAt (tX5_killsAt (by first | assumption | omega) (by first | assumption | omega) (by first | assumption | omega) (by first | assumption | omega)) (by assumption) rfl rfl (by decide) (Nat.le_of_ble_eq_true rfl) (Nat.zero_le _) (Nat.zero_le _) ?_
          refine z_cV1 (pc := 137) mX11_answer C [_] dX11_place_137 lX11_108 mtX11_answer (tX11_answer (by first | assumption | omega)) (by assumption) rfl rfl (by decide) (Nat.le_of_ble_eq_true rfl) (Nat.zero_le _) (Nat.zero_le _) ?_
          refine z_iret (pc := 140) C dX11_place_140 rfl (Nat.zero_le _) (Nat.zero_le _) ⟨?_, ?_, rfl⟩
          · simp [aPlace, *]
          · simp [aPlace, *] <;> rfl
        · skip
          refine z_tblOut (pc := 24) C 141 dX11_place_24 (Or.inr (by decide)) (by decide) ?_
          refine z_aload_n (pc := 141) C dX11_place_141 0 rfl ?_
          refine z_aload_n (pc := 142) C dX11_place_142 0 rfl ?_
          refine z_getf (pc := 143) C dX11_place_143 fX11_53 (by assumption) (by first | rfl | assumption) ?_
          refine z_iload_n (pc := 146) C dX11_place_146 1 rfl ?_
          refine z_cV1 (pc := 147) mX5_isCrowded C [_] dX11_place_147 lX11_137 mtX5_isCrowded (tX5_isCrowded (by first | assumption | omega) (by first | assumption | omega) (by first | assumption | omega) (by first | assumption | omega)) (by assumption) rfl rfl (by decide) (Nat.le_of_ble_eq_true rfl) (Nat.zero_le _) (Nat.zero_le _) ?_
          first | refine z_ifeqB (pc := 150) C 157 dX11_place_150 (by decide) (fun hc150 => ?_) (fun hc150 => ?_) | refine z_ifeqN (pc := 150) C 157 dX11_place_150 (by decide) (by omega) (fun hc150 => ?_) (fun hc150 => ?_) | refine z_if_eq (pc := 150) C 157 dX11_place_150 (by decide) (fun hc150 => ?_) (fun hc150 => ?_)
          · skip
            refine z_iconst (pc := 157) C dX11_place_157 (nI 0) (by decide) ?_
            refine z_cV1 (pc := 158) mX11_answer C [_] dX11_place_158 lX11_108 mtX11_answer (tX11_answer (by first | assumption | omega)) (by assumption) rfl rfl (by decide) (Nat.le_of_ble_eq_true rfl) (Nat.zero_le _) (Nat.zero_le _) ?_
            refine z_iret (pc := 161) C dX11_place_161 rfl (Nat.zero_le _) (Nat.zero_le _) ⟨?_, ?_, rfl⟩
            · simp [aPlace, *] <;> rfl
            · simp [aPlace, *] <;> rfl
          · skip
            refine z_iconst (pc := 153) C dX11_place_153 (nI 1) (by decide) ?_
            refine z_goto (pc := 154) C 158 dX11_place_154 (by decide) ?_
            refine z_cV1 (pc := 158) mX11_answer C [_] dX11_place_158 lX11_108 mtX11_answer (tX11_answer (by first | assumption | omega)) (by assumption) rfl rfl (by decide) (Nat.le_of_ble_eq_true rfl) (Nat.zero_le _) (Nat.zero_le _) ?_
            refine z_iret (pc := 161) C dX11_place_161 rfl (Nat.zero_le _) (Nat.zero_le _) ⟨?_, ?_, rfl⟩
            · simp [aPlace, *] <;> rfl
            · simp [aPlace, *] <;> rfl
      · skip
        have e5 : zlt w 6 = false := zlt_f3 (by decide) hc14
        refine z_aload_n (pc := 17) C dX11_place_17 0 rfl ?_
        refine z_iconst (pc := 18) C dX11_place_18 (nI 1) (by decide) ?_
        refine z_cV1 (pc := 19) mX11_refuse C [_] dX11_place_19 lX11_70 mtX11_refuse (tX11_refuse (by first | assumption | omega)) (by assumption) rfl rfl (by decide) (Nat.le_of_ble_eq_true rfl) (Nat.zero_le _) (Nat.zero_le _) ?_
        refine z_iret (pc := 22) C dX11_place_22 rfl (Nat.zero_le _) (Nat.zero_le _) ⟨?_, ?_, rfl⟩
        · simp [aPlace, *]
        · simp [aPlace, *] <;> rfl

set_option maxRecDepth 20000 in
set_option maxHeartbeats 1000000 in
theorem tX11_man {h : ZH} {st : Nat} {ic tb fa pl : Int32} {t : Nat} {R S : Nat → Nat} {m w : Int32} (hK : h 1000 = some (zO 7 (kfs st ic tb fa pl))) (hC : Scn h 1051 1052 1053 t R S) (hR : wfR R) (hS : wfS R S) : ZD mX11_man 2 [.ref 1000, .int m, .int w] h (some (.int (aMan R S m w).1)) (zup h 1000 (zO 7 (kfs st ic (aMan R S m w).2 fa pl))) := by
  intro n
  obtain ⟨w1, w3, w4, w5, w0, wP, wM, wK, wX⟩ := id hR
  obtain ⟨wT, wL, wB⟩ := id hS
  obtain ⟨hT, fl, ft, s0, s1, s2, rl, rt⟩ := id hC
  obtain ⟨fc, fh, fn, fk, fs, ff, fw, fe, t0, t1, t2, t3, t4, t5, t6, t7, t8, rc, rh, rn, rk, rs, rf, rv, re⟩ := id hT
  refine z_enter (lv := [(0, _), (1, _), (2, _)]) (by decide) (Nat.le_of_ble_eq_true rfl) rfl (fun X C => ?_)
  refine z_aload_n (pc := 0) C dX11_man_0 0 rfl ?_
  refine z_iload_n (pc := 1) C dX11_man_1 1 rfl ?_
  refine z_cV1 (pc := 2) mX11_isMan C [_] dX11_man_2 lX11_140 mtX11_isMan (tX11_isMan (by first | assumption | omega) (by first | assumption | omega) (by first | assumption | omega)) (by assumption) rfl rfl (by decide) (Nat.le_of_ble_eq_true rfl) (Nat.zero_le _) (Nat.zero_le _) ?_
  first | refine z_ifeqB (pc := 5) C 17 dX11_man_5 (by decide) (fun hc5 => ?_) (fun hc5 => ?_) | refine z_ifeqN (pc := 5) C 17 dX11_man_5 (by decide) (by omega) (fun hc5 => ?_) (fun hc5 => ?_) | refine z_if_eq (pc := 5) C 17 dX11_man_5 (by decide) (fun hc5 => ?_) (fun hc5 => ?_)
  · skip
    refine z_aload_n (pc := 17) C dX11_man_17 0 rfl ?_
    refine z_iconst (pc := 18) C dX11_man_18 (nI 1) (by decide) ?_
    refine z_cV1 (pc := 19) mX11_refuse C [_] dX11_man_19 lX11_70 mtX11_refuse (tX11_refuse (by first | assumption | omega)) (by assumption) rfl rfl (by decide) (Nat.le_of_ble_eq_true rfl) (Nat.zero_le _) (Nat.zero_le _) ?_
    refine z_iret (pc := 22) C dX11_man_22 rfl (Nat.zero_le _) (Nat.zero_le _) ⟨?_, ?_, rfl⟩
    · simp [aMan, *]
    · simp [aMan, *] <;> rfl
  · skip
    refine z_iload_n (pc := 8) C dX11_man_8 2 rfl ?_
    refine z_if_lt (pc := 9) C 17 dX11_man_9 (by decide) (fun hc9 => ?_) (fun hc9 => ?_)
    · skip
      have e5 : zlt w 5 = false := zlt_f1 hc9
      refine z_aload_n (pc := 17) C dX11_man_17 0 rfl ?_
      refine z_iconst (pc := 18) C dX11_man_18 (nI 1) (by decide) ?_
      refine z_cV1 (pc := 19) mX11_refuse C [_] dX11_man_19 lX11_70 mtX11_refuse (tX11_refuse (by first | assumption | omega)) (by assumption) rfl rfl (by decide) (Nat.le_of_ble_eq_true rfl) (Nat.zero_le _) (Nat.zero_le _) ?_
      refine z_iret (pc := 22) C dX11_man_22 rfl (Nat.zero_le _) (Nat.zero_le _) ⟨?_, ?_, rfl⟩
      · simp [aMan, *]
      · simp [aMan, *] <;> rfl
    · skip
      refine z_iload_n (pc := 12) C dX11_man_12 2 rfl ?_
      refine z_iconst (pc := 13) C dX11_man_13 (nI 4) (by decide) ?_
      refine z_icmp_le (pc := 14) C 23 dX11_man_14 (by decide) (fun hc14 => ?_) (fun hc14 => ?_)
      · skip
        have e5 : zlt w 5 = true := zlt_le3 (c := 4) (by decide) hc9 hc14
        obtain ⟨j, hj, rfl⟩ := zlt_of (by omega) hc5
        have pj := pn_nI (j := j) (by omega)
        obtain ⟨q, hq, rfl⟩ := zlt_of (by omega) e5
        have pq := pn_nI (j := q) (by omega)
        have el : sFol R S j < 128 := sbits_lt7 _ (by omega)
        refine z_iload_n (pc := 23) C dX11_man_23 2 rfl ?_
        rcases (show q = 0 ∨ q = 1 ∨ q = 2 ∨ q = 3 ∨ q = 4 by omega) with rfl | rfl | rfl | rfl | rfl
        · skip
          refine z_tblIn (pc := 24) C 56 dX11_man_24 (by decide) (by decide) rfl (by decide) ?_
          refine z_aload_n (pc := 56) C dX11_man_56 0 rfl ?_
          refine z_aload_n (pc := 57) C dX11_man_57 0 rfl ?_
          refine z_getf (pc := 58) C dX11_man_58 fX11_53 (by assumption) (by first | rfl | assumption) ?_
          refine z_getf (pc := 61) C dX11_man_61 fX11_120 (by assumption) (by first | rfl | assumption) ?_
          refine z_getf (pc := 64) C dX11_man_64 fX11_143 (by assumption) (by first | rfl | assumption) ?_
          refine z_iload_n (pc := 67) C dX11_man_67 1 rfl ?_
          refine z_ialdE (pc := 68) C dX11_man_68 (by assumption) (by omega) (by decide) (rk j hj) ?_
          refine z_cV1 (pc := 69) mX11_answer C [_] dX11_man_69 lX11_108 mtX11_answer (tX11_answer (by first | assumption | omega)) (by assumption) rfl rfl (by decide) (Nat.le_of_ble_eq_true rfl) (Nat.zero_le _) (Nat.zero_le _) ?_
          refine z_iret (pc := 72) C dX11_man_72 rfl (Nat.zero_le _) (Nat.zero_le _) ⟨?_, ?_, rfl⟩
          · simp [aMan, *]
          · simp [aMan, *] <;> rfl
        · skip
          refine z_tblIn (pc := 24) C 73 dX11_man_24 (by decide) (by decide) rfl (by decide) ?_
          refine z_aload_n (pc := 73) C dX11_man_73 0 rfl ?_
          refine z_aload_n (pc := 74) C dX11_man_74 0 rfl ?_
          refine z_getf (pc := 75) C dX11_man_75 fX11_53 (by assumption) (by first | rfl | assumption) ?_
          refine z_iload_n (pc := 78) C dX11_man_78 1 rfl ?_
          refine z_cV1 (pc := 79) mX5_at C [_] dX11_man_79 lX11_146 mtX5_at (tX5_at (by first | assumption | omega) (by first | assumption | omega) (by first | assumption | omega)) (by assumption) rfl rfl (by decide) (Nat.le_of_ble_eq_true rfl) (Nat.zero_le _) (Nat.zero_le _) ?_
          refine z_cV1 (pc := 82) mX11_answer C [_] dX11_man_82 lX11_108 mtX11_answer (tX11_answer (by first | assumption | omega)) (by assumption) rfl rfl (by decide) (Nat.le_of_ble_eq_true rfl) (Nat.zero_le _) (Nat.zero_le _) ?_
          refine z_iret (pc := 85) C dX11_man_85 rfl (Nat.zero_le _) (Nat.zero_le _) ⟨?_, ?_, rfl⟩
          · simp [aMan, *]
          · simp [aMan, *] <;> rfl
        · skip
          refine z_tblIn (pc := 24) C 86 dX11_man_24 (by decide) (by decide) rfl (by decide) ?_
          refine z_aload_n (pc := 86) C dX11_man_86 0 rfl ?_
          refine z_aload_n (pc := 87) C dX11_man_87 0 rfl ?_
          refine z_getf (pc := 88) C dX11_man_88 fX11_53 (by assumption) (by first | rfl | assumption) ?_
          refine z_iload_n (pc := 91) C dX11_man_91 1 rfl ?_
          refine z_cV1 (pc := 92) mX5_killsBehind C [_] dX11_man_92 lX11_149 mtX5_killsBehind (tX5_killsBehind (by first | assumption | omega) (by first | assumption | omega) (by first | assumption | omega) (by first | assumption | omega)) (by assumption) rfl rfl (by decide) (Nat.le_of_ble_eq_true rfl) (Nat.zero_le _) (Nat.zero_le _) ?_
          refine z_cV1 (pc := 95) mX11_answer C [_] dX11_man_95 lX11_108 mtX11_answer (tX11_answer (by first | assumption | omega)) (by assumption) rfl rfl (by decide) (Nat.le_of_ble_eq_true rfl) (Nat.zero_le _) (Nat.zero_le _) ?_
          refine z_iret (pc := 98) C dX11_man_98 rfl (Nat.zero_le _) (Nat.zero_le _) ⟨?_, ?_, rfl⟩
          · simp [aMan, *]
          · simp [aMan, *] <;> rfl
        · skip
          refine z_tblIn (pc := 24) C 99 dX11_man_24 (by decide) (by decide) rfl (by decide) ?_
          refine z_aload_n (pc := 99) C dX11_man_99 0 rfl ?_
          refine z_aload_n (pc := 100) C dX11_man_100 0 rfl ?_
          refine z_getf (pc := 101) C dX11_man_101 fX11_53 (by assumption) (by first | rfl | assumption) ?_
          refine z_getf (pc := 104) C dX11_man_104 fX11_120 (by assumption) (by first | rfl | assumption) ?_
          refine z_aload_n (pc := 107) C dX11_man_107 0 rfl ?_
          refine z_getf (pc := 108) C dX11_man_108 fX11_53 (by assumption) (by first | rfl | assumption) ?_
          refine z_iload_n (pc := 111) C dX11_man_111 1 rfl ?_
          refine z_cV1 (pc := 112) mX5_killsBehind C [_] dX11_man_112 lX11_149 mtX5_killsBehind (tX5_killsBehind (by first | assumption | omega) (by first | assumption | omega) (by first | assumption | omega) (by first | assumption | omega)) (by assumption) rfl rfl (by decide) (Nat.le_of_ble_eq_true rfl) (Nat.zero_le _) (Nat.zero_le _) ?_
          refine z_cV1 (pc := 115) mX8_worthOf C [_] dX11_man_115 lX11_152 mtX8_worthOf (tX8_worthOf (by first | assumption | omega) (by first | assumption | omega) (by first | assumption | omega)) (by assumption) rfl rfl (by decide) (Nat.le_of_ble_eq_true rfl) (Nat.zero_le _) (Nat.zero_le _) ?_
          refine z_cV1 (pc := 118) mX11_answer C [_] dX11_man_118 lX11_108 mtX11_answer (tX11_answer (by first | assumption | omega)) (by assumption) rfl rfl (by decide) (Nat.le_of_ble_eq_true rfl) (Nat.zero_le _) (Nat.zero_le _) ?_
          refine z_iret (pc := 121) C dX11_man_121 rfl (Nat.zero_le _) (Nat.zero_le _) ⟨?_, ?_, rfl⟩
          · simp [aMan, *]
          · simp [aMan, *] <;> rfl
        · skip
          refine z_tblOut (pc := 24) C 122 dX11_man_24 (Or.inr (by decide)) (by decide) ?_
          refine z_aload_n (pc := 122) C dX11_man_122 0 rfl ?_
          refine z_aload_n (pc := 123) C dX11_man_123 0 rfl ?_
          refine z_getf (pc := 124) C dX11_man_124 fX11_53 (by assumption) (by first | rfl | assumption) ?_
          refine z_getf (pc := 127) C dX11_man_127 fX11_120 (by assumption) (by first | rfl | assumption) ?_
          refine z_iload_n (pc := 130) C dX11_man_130 1 rfl ?_
          refine z_cV1 (pc := 131) mX8_killsShotBy C [_] dX11_man_131 lX11_155 mtX8_killsShotBy (tX8_killsShotBy (by first | assumption | omega) (by first | assumption | omega) (by first | assumption | omega)) (by assumption) rfl rfl (by decide) (Nat.le_of_ble_eq_true rfl) (Nat.zero_le _) (Nat.zero_le _) ?_
          refine z_cV1 (pc := 134) mX11_answer C [_] dX11_man_134 lX11_108 mtX11_answer (tX11_answer (by first | assumption | omega)) (by assumption) rfl rfl (by decide) (Nat.le_of_ble_eq_true rfl) (Nat.zero_le _) (Nat.zero_le _) ?_
          refine z_iret (pc := 137) C dX11_man_137 rfl (Nat.zero_le _) (Nat.zero_le _) ⟨?_, ?_, rfl⟩
          · simp [aMan, *]
          · simp [aMan, *] <;> rfl
      · skip
        have e5 : zlt w 5 = false := zlt_f3 (by decide) hc14
        refine z_aload_n (pc := 17) C dX11_man_17 0 rfl ?_
        refine z_iconst (pc := 18) C dX11_man_18 (nI 1) (by decide) ?_
        refine z_cV1 (pc := 19) mX11_refuse C [_] dX11_man_19 lX11_70 mtX11_refuse (tX11_refuse (by first | assumption | omega)) (by assumption) rfl rfl (by decide) (Nat.le_of_ble_eq_true rfl) (Nat.zero_le _) (Nat.zero_le _) ?_
        refine z_iret (pc := 22) C dX11_man_22 rfl (Nat.zero_le _) (Nat.zero_le _) ⟨?_, ?_, rfl⟩
        · simp [aMan, *]
        · simp [aMan, *] <;> rfl

set_option maxRecDepth 20000 in
set_option maxHeartbeats 1000000 in
theorem tX11_kill {h : ZH} {st : Nat} {ic tb fa pl : Int32} {t : Nat} {R S : Nat → Nat} {k w : Int32} (hK : h 1000 = some (zO 7 (kfs st ic tb fa pl))) (hC : Scn h 1051 1052 1053 t R S) (hR : wfR R) (hS : wfS R S) : ZD mX11_kill 3 [.ref 1000, .int k, .int w] h (some (.int (aKill R S k w).1)) (zup h 1000 (zO 7 (kfs st ic (aKill R S k w).2 fa pl))) := by
  intro n
  obtain ⟨w1, w3, w4, w5, w0, wP, wM, wK, wX⟩ := id hR
  obtain ⟨wT, wL, wB⟩ := id hS
  obtain ⟨hT, fl, ft, s0, s1, s2, rl, rt⟩ := id hC
  obtain ⟨fc, fh, fn, fk, fs, ff, fw, fe, t0, t1, t2, t3, t4, t5, t6, t7, t8, rc, rh, rn, rk, rs, rf, rv, re⟩ := id hT
  refine z_enter (lv := [(0, _), (1, _), (2, _)]) (by decide) (Nat.le_of_ble_eq_true rfl) rfl (fun X C => ?_)
  refine z_aload_n (pc := 0) C dX11_kill_0 0 rfl ?_
  refine z_iload_n (pc := 1) C dX11_kill_1 1 rfl ?_
  refine z_cV1 (pc := 2) mX11_isKill C [_] dX11_kill_2 lX11_158 mtX11_isKill (tX11_isKill (by first | assumption | omega) (by first | assumption | omega) (by first | assumption | omega)) (by assumption) rfl rfl (by decide) (Nat.le_of_ble_eq_true rfl) (Nat.zero_le _) (Nat.zero_le _) ?_
  first | refine z_ifeqB (pc := 5) C 17 dX11_kill_5 (by decide) (fun hc5 => ?_) (fun hc5 => ?_) | refine z_ifeqN (pc := 5) C 17 dX11_kill_5 (by decide) (by omega) (fun hc5 => ?_) (fun hc5 => ?_) | refine z_if_eq (pc := 5) C 17 dX11_kill_5 (by decide) (fun hc5 => ?_) (fun hc5 => ?_)
  · skip
    refine z_aload_n (pc := 17) C dX11_kill_17 0 rfl ?_
    refine z_iconst (pc := 18) C dX11_kill_18 (nI 1) (by decide) ?_
    refine z_cV1 (pc := 19) mX11_refuse C [_] dX11_kill_19 lX11_70 mtX11_refuse (tX11_refuse (by first | assumption | omega)) (by assumption) rfl rfl (by decide) (Nat.le_of_ble_eq_true rfl) (Nat.zero_le _) (Nat.zero_le _) ?_
    refine z_iret (pc := 22) C dX11_kill_22 rfl (Nat.zero_le _) (Nat.zero_le _) ⟨?_, ?_, rfl⟩
    · simp [aKill, *]
    · simp [aKill, *] <;> rfl
  · skip
    refine z_iload_n (pc := 8) C dX11_kill_8 2 rfl ?_
    refine z_if_lt (pc := 9) C 17 dX11_kill_9 (by decide) (fun hc9 => ?_) (fun hc9 => ?_)
    · skip
      have e5 : zlt w 6 = false := zlt_f1 hc9
      refine z_aload_n (pc := 17) C dX11_kill_17 0 rfl ?_
      refine z_iconst (pc := 18) C dX11_kill_18 (nI 1) (by decide) ?_
      refine z_cV1 (pc := 19) mX11_refuse C [_] dX11_kill_19 lX11_70 mtX11_refuse (tX11_refuse (by first | assumption | omega)) (by assumption) rfl rfl (by decide) (Nat.le_of_ble_eq_true rfl) (Nat.zero_le _) (Nat.zero_le _) ?_
      refine z_iret (pc := 22) C dX11_kill_22 rfl (Nat.zero_le _) (Nat.zero_le _) ⟨?_, ?_, rfl⟩
      · simp [aKill, *]
      · simp [aKill, *] <;> rfl
    · skip
      refine z_iload_n (pc := 12) C dX11_kill_12 2 rfl ?_
      refine z_iconst (pc := 13) C dX11_kill_13 (nI 5) (by decide) ?_
      refine z_icmp_le (pc := 14) C 23 dX11_kill_14 (by decide) (fun hc14 => ?_) (fun hc14 => ?_)
      · skip
        have e5 : zlt w 6 = true := zlt_le3 (c := 5) (by decide) hc9 hc14
        obtain ⟨j, hj, rfl⟩ := zlt_of (by omega) hc5
        have pj := pn_nI (j := j) (by omega)
        obtain ⟨q, hq, rfl⟩ := zlt_of (by omega) e5
        have pq := pn_nI (j := q) (by omega)
        have el := wL j hj
        have ek := wK j hj
        refine z_iload_n (pc := 23) C dX11_kill_23 2 rfl ?_
        rcases (show q = 0 ∨ q = 1 ∨ q = 2 ∨ q = 3 ∨ q = 4 ∨ q = 5 by omega) with rfl | rfl | rfl | rfl | rfl | rfl
        · skip
          refine z_tblIn (pc := 24) C 60 dX11_kill_24 (by decide) (by decide) rfl (by decide) ?_
          refine z_aload_n (pc := 60) C dX11_kill_60 0 rfl ?_
          refine z_aload_n (pc := 61) C dX11_kill_61 0 rfl ?_
          refine z_getf (pc := 62) C dX11_kill_62 fX11_53 (by assumption) (by first | rfl | assumption) ?_
          refine z_getf (pc := 65) C dX11_kill_65 fX11_120 (by assumption) (by first | rfl | assumption) ?_
          refine z_getf (pc := 68) C dX11_kill_68 fX11_161 (by assumption) (by first | rfl | assumption) ?_
          refine z_iload_n (pc := 71) C dX11_kill_71 1 rfl ?_
          refine z_ialdE (pc := 72) C dX11_kill_72 (by assumption) (by omega) (by decide) (rs j hj) ?_
          refine z_cV1 (pc := 73) mX11_answer C [_] dX11_kill_73 lX11_108 mtX11_answer (tX11_answer (by first | assumption | omega)) (by assumption) rfl rfl (by decide) (Nat.le_of_ble_eq_true rfl) (Nat.zero_le _) (Nat.zero_le _) ?_
          refine z_iret (pc := 76) C dX11_kill_76 rfl (Nat.zero_le _) (Nat.zero_le _) ⟨?_, ?_, rfl⟩
          · simp [aKill, *]
          · simp [aKill, *] <;> rfl
        · skip
          refine z_tblIn (pc := 24) C 77 dX11_kill_24 (by decide) (by decide) rfl (by decide) ?_
          refine z_aload_n (pc := 77) C dX11_kill_77 0 rfl ?_
          refine z_aload_n (pc := 78) C dX11_kill_78 0 rfl ?_
          refine z_getf (pc := 79) C dX11_kill_79 fX11_53 (by assumption) (by first | rfl | assumption) ?_
          refine z_getf (pc := 82) C dX11_kill_82 fX11_164 (by assumption) (by first | rfl | assumption) ?_
          refine z_iload_n (pc := 85) C dX11_kill_85 1 rfl ?_
          refine z_ialdE (pc := 86) C dX11_kill_86 (by assumption) (by omega) (by decide) (rl j hj) ?_
          refine z_cV1 (pc := 87) mX11_answer C [_] dX11_kill_87 lX11_108 mtX11_answer (tX11_answer (by first | assumption | omega)) (by assumption) rfl rfl (by decide) (Nat.le_of_ble_eq_true rfl) (Nat.zero_le _) (Nat.zero_le _) ?_
          refine z_iret (pc := 90) C dX11_kill_90 rfl (Nat.zero_le _) (Nat.zero_le _) ⟨?_, ?_, rfl⟩
          · simp [aKill, *]
          · simp [aKill, *] <;> rfl
        · skip
          refine z_tblIn (pc := 24) C 91 dX11_kill_24 (by decide) (by decide) rfl (by decide) ?_
          refine z_aload_n (pc := 91) C dX11_kill_91 0 rfl ?_
          refine z_aload_n (pc := 92) C dX11_kill_92 0 rfl ?_
          refine z_getf (pc := 93) C dX11_kill_93 fX11_53 (by assumption) (by first | rfl | assumption) ?_
          refine z_getf (pc := 96) C dX11_kill_96 fX11_120 (by assumption) (by first | rfl | assumption) ?_
          refine z_getf (pc := 99) C dX11_kill_99 fX11_167 (by assumption) (by first | rfl | assumption) ?_
          refine z_iload_n (pc := 102) C dX11_kill_102 1 rfl ?_
          refine z_ialdE (pc := 103) C dX11_kill_103 (by assumption) (by omega) (by decide) (rf j hj) ?_
          refine z_cV1 (pc := 104) mX11_answer C [_] dX11_kill_104 lX11_108 mtX11_answer (tX11_answer (by first | assumption | omega)) (by assumption) rfl rfl (by decide) (Nat.le_of_ble_eq_true rfl) (Nat.zero_le _) (Nat.zero_le _) ?_
          refine z_iret (pc := 107) C dX11_kill_107 rfl (Nat.zero_le _) (Nat.zero_le _) ⟨?_, ?_, rfl⟩
          · simp [aKill, *]
          · simp [aKill, *] <;> rfl
        · skip
          refine z_tblIn (pc := 24) C 108 dX11_kill_24 (by decide) (by decide) rfl (by decide) ?_
          refine z_aload_n (pc := 108) C dX11_kill_108 0 rfl ?_
          refine z_aload_n (pc := 109) C dX11_kill_109 0 rfl ?_
          refine z_getf (pc := 110) C dX11_kill_110 fX11_53 (by assumption) (by first | rfl | assumption) ?_
          refine z_getf (pc := 113) C dX11_kill_113 fX11_120 (by assumption) (by first | rfl | assumption) ?_
          refine z_getf (pc := 116) C dX11_kill_116 fX11_170 (by assumption) (by first | rfl | assumption) ?_
          refine z_iload_n (pc := 119) C dX11_kill_119 1 rfl ?_
          refine z_ialdE (pc := 120) C dX11_kill_120 (by assumption) (by omega) (by decide) (rv j hj) ?_
          refine z_cV1 (pc := 121) mX11_answer C [_] dX11_kill_121 lX11_108 mtX11_answer (tX11_answer (by first | assumption | omega)) (by assumption) rfl rfl (by decide) (Nat.le_of_ble_eq_true rfl) (Nat.zero_le _) (Nat.zero_le _) ?_
          refine z_iret (pc := 124) C dX11_kill_124 rfl (Nat.zero_le _) (Nat.zero_le _) ⟨?_, ?_, rfl⟩
          · simp [aKill, *]
          · simp [aKill, *] <;> rfl
        · skip
          refine z_tblIn (pc := 24) C 125 dX11_kill_24 (by decide) (by decide) rfl (by decide) ?_
          refine z_aload_n (pc := 125) C dX11_kill_125 0 rfl ?_
          refine z_aload_n (pc := 126) C dX11_kill_126 0 rfl ?_
          refine z_getf (pc := 127) C dX11_kill_127 fX11_53 (by assumption) (by first | rfl | assumption) ?_
          refine z_iload_n (pc := 130) C dX11_kill_130 1 rfl ?_
          refine z_cV1 (pc := 131) mX5_standOf C [_] dX11_kill_131 lX11_173 mtX5_standOf (tX5_standOf (by first | assumption | omega) (by first | assumption | omega) (by first | assumption | omega) (by first | assumption | omega)) (by assumption) rfl rfl (by decide) (Nat.le_of_ble_eq_true rfl) (Nat.zero_le _) (Nat.zero_le _) ?_
          refine z_cV1 (pc := 134) mX11_answer C [_] dX11_kill_134 lX11_108 mtX11_answer (tX11_answer (by first | assumption | omega)) (by assumption) rfl rfl (by decide) (Nat.le_of_ble_eq_true rfl) (Nat.zero_le _) (Nat.zero_le _) ?_
          refine z_iret (pc := 137) C dX11_kill_137 rfl (Nat.zero_le _) (Nat.zero_le _) ⟨?_, ?_, rfl⟩
          · simp [aKill, *]
          · simp [aKill, *] <;> rfl
        · skip
          refine z_tblOut (pc := 24) C 138 dX11_kill_24 (Or.inr (by decide)) (by decide) ?_
          refine z_aload_n (pc := 138) C dX11_kill_138 0 rfl ?_
          refine z_aload_n (pc := 139) C dX11_kill_139 0 rfl ?_
          refine z_getf (pc := 140) C dX11_kill_140 fX11_53 (by assumption) (by first | rfl | assumption) ?_
          refine z_getf (pc := 143) C dX11_kill_143 fX11_120 (by assumption) (by first | rfl | assumption) ?_
          refine z_aload_n (pc := 146) C dX11_kill_146 0 rfl ?_
          refine z_getf (pc := 147) C dX11_kill_147 fX11_53 (by assumption) (by first | rfl | assumption) ?_
          refine z_getf (pc := 150) C dX11_kill_150 fX11_164 (by assumption) (by first | rfl | assumption) ?_
          refine z_iload_n (pc := 153) C dX11_kill_153 1 rfl ?_
          refine z_ialdE (pc := 154) C dX11_kill_154 (by assumption) (by omega) (by decide) (rl j hj) ?_
          refine z_aload_n (pc := 155) C dX11_kill_155 0 rfl ?_
          refine z_getf (pc := 156) C dX11_kill_156 fX11_53 (by assumption) (by first | rfl | assumption) ?_
          refine z_getf (pc := 159) C dX11_kill_159 fX11_120 (by assumption) (by first | rfl | assumption) ?_
          refine z_getf (pc := 162) C dX11_kill_162 fX11_167 (by assumption) (by first | rfl | assumption) ?_
          refine z_iload_n (pc := 165) C dX11_kill_165 1 rfl ?_
          refine z_ialdE (pc := 166) C dX11_kill_166 (by assumption) (by omega) (by decide) (rf j hj) ?_
          refine z_cV1 (pc := 167) mX8_stepsBehind C [_, _] dX11_kill_167 lX11_176 mtX8_stepsBehind (tX8_stepsBehind hT hR el ek.2.1) (by assumption) rfl rfl (by decide) (Nat.le_of_ble_eq_true rfl) (Nat.zero_le _) (Nat.zero_le _) ?_
          refine z_cV1 (pc := 170) mX11_answer C [_] dX11_kill_170 lX11_108 mtX11_answer (tX11_answer (by first | assumption | omega)) (by assumption) rfl rfl (by decide) (Nat.le_of_ble_eq_true rfl) (Nat.zero_le _) (Nat.zero_le _) ?_
          refine z_iret (pc := 173) C dX11_kill_173 rfl (Nat.zero_le _) (Nat.zero_le _) ⟨?_, ?_, rfl⟩
          · simp [aKill, *]
          · simp [aKill, *] <;> rfl
      · skip
        have e5 : zlt w 6 = false := zlt_f3 (by decide) hc14
        refine z_aload_n (pc := 17) C dX11_kill_17 0 rfl ?_
        refine z_iconst (pc := 18) C dX11_kill_18 (nI 1) (by decide) ?_
        refine z_cV1 (pc := 19) mX11_refuse C [_] dX11_kill_19 lX11_70 mtX11_refuse (tX11_refuse (by first | assumption | omega)) (by assumption) rfl rfl (by decide) (Nat.le_of_ble_eq_true rfl) (Nat.zero_le _) (Nat.zero_le _) ?_
        refine z_iret (pc := 22) C dX11_kill_22 rfl (Nat.zero_le _) (Nat.zero_le _) ⟨?_, ?_, rfl⟩
        · simp [aKill, *]
        · simp [aKill, *] <;> rfl

set_option maxRecDepth 20000 in
set_option maxHeartbeats 1000000 in
theorem tX11_trail {h : ZH} {st : Nat} {ic tb fa pl : Int32} {t : Nat} {R S : Nat → Nat} {m g : Int32} (hK : h 1000 = some (zO 7 (kfs st ic tb fa pl))) (hC : Scn h 1051 1052 1053 t R S) (hR : wfR R) (hS : wfS R S) : ZD mX11_trail 2 [.ref 1000, .int m, .int g] h (some (.int (aTrail S R m g).1)) (zup h 1000 (zO 7 (kfs st ic (aTrail S R m g).2 fa pl))) := by
  intro n
  obtain ⟨w1, w3, w4, w5, w0, wP, wM, wK, wX⟩ := id hR
  obtain ⟨wT, wL, wB⟩ := id hS
  obtain ⟨hT, fl, ft, s0, s1, s2, rl, rt⟩ := id hC
  obtain ⟨fc, fh, fn, fk, fs, ff, fw, fe, t0, t1, t2, t3, t4, t5, t6, t7, t8, rc, rh, rn, rk, rs, rf, rv, re⟩ := id hT
  refine z_enter (lv := [(0, _), (1, _), (2, _)]) (by decide) (Nat.le_of_ble_eq_true rfl) rfl (fun X C => ?_)
  refine z_aload_n (pc := 0) C dX11_trail_0 0 rfl ?_
  refine z_iload_n (pc := 1) C dX11_trail_1 1 rfl ?_
  refine z_cV1 (pc := 2) mX11_isMan C [_] dX11_trail_2 lX11_140 mtX11_isMan (tX11_isMan (by first | assumption | omega) (by first | assumption | omega) (by first | assumption | omega)) (by assumption) rfl rfl (by decide) (Nat.le_of_ble_eq_true rfl) (Nat.zero_le _) (Nat.zero_le _) ?_
  first | refine z_ifneB (pc := 5) C 14 dX11_trail_5 (by decide) (fun hc5 => ?_) (fun hc5 => ?_) | refine z_ifneN (pc := 5) C 14 dX11_trail_5 (by decide) (by omega) (fun hc5 => ?_) (fun hc5 => ?_) | refine z_if_ne (pc := 5) C 14 dX11_trail_5 (by decide) (fun hc5 => ?_) (fun hc5 => ?_)
  · skip
    refine z_iload_n (pc := 14) C dX11_trail_14 2 rfl ?_
    refine z_if_lt (pc := 15) C 24 dX11_trail_15 (by decide) (fun hc15 => ?_) (fun hc15 => ?_)
    · skip
      have e5 : zlt g 8 = false := zlt_f1 hc15
      refine z_aload_n (pc := 24) C dX11_trail_24 0 rfl ?_
      refine z_iconst (pc := 25) C dX11_trail_25 (nI 2) (by decide) ?_
      refine z_cV1 (pc := 26) mX11_refuse C [_] dX11_trail_26 lX11_70 mtX11_refuse (tX11_refuse (by first | assumption | omega)) (by assumption) rfl rfl (by decide) (Nat.le_of_ble_eq_true rfl) (Nat.zero_le _) (Nat.zero_le _) ?_
      refine z_iret (pc := 29) C dX11_trail_29 rfl (Nat.zero_le _) (Nat.zero_le _) ⟨?_, ?_, rfl⟩
      · simp [aTrail, aW, swhy, *]
      · simp [aTrail, aW, swhy, *] <;> rfl
    · skip
      refine z_iload_n (pc := 18) C dX11_trail_18 2 rfl ?_
      refine z_bipush (pc := 19) C dX11_trail_19 (nI 8) (by decide) ?_
      refine z_icmp_lt (pc := 21) C 30 dX11_trail_21 (by decide) (fun hc21 => ?_) (fun hc21 => ?_)
      · skip
        have e5 : zlt g 8 = true := zlt_t (by decide) hc15 (Int32.not_le.mpr hc21)
        obtain ⟨j, hj, rfl⟩ := zlt_of (by omega) hc5
        have pj := pn_nI (j := j) (by omega)
        obtain ⟨q, hq, rfl⟩ := zlt_of (by omega) e5
        have pq := pn_nI (j := q) (by omega)
        refine z_aload_n (pc := 30) C dX11_trail_30 0 rfl ?_
        refine z_aload_n (pc := 31) C dX11_trail_31 0 rfl ?_
        refine z_getf (pc := 32) C dX11_trail_32 fX11_53 (by assumption) (by first | rfl | assumption) ?_
        refine z_iload_n (pc := 35) C dX11_trail_35 1 rfl ?_
        refine z_iload_n (pc := 36) C dX11_trail_36 2 rfl ?_
        refine z_cV1 (pc := 37) mX5_wasAt C [_, _] dX11_trail_37 lX11_180 mtX5_wasAt (tX5_wasAt (by first | assumption | omega) (by first | assumption | omega) (by first | assumption | omega) (by first | assumption | omega)) (by assumption) rfl rfl (by decide) (Nat.le_of_ble_eq_true rfl) (Nat.zero_le _) (Nat.zero_le _) ?_
        refine z_cV1 (pc := 40) mX11_answer C [_] dX11_trail_40 lX11_108 mtX11_answer (tX11_answer (by first | assumption | omega)) (by assumption) rfl rfl (by decide) (Nat.le_of_ble_eq_true rfl) (Nat.zero_le _) (Nat.zero_le _) ?_
        refine z_iret (pc := 43) C dX11_trail_43 rfl (Nat.zero_le _) (Nat.zero_le _) ⟨?_, ?_, rfl⟩
        · simp [aTrail, aW, swhy, *]
        · simp [aTrail, aW, swhy, *] <;> rfl
      · skip
        have e5 : zlt g 8 = false := zlt_f2 (by decide) (Int32.not_lt.mp hc21)
        refine z_aload_n (pc := 24) C dX11_trail_24 0 rfl ?_
        refine z_iconst (pc := 25) C dX11_trail_25 (nI 2) (by decide) ?_
        refine z_cV1 (pc := 26) mX11_refuse C [_] dX11_trail_26 lX11_70 mtX11_refuse (tX11_refuse (by first | assumption | omega)) (by assumption) rfl rfl (by decide) (Nat.le_of_ble_eq_true rfl) (Nat.zero_le _) (Nat.zero_le _) ?_
        refine z_iret (pc := 29) C dX11_trail_29 rfl (Nat.zero_le _) (Nat.zero_le _) ⟨?_, ?_, rfl⟩
        · simp [aTrail, aW, swhy, *]
        · simp [aTrail, aW, swhy, *] <;> rfl
  · skip
    refine z_aload_n (pc := 8) C dX11_trail_8 0 rfl ?_
    refine z_iconst (pc := 9) C dX11_trail_9 (nI 1) (by decide) ?_
    refine z_cV1 (pc := 10) mX11_refuse C [_] dX11_trail_10 lX11_70 mtX11_refuse (tX11_refuse (by first | assumption | omega)) (by assumption) rfl rfl (by decide) (Nat.le_of_ble_eq_true rfl) (Nat.zero_le _) (Nat.zero_le _) ?_
    refine z_iret (pc := 13) C dX11_trail_13 rfl (Nat.zero_le _) (Nat.zero_le _) ⟨?_, ?_, rfl⟩
    · simp [aTrail, aW, swhy, *]
    · simp [aTrail, aW, swhy, *] <;> rfl

set_option maxRecDepth 20000 in
set_option maxHeartbeats 1000000 in
theorem tX11_crowded {h : ZH} {st : Nat} {ic tb fa pl : Int32} {t : Nat} {R S : Nat → Nat}  (hK : h 1000 = some (zO 7 (kfs st ic tb fa pl))) (hC : Scn h 1051 1052 1053 t R S) (hR : wfR R) (hS : wfS R S) : ZD mX11_crowded 6 [.ref 1000] h (some (.int (aCrow R S).1)) (zup h 1000 (zO 7 (kfs st ic (aCrow R S).2 fa pl))) := by
  intro n
  obtain ⟨w1, w3, w4, w5, w0, wP, wM, wK, wX⟩ := id hR
  obtain ⟨wT, wL, wB⟩ := id hS
  obtain ⟨hT, fl, ft, s0, s1, s2, rl, rt⟩ := id hC
  obtain ⟨fc, fh, fn, fk, fs, ff, fw, fe, t0, t1, t2, t3, t4, t5, t6, t7, t8, rc, rh, rn, rk, rs, rf, rv, re⟩ := id hT
  refine z_enter (lv := [(0, _)]) (by decide) (Nat.le_of_ble_eq_true rfl) rfl (fun X C => ?_)
  refine z_aload_n (pc := 0) C dX11_crowded_0 0 rfl ?_
  refine z_cV1 (pc := 1) mX11_isForest C [] dX11_crowded_1 lX11_183 mtX11_isForest (tX11_isForest (by first | assumption | omega) (by first | assumption | omega) (by first | assumption | omega)) (by assumption) rfl rfl (by decide) (Nat.le_of_ble_eq_true rfl) (Nat.zero_le _) (Nat.zero_le _) ?_
  first | refine z_ifneB (pc := 4) C 13 dX11_crowded_4 (by decide) (fun hc4 => ?_) (fun hc4 => ?_) | refine z_ifneN (pc := 4) C 13 dX11_crowded_4 (by decide) (by omega) (fun hc4 => ?_) (fun hc4 => ?_) | refine z_if_ne (pc := 4) C 13 dX11_crowded_4 (by decide) (fun hc4 => ?_) (fun hc4 => ?_)
  · skip
    have e0 := of_decide_eq_true hc4
    refine z_aload_n (pc := 13) C dX11_crowded_13 0 rfl ?_
    refine z_aload_n (pc := 14) C dX11_crowded_14 0 rfl ?_
    refine z_getf (pc := 15) C dX11_crowded_15 fX11_53 (by assumption) (by first | rfl | assumption) ?_
    refine z_cV1 (pc := 18) mX5_crowdedPlaces C [] dX11_crowded_18 lX11_187 mtX5_crowdedPlaces (tX5_crowdedPlaces (by first | assumption | omega) (by first | assumption | omega) (by first | assumption | omega)) (by assumption) rfl rfl (by decide) (Nat.le_of_ble_eq_true rfl) (Nat.zero_le _) (Nat.zero_le _) ?_
    refine z_cV1 (pc := 21) mX11_answer C [_] dX11_crowded_21 lX11_108 mtX11_answer (tX11_answer (by first | assumption | omega)) (by assumption) rfl rfl (by decide) (Nat.le_of_ble_eq_true rfl) (Nat.zero_le _) (Nat.zero_le _) ?_
    refine z_iret (pc := 24) C dX11_crowded_24 rfl (Nat.zero_le _) (Nat.zero_le _) ⟨?_, ?_, rfl⟩
    · simp [aCrow, aF, *]
    · simp [aCrow, aF, *] <;> rfl
  · skip
    have e0 := of_decide_eq_false hc4
    refine z_aload_n (pc := 7) C dX11_crowded_7 0 rfl ?_
    refine z_iconst (pc := 8) C dX11_crowded_8 (nI 1) (by decide) ?_
    refine z_cV1 (pc := 9) mX11_refuse C [_] dX11_crowded_9 lX11_70 mtX11_refuse (tX11_refuse (by first | assumption | omega)) (by assumption) rfl rfl (by decide) (Nat.le_of_ble_eq_true rfl) (Nat.zero_le _) (Nat.zero_le _) ?_
    refine z_iret (pc := 12) C dX11_crowded_12 rfl (Nat.zero_le _) (Nat.zero_le _) ⟨?_, ?_, rfl⟩
    · simp [aCrow, aF, *]
    · simp [aCrow, aF, *] <;> rfl

set_option maxRecDepth 20000 in
set_option maxHeartbeats 1000000 in
theorem tX11_leader {h : ZH} {st : Nat} {ic tb fa pl : Int32} {t : Nat} {R S : Nat → Nat}  (hK : h 1000 = some (zO 7 (kfs st ic tb fa pl))) (hC : Scn h 1051 1052 1053 t R S) (hR : wfR R) (hS : wfS R S) : ZD mX11_leader 2 [.ref 1000] h (some (.int (aLead R S).1)) (zup h 1000 (zO 7 (kfs st ic (aLead R S).2 fa pl))) := by
  intro n
  obtain ⟨w1, w3, w4, w5, w0, wP, wM, wK, wX⟩ := id hR
  obtain ⟨wT, wL, wB⟩ := id hS
  obtain ⟨hT, fl, ft, s0, s1, s2, rl, rt⟩ := id hC
  obtain ⟨fc, fh, fn, fk, fs, ff, fw, fe, t0, t1, t2, t3, t4, t5, t6, t7, t8, rc, rh, rn, rk, rs, rf, rv, re⟩ := id hT
  refine z_enter (lv := [(0, _)]) (by decide) (Nat.le_of_ble_eq_true rfl) rfl (fun X C => ?_)
  refine z_aload_n (pc := 0) C dX11_leader_0 0 rfl ?_
  refine z_cV1 (pc := 1) mX11_isForest C [] dX11_leader_1 lX11_183 mtX11_isForest (tX11_isForest (by first | assumption | omega) (by first | assumption | omega) (by first | assumption | omega)) (by assumption) rfl rfl (by decide) (Nat.le_of_ble_eq_true rfl) (Nat.zero_le _) (Nat.zero_le _) ?_
  first | refine z_ifneB (pc := 4) C 13 dX11_leader_4 (by decide) (fun hc4 => ?_) (fun hc4 => ?_) | refine z_ifneN (pc := 4) C 13 dX11_leader_4 (by decide) (by omega) (fun hc4 => ?_) (fun hc4 => ?_) | refine z_if_ne (pc := 4) C 13 dX11_leader_4 (by decide) (fun hc4 => ?_) (fun hc4 => ?_)
  · skip
    have e0 := of_decide_eq_true hc4
    refine z_aload_n (pc := 13) C dX11_leader_13 0 rfl ?_
    refine z_aload_n (pc := 14) C dX11_leader_14 0 rfl ?_
    refine z_getf (pc := 15) C dX11_leader_15 fX11_53 (by assumption) (by first | rfl | assumption) ?_
    refine z_cV1 (pc := 18) mX5_mostFollowed C [] dX11_leader_18 lX11_190 mtX5_mostFollowed (tX5_mostFollowed (by first | assumption | omega) (by first | assumption | omega) (by first | assumption | omega)) (by assumption) rfl rfl (by decide) (Nat.le_of_ble_eq_true rfl) (Nat.zero_le _) (Nat.zero_le _) ?_
    refine z_cV1 (pc := 21) mX11_answer C [_] dX11_leader_21 lX11_108 mtX11_answer (tX11_answer (by first | assumption | omega)) (by assumption) rfl rfl (by decide) (Nat.le_of_ble_eq_true rfl) (Nat.zero_le _) (Nat.zero_le _) ?_
    refine z_iret (pc := 24) C dX11_leader_24 rfl (Nat.zero_le _) (Nat.zero_le _) ⟨?_, ?_, rfl⟩
    · simp [aLead, aF, *]
    · simp [aLead, aF, *] <;> rfl
  · skip
    have e0 := of_decide_eq_false hc4
    refine z_aload_n (pc := 7) C dX11_leader_7 0 rfl ?_
    refine z_iconst (pc := 8) C dX11_leader_8 (nI 1) (by decide) ?_
    refine z_cV1 (pc := 9) mX11_refuse C [_] dX11_leader_9 lX11_70 mtX11_refuse (tX11_refuse (by first | assumption | omega)) (by assumption) rfl rfl (by decide) (Nat.le_of_ble_eq_true rfl) (Nat.zero_le _) (Nat.zero_le _) ?_
    refine z_iret (pc := 12) C dX11_leader_12 rfl (Nat.zero_le _) (Nat.zero_le _) ⟨?_, ?_, rfl⟩
    · simp [aLead, aF, *]
    · simp [aLead, aF, *] <;> rfl

set_option maxRecDepth 20000 in
set_option maxHeartbeats 1000000 in
theorem tX11_room {h : ZH} {st : Nat} {ic tb fa pl : Int32} {t : Nat} {R S : Nat → Nat}  (hK : h 1000 = some (zO 7 (kfs st ic tb fa pl))) (hC : Scn h 1051 1052 1053 t R S) (hR : wfR R) (hS : wfS R S) : ZD mX11_room 6 [.ref 1000] h (some (.int (aRoom R S).1)) (zup h 1000 (zO 7 (kfs st ic (aRoom R S).2 fa pl))) := by
  intro n
  obtain ⟨w1, w3, w4, w5, w0, wP, wM, wK, wX⟩ := id hR
  obtain ⟨wT, wL, wB⟩ := id hS
  obtain ⟨hT, fl, ft, s0, s1, s2, rl, rt⟩ := id hC
  obtain ⟨fc, fh, fn, fk, fs, ff, fw, fe, t0, t1, t2, t3, t4, t5, t6, t7, t8, rc, rh, rn, rk, rs, rf, rv, re⟩ := id hT
  refine z_enter (lv := [(0, _)]) (by decide) (Nat.le_of_ble_eq_true rfl) rfl (fun X C => ?_)
  refine z_aload_n (pc := 0) C dX11_room_0 0 rfl ?_
  refine z_cV1 (pc := 1) mX11_isForest C [] dX11_room_1 lX11_183 mtX11_isForest (tX11_isForest (by first | assumption | omega) (by first | assumption | omega) (by first | assumption | omega)) (by assumption) rfl rfl (by decide) (Nat.le_of_ble_eq_true rfl) (Nat.zero_le _) (Nat.zero_le _) ?_
  first | refine z_ifneB (pc := 4) C 13 dX11_room_4 (by decide) (fun hc4 => ?_) (fun hc4 => ?_) | refine z_ifneN (pc := 4) C 13 dX11_room_4 (by decide) (by omega) (fun hc4 => ?_) (fun hc4 => ?_) | refine z_if_ne (pc := 4) C 13 dX11_room_4 (by decide) (fun hc4 => ?_) (fun hc4 => ?_)
  · skip
    have e0 := of_decide_eq_true hc4
    refine z_aload_n (pc := 13) C dX11_room_13 0 rfl ?_
    refine z_aload_n (pc := 14) C dX11_room_14 0 rfl ?_
    refine z_getf (pc := 15) C dX11_room_15 fX11_53 (by assumption) (by first | rfl | assumption) ?_
    refine z_cV1 (pc := 18) mX5_roomLeft C [] dX11_room_18 lX11_196 mtX5_roomLeft (tX5_roomLeft (by first | assumption | omega) (by first | assumption | omega) (by first | assumption | omega)) (by assumption) rfl rfl (by decide) (Nat.le_of_ble_eq_true rfl) (Nat.zero_le _) (Nat.zero_le _) ?_
    refine z_cV1 (pc := 21) mX11_answer C [_] dX11_room_21 lX11_108 mtX11_answer (tX11_answer (by first | assumption | omega)) (by assumption) rfl rfl (by decide) (Nat.le_of_ble_eq_true rfl) (Nat.zero_le _) (Nat.zero_le _) ?_
    refine z_iret (pc := 24) C dX11_room_24 rfl (Nat.zero_le _) (Nat.zero_le _) ⟨?_, ?_, rfl⟩
    · simp [aRoom, aF, *]
    · simp [aRoom, aF, *] <;> rfl
  · skip
    have e0 := of_decide_eq_false hc4
    refine z_aload_n (pc := 7) C dX11_room_7 0 rfl ?_
    refine z_iconst (pc := 8) C dX11_room_8 (nI 1) (by decide) ?_
    refine z_cV1 (pc := 9) mX11_refuse C [_] dX11_room_9 lX11_70 mtX11_refuse (tX11_refuse (by first | assumption | omega)) (by assumption) rfl rfl (by decide) (Nat.le_of_ble_eq_true rfl) (Nat.zero_le _) (Nat.zero_le _) ?_
    refine z_iret (pc := 12) C dX11_room_12 rfl (Nat.zero_le _) (Nat.zero_le _) ⟨?_, ?_, rfl⟩
    · simp [aRoom, aF, *]
    · simp [aRoom, aF, *] <;> rfl

set_option maxRecDepth 20000 in
set_option maxHeartbeats 1000000 in
theorem tX11_amends {h : ZH} {st : Nat} {ic tb fa pl : Int32} {t : Nat} {R S : Nat → Nat}  (hK : h 1000 = some (zO 7 (kfs st ic tb fa pl))) (hC : Scn h 1051 1052 1053 t R S) (hR : wfR R) (hS : wfS R S) : ZD mX11_amends 2 [.ref 1000] h (some (.int (aAmd R S).1)) (zup h 1000 (zO 7 (kfs st ic (aAmd R S).2 fa pl))) := by
  intro n
  obtain ⟨w1, w3, w4, w5, w0, wP, wM, wK, wX⟩ := id hR
  obtain ⟨wT, wL, wB⟩ := id hS
  obtain ⟨hT, fl, ft, s0, s1, s2, rl, rt⟩ := id hC
  obtain ⟨fc, fh, fn, fk, fs, ff, fw, fe, t0, t1, t2, t3, t4, t5, t6, t7, t8, rc, rh, rn, rk, rs, rf, rv, re⟩ := id hT
  refine z_enter (lv := [(0, _)]) (by decide) (Nat.le_of_ble_eq_true rfl) rfl (fun X C => ?_)
  refine z_aload_n (pc := 0) C dX11_amends_0 0 rfl ?_
  refine z_cV1 (pc := 1) mX11_isForest C [] dX11_amends_1 lX11_183 mtX11_isForest (tX11_isForest (by first | assumption | omega) (by first | assumption | omega) (by first | assumption | omega)) (by assumption) rfl rfl (by decide) (Nat.le_of_ble_eq_true rfl) (Nat.zero_le _) (Nat.zero_le _) ?_
  first | refine z_ifneB (pc := 4) C 13 dX11_amends_4 (by decide) (fun hc4 => ?_) (fun hc4 => ?_) | refine z_ifneN (pc := 4) C 13 dX11_amends_4 (by decide) (by omega) (fun hc4 => ?_) (fun hc4 => ?_) | refine z_if_ne (pc := 4) C 13 dX11_amends_4 (by decide) (fun hc4 => ?_) (fun hc4 => ?_)
  · skip
    have e0 := of_decide_eq_true hc4
    refine z_aload_n (pc := 13) C dX11_amends_13 0 rfl ?_
    refine z_aload_n (pc := 14) C dX11_amends_14 0 rfl ?_
    refine z_getf (pc := 15) C dX11_amends_15 fX11_53 (by assumption) (by first | rfl | assumption) ?_
    refine z_cS1 (pc := 18) mX1_killsToGiveBack C [_] dX11_amends_18 lX11_269 mtX1_killsToGiveBack (tX1_killsToGiveBack (by first | assumption | omega) (by first | assumption | omega) (by first | assumption | omega)) rfl rfl (by decide) (Nat.le_of_ble_eq_true rfl) (Nat.zero_le _) (Nat.zero_le _) ?_
    refine z_cV1 (pc := 21) mX11_answer C [_] dX11_amends_21 lX11_108 mtX11_answer (tX11_answer (by first | assumption | omega)) (by assumption) rfl rfl (by decide) (Nat.le_of_ble_eq_true rfl) (Nat.zero_le _) (Nat.zero_le _) ?_
    refine z_iret (pc := 24) C dX11_amends_24 rfl (Nat.zero_le _) (Nat.zero_le _) ⟨?_, ?_, rfl⟩
    · simp [aAmd, aF, *]
    · simp [aAmd, aF, *] <;> rfl
  · skip
    have e0 := of_decide_eq_false hc4
    refine z_aload_n (pc := 7) C dX11_amends_7 0 rfl ?_
    refine z_iconst (pc := 8) C dX11_amends_8 (nI 1) (by decide) ?_
    refine z_cV1 (pc := 9) mX11_refuse C [_] dX11_amends_9 lX11_70 mtX11_refuse (tX11_refuse (by first | assumption | omega)) (by assumption) rfl rfl (by decide) (Nat.le_of_ble_eq_true rfl) (Nat.zero_le _) (Nat.zero_le _) ?_
    refine z_iret (pc := 12) C dX11_amends_12 rfl (Nat.zero_le _) (Nat.zero_le _) ⟨?_, ?_, rfl⟩
    · simp [aAmd, aF, *]
    · simp [aAmd, aF, *] <;> rfl

set_option maxRecDepth 20000 in
set_option maxHeartbeats 1000000 in
theorem tX11_middle {h : ZH} {st : Nat} {ic tb fa pl : Int32} {t : Nat} {R S : Nat → Nat}  (hK : h 1000 = some (zO 7 (kfs st ic tb fa pl))) (hC : Scn h 1051 1052 1053 t R S) (hR : wfR R) (hS : wfS R S) : ZD mX11_middle 5 [.ref 1000] h (some (.int (aMid R).1)) (zup h 1000 (zO 7 (kfs st ic (aMid R).2 fa pl))) := by
  intro n
  obtain ⟨w1, w3, w4, w5, w0, wP, wM, wK, wX⟩ := id hR
  obtain ⟨wT, wL, wB⟩ := id hS
  obtain ⟨hT, fl, ft, s0, s1, s2, rl, rt⟩ := id hC
  obtain ⟨fc, fh, fn, fk, fs, ff, fw, fe, t0, t1, t2, t3, t4, t5, t6, t7, t8, rc, rh, rn, rk, rs, rf, rv, re⟩ := id hT
  refine z_enter (lv := [(0, _)]) (by decide) (Nat.le_of_ble_eq_true rfl) rfl (fun X C => ?_)
  refine z_aload_n (pc := 0) C dX11_middle_0 0 rfl ?_
  refine z_cV1 (pc := 1) mX11_isForest C [] dX11_middle_1 lX11_183 mtX11_isForest (tX11_isForest (by first | assumption | omega) (by first | assumption | omega) (by first | assumption | omega)) (by assumption) rfl rfl (by decide) (Nat.le_of_ble_eq_true rfl) (Nat.zero_le _) (Nat.zero_le _) ?_
  first | refine z_ifneB (pc := 4) C 13 dX11_middle_4 (by decide) (fun hc4 => ?_) (fun hc4 => ?_) | refine z_ifneN (pc := 4) C 13 dX11_middle_4 (by decide) (by omega) (fun hc4 => ?_) (fun hc4 => ?_) | refine z_if_ne (pc := 4) C 13 dX11_middle_4 (by decide) (fun hc4 => ?_) (fun hc4 => ?_)
  · skip
    have e0 := of_decide_eq_true hc4
    refine z_aload_n (pc := 13) C dX11_middle_13 0 rfl ?_
    refine z_aload_n (pc := 14) C dX11_middle_14 0 rfl ?_
    refine z_getf (pc := 15) C dX11_middle_15 fX11_53 (by assumption) (by first | rfl | assumption) ?_
    refine z_getf (pc := 18) C dX11_middle_18 fX11_120 (by assumption) (by first | rfl | assumption) ?_
    refine z_cS1 (pc := 21) mX10_mostCentral C [_] dX11_middle_21 lX11_222 mtX10_mostCentral (tX10_mostCentral hT hR e0) rfl rfl (by decide) (Nat.le_of_ble_eq_true rfl) (Nat.zero_le _) (Nat.zero_le _) ?_
    refine z_cV1 (pc := 24) mX11_answer C [_] dX11_middle_24 lX11_108 mtX11_answer (tX11_answer (by first | assumption | omega)) (by assumption) rfl rfl (by decide) (Nat.le_of_ble_eq_true rfl) (Nat.zero_le _) (Nat.zero_le _) ?_
    refine z_iret (pc := 27) C dX11_middle_27 rfl (Nat.zero_le _) (Nat.zero_le _) ⟨?_, ?_, rfl⟩
    · simp [aMid, aF, *]
    · simp [aMid, aF, *] <;> rfl
  · skip
    have e0 := of_decide_eq_false hc4
    refine z_aload_n (pc := 7) C dX11_middle_7 0 rfl ?_
    refine z_iconst (pc := 8) C dX11_middle_8 (nI 1) (by decide) ?_
    refine z_cV1 (pc := 9) mX11_refuse C [_] dX11_middle_9 lX11_70 mtX11_refuse (tX11_refuse (by first | assumption | omega)) (by assumption) rfl rfl (by decide) (Nat.le_of_ble_eq_true rfl) (Nat.zero_le _) (Nat.zero_le _) ?_
    refine z_iret (pc := 12) C dX11_middle_12 rfl (Nat.zero_le _) (Nat.zero_le _) ⟨?_, ?_, rfl⟩
    · simp [aMid, aF, *]
    · simp [aMid, aF, *] <;> rfl

set_option maxRecDepth 20000 in
set_option maxHeartbeats 1000000 in
theorem tX11_near {h : ZH} {st : Nat} {ic tb fa pl : Int32} {t : Nat} {R S : Nat → Nat} {m : Int32} (hK : h 1000 = some (zO 7 (kfs st ic tb fa pl))) (hC : Scn h 1051 1052 1053 t R S) (hR : wfR R) (hS : wfS R S) : ZD mX11_near 5 [.ref 1000, .int m] h (some (.int (aNear R S m).1)) (zup h 1000 (zO 7 (kfs st ic (aNear R S m).2 fa pl))) := by
  intro n
  obtain ⟨w1, w3, w4, w5, w0, wP, wM, wK, wX⟩ := id hR
  obtain ⟨wT, wL, wB⟩ := id hS
  obtain ⟨hT, fl, ft, s0, s1, s2, rl, rt⟩ := id hC
  obtain ⟨fc, fh, fn, fk, fs, ff, fw, fe, t0, t1, t2, t3, t4, t5, t6, t7, t8, rc, rh, rn, rk, rs, rf, rv, re⟩ := id hT
  refine z_enter (lv := [(0, _), (1, _)]) (by decide) (Nat.le_of_ble_eq_true rfl) rfl (fun X C => ?_)
  refine z_aload_n (pc := 0) C dX11_near_0 0 rfl ?_
  refine z_iload_n (pc := 1) C dX11_near_1 1 rfl ?_
  refine z_cV1 (pc := 2) mX11_isMan C [_] dX11_near_2 lX11_140 mtX11_isMan (tX11_isMan (by first | assumption | omega) (by first | assumption | omega) (by first | assumption | omega)) (by assumption) rfl rfl (by decide) (Nat.le_of_ble_eq_true rfl) (Nat.zero_le _) (Nat.zero_le _) ?_
  first | refine z_ifneB (pc := 5) C 14 dX11_near_5 (by decide) (fun hc5 => ?_) (fun hc5 => ?_) | refine z_ifneN (pc := 5) C 14 dX11_near_5 (by decide) (by omega) (fun hc5 => ?_) (fun hc5 => ?_) | refine z_if_ne (pc := 5) C 14 dX11_near_5 (by decide) (fun hc5 => ?_) (fun hc5 => ?_)
  · skip
    obtain ⟨j, hj, rfl⟩ := zlt_of (by omega) hc5
    have pj := pn_nI (j := j) (by omega)
    refine z_aload_n (pc := 14) C dX11_near_14 0 rfl ?_
    refine z_aload_n (pc := 15) C dX11_near_15 0 rfl ?_
    refine z_getf (pc := 16) C dX11_near_16 fX11_53 (by assumption) (by first | rfl | assumption) ?_
    refine z_iload_n (pc := 19) C dX11_near_19 1 rfl ?_
    refine z_cV1 (pc := 20) mX5_killsAround C [_] dX11_near_20 lX11_193 mtX5_killsAround (tX5_killsAround (by first | assumption | omega) (by first | assumption | omega) (by first | assumption | omega) (by first | assumption | omega)) (by assumption) rfl rfl (by decide) (Nat.le_of_ble_eq_true rfl) (Nat.zero_le _) (Nat.zero_le _) ?_
    rw [sKw_snr hR hS]
    refine z_cV1 (pc := 23) mX11_answer C [_] dX11_near_23 lX11_108 mtX11_answer (tX11_answer (by first | assumption | omega)) (by assumption) rfl rfl (by decide) (Nat.le_of_ble_eq_true rfl) (Nat.zero_le _) (Nat.zero_le _) ?_
    refine z_iret (pc := 26) C dX11_near_26 rfl (Nat.zero_le _) (Nat.zero_le _) ⟨?_, ?_, rfl⟩
    · simp [aNear, aM, *]
    · simp [aNear, aM, *] <;> rfl
  · skip
    refine z_aload_n (pc := 8) C dX11_near_8 0 rfl ?_
    refine z_iconst (pc := 9) C dX11_near_9 (nI 1) (by decide) ?_
    refine z_cV1 (pc := 10) mX11_refuse C [_] dX11_near_10 lX11_70 mtX11_refuse (tX11_refuse (by first | assumption | omega)) (by assumption) rfl rfl (by decide) (Nat.le_of_ble_eq_true rfl) (Nat.zero_le _) (Nat.zero_le _) ?_
    refine z_iret (pc := 13) C dX11_near_13 rfl (Nat.zero_le _) (Nat.zero_le _) ⟨?_, ?_, rfl⟩
    · simp [aNear, aM, *]
    · simp [aNear, aM, *] <;> rfl

set_option maxRecDepth 20000 in
set_option maxHeartbeats 1000000 in
theorem tX11_owes {h : ZH} {st : Nat} {ic tb fa pl : Int32} {t : Nat} {R S : Nat → Nat} {m : Int32} (hK : h 1000 = some (zO 7 (kfs st ic tb fa pl))) (hC : Scn h 1051 1052 1053 t R S) (hR : wfR R) (hS : wfS R S) : ZD mX11_owes 2 [.ref 1000, .int m] h (some (.int (aOwes R S m).1)) (zup h 1000 (zO 7 (kfs st ic (aOwes R S m).2 fa pl))) := by
  intro n
  obtain ⟨w1, w3, w4, w5, w0, wP, wM, wK, wX⟩ := id hR
  obtain ⟨wT, wL, wB⟩ := id hS
  obtain ⟨hT, fl, ft, s0, s1, s2, rl, rt⟩ := id hC
  obtain ⟨fc, fh, fn, fk, fs, ff, fw, fe, t0, t1, t2, t3, t4, t5, t6, t7, t8, rc, rh, rn, rk, rs, rf, rv, re⟩ := id hT
  refine z_enter (lv := [(0, _), (1, _)]) (by decide) (Nat.le_of_ble_eq_true rfl) rfl (fun X C => ?_)
  refine z_aload_n (pc := 0) C dX11_owes_0 0 rfl ?_
  refine z_iload_n (pc := 1) C dX11_owes_1 1 rfl ?_
  refine z_cV1 (pc := 2) mX11_isMan C [_] dX11_owes_2 lX11_140 mtX11_isMan (tX11_isMan (by first | assumption | omega) (by first | assumption | omega) (by first | assumption | omega)) (by assumption) rfl rfl (by decide) (Nat.le_of_ble_eq_true rfl) (Nat.zero_le _) (Nat.zero_le _) ?_
  first | refine z_ifneB (pc := 5) C 14 dX11_owes_5 (by decide) (fun hc5 => ?_) (fun hc5 => ?_) | refine z_ifneN (pc := 5) C 14 dX11_owes_5 (by decide) (by omega) (fun hc5 => ?_) (fun hc5 => ?_) | refine z_if_ne (pc := 5) C 14 dX11_owes_5 (by decide) (fun hc5 => ?_) (fun hc5 => ?_)
  · skip
    obtain ⟨j, hj, rfl⟩ := zlt_of (by omega) hc5
    have pj := pn_nI (j := j) (by omega)
    refine z_aload_n (pc := 14) C dX11_owes_14 0 rfl ?_
    refine z_aload_n (pc := 15) C dX11_owes_15 0 rfl ?_
    refine z_getf (pc := 16) C dX11_owes_16 fX11_53 (by assumption) (by first | rfl | assumption) ?_
    refine z_iload_n (pc := 19) C dX11_owes_19 1 rfl ?_
    refine z_cS1 (pc := 20) mX1_creditors C [_, _] dX11_owes_20 lX11_259 mtX1_creditors (tX1_creditors (by first | assumption | omega) (by first | assumption | omega) (by first | assumption | omega) (by first | assumption | omega)) rfl rfl (by decide) (Nat.le_of_ble_eq_true rfl) (Nat.zero_le _) (Nat.zero_le _) ?_
    refine z_cV1 (pc := 23) mX11_answer C [_] dX11_owes_23 lX11_108 mtX11_answer (tX11_answer (by first | assumption | omega)) (by assumption) rfl rfl (by decide) (Nat.le_of_ble_eq_true rfl) (Nat.zero_le _) (Nat.zero_le _) ?_
    refine z_iret (pc := 26) C dX11_owes_26 rfl (Nat.zero_le _) (Nat.zero_le _) ⟨?_, ?_, rfl⟩
    · simp [aOwes, aM, *]
    · simp [aOwes, aM, *] <;> rfl
  · skip
    refine z_aload_n (pc := 8) C dX11_owes_8 0 rfl ?_
    refine z_iconst (pc := 9) C dX11_owes_9 (nI 1) (by decide) ?_
    refine z_cV1 (pc := 10) mX11_refuse C [_] dX11_owes_10 lX11_70 mtX11_refuse (tX11_refuse (by first | assumption | omega)) (by assumption) rfl rfl (by decide) (Nat.le_of_ble_eq_true rfl) (Nat.zero_le _) (Nat.zero_le _) ?_
    refine z_iret (pc := 13) C dX11_owes_13 rfl (Nat.zero_le _) (Nat.zero_le _) ⟨?_, ?_, rfl⟩
    · simp [aOwes, aM, *]
    · simp [aOwes, aM, *] <;> rfl

set_option maxRecDepth 20000 in
set_option maxHeartbeats 1000000 in
theorem tX11_safe {h : ZH} {st : Nat} {ic tb fa pl : Int32} {t : Nat} {R S : Nat → Nat} {m : Int32} (hK : h 1000 = some (zO 7 (kfs st ic tb fa pl))) (hC : Scn h 1051 1052 1053 t R S) (hR : wfR R) (hS : wfS R S) : ZD mX11_safe 4 [.ref 1000, .int m] h (some (.int (aSafe R S m).1)) (zup h 1000 (zO 7 (kfs st ic (aSafe R S m).2 fa pl))) := by
  intro n
  obtain ⟨w1, w3, w4, w5, w0, wP, wM, wK, wX⟩ := id hR
  obtain ⟨wT, wL, wB⟩ := id hS
  obtain ⟨hT, fl, ft, s0, s1, s2, rl, rt⟩ := id hC
  obtain ⟨fc, fh, fn, fk, fs, ff, fw, fe, t0, t1, t2, t3, t4, t5, t6, t7, t8, rc, rh, rn, rk, rs, rf, rv, re⟩ := id hT
  refine z_enter (lv := [(0, _), (1, _)]) (by decide) (Nat.le_of_ble_eq_true rfl) rfl (fun X C => ?_)
  refine z_aload_n (pc := 0) C dX11_safe_0 0 rfl ?_
  refine z_iload_n (pc := 1) C dX11_safe_1 1 rfl ?_
  refine z_cV1 (pc := 2) mX11_isMan C [_] dX11_safe_2 lX11_140 mtX11_isMan (tX11_isMan (by first | assumption | omega) (by first | assumption | omega) (by first | assumption | omega)) (by assumption) rfl rfl (by decide) (Nat.le_of_ble_eq_true rfl) (Nat.zero_le _) (Nat.zero_le _) ?_
  first | refine z_ifneB (pc := 5) C 14 dX11_safe_5 (by decide) (fun hc5 => ?_) (fun hc5 => ?_) | refine z_ifneN (pc := 5) C 14 dX11_safe_5 (by decide) (by omega) (fun hc5 => ?_) (fun hc5 => ?_) | refine z_if_ne (pc := 5) C 14 dX11_safe_5 (by decide) (fun hc5 => ?_) (fun hc5 => ?_)
  · skip
    obtain ⟨j, hj, rfl⟩ := zlt_of (by omega) hc5
    have pj := pn_nI (j := j) (by omega)
    have e1 : S (8 * j) < R 1 := wT j hj 0 (by omega)
    refine z_aload_n (pc := 14) C dX11_safe_14 0 rfl ?_
    refine z_aload_n (pc := 15) C dX11_safe_15 0 rfl ?_
    refine z_getf (pc := 16) C dX11_safe_16 fX11_53 (by assumption) (by first | rfl | assumption) ?_
    refine z_getf (pc := 19) C dX11_safe_19 fX11_120 (by assumption) (by first | rfl | assumption) ?_
    refine z_aload_n (pc := 22) C dX11_safe_22 0 rfl ?_
    refine z_getf (pc := 23) C dX11_safe_23 fX11_53 (by assumption) (by first | rfl | assumption) ?_
    refine z_iload_n (pc := 26) C dX11_safe_26 1 rfl ?_
    refine z_cV1 (pc := 27) mX5_at C [_] dX11_safe_27 lX11_146 mtX5_at (tX5_at (by first | assumption | omega) (by first | assumption | omega) (by first | assumption | omega)) (by assumption) rfl rfl (by decide) (Nat.le_of_ble_eq_true rfl) (Nat.zero_le _) (Nat.zero_le _) ?_
    refine z_aload_n (pc := 30) C dX11_safe_30 0 rfl ?_
    refine z_getf (pc := 31) C dX11_safe_31 fX11_53 (by assumption) (by first | rfl | assumption) ?_
    refine z_iload_n (pc := 34) C dX11_safe_34 1 rfl ?_
    refine z_cV1 (pc := 35) mX5_unseenPlaces C [_] dX11_safe_35 lX11_213 mtX5_unseenPlaces (tX5_unseenPlaces (by first | assumption | omega) (by first | assumption | omega) (by first | assumption | omega) (by first | assumption | omega)) (by assumption) rfl rfl (by decide) (Nat.le_of_ble_eq_true rfl) (Nat.zero_le _) (Nat.zero_le _) ?_
    refine z_cS1 (pc := 38) mX10_reach C [_, _, _] dX11_safe_38 lX11_216 mtX10_reach (tX10_reach hT hR (by omega)) rfl rfl (by decide) (Nat.le_of_ble_eq_true rfl) (Nat.zero_le _) (Nat.zero_le _) ?_
    rw [sreach_un hR hS j (by omega)]
    refine z_cV1 (pc := 41) mX11_answer C [_] dX11_safe_41 lX11_108 mtX11_answer (tX11_answer (by first | assumption | omega)) (by assumption) rfl rfl (by decide) (Nat.le_of_ble_eq_true rfl) (Nat.zero_le _) (Nat.zero_le _) ?_
    refine z_iret (pc := 44) C dX11_safe_44 rfl (Nat.zero_le _) (Nat.zero_le _) ⟨?_, ?_, rfl⟩
    · simp [aSafe, aM, *]
    · simp [aSafe, aM, *] <;> rfl
  · skip
    refine z_aload_n (pc := 8) C dX11_safe_8 0 rfl ?_
    refine z_iconst (pc := 9) C dX11_safe_9 (nI 1) (by decide) ?_
    refine z_cV1 (pc := 10) mX11_refuse C [_] dX11_safe_10 lX11_70 mtX11_refuse (tX11_refuse (by first | assumption | omega)) (by assumption) rfl rfl (by decide) (Nat.le_of_ble_eq_true rfl) (Nat.zero_le _) (Nat.zero_le _) ?_
    refine z_iret (pc := 13) C dX11_safe_13 rfl (Nat.zero_le _) (Nat.zero_le _) ⟨?_, ?_, rfl⟩
    · simp [aSafe, aM, *]
    · simp [aSafe, aM, *] <;> rfl

set_option maxRecDepth 20000 in
set_option maxHeartbeats 1000000 in
theorem tX11_apart {h : ZH} {st : Nat} {ic tb fa pl : Int32} {t : Nat} {R S : Nat → Nat} {p q : Int32} (hK : h 1000 = some (zO 7 (kfs st ic tb fa pl))) (hC : Scn h 1051 1052 1053 t R S) (hR : wfR R) (hS : wfS R S) : ZD mX11_apart 3 [.ref 1000, .int p, .int q] h (some (.int (aApart R p q).1)) (zup h 1000 (zO 7 (kfs st ic (aApart R p q).2 fa pl))) := by
  intro n
  obtain ⟨w1, w3, w4, w5, w0, wP, wM, wK, wX⟩ := id hR
  obtain ⟨wT, wL, wB⟩ := id hS
  obtain ⟨hT, fl, ft, s0, s1, s2, rl, rt⟩ := id hC
  obtain ⟨fc, fh, fn, fk, fs, ff, fw, fe, t0, t1, t2, t3, t4, t5, t6, t7, t8, rc, rh, rn, rk, rs, rf, rv, re⟩ := id hT
  refine z_enter (lv := [(0, _), (1, _), (2, _)]) (by decide) (Nat.le_of_ble_eq_true rfl) rfl (fun X C => ?_)
  refine z_aload_n (pc := 0) C dX11_apart_0 0 rfl ?_
  refine z_iload_n (pc := 1) C dX11_apart_1 1 rfl ?_
  refine z_cV1 (pc := 2) mX11_isPlace C [_] dX11_apart_2 lX11_114 mtX11_isPlace (tX11_isPlace (by first | assumption | omega) (by first | assumption | omega) (by first | assumption | omega)) (by assumption) rfl rfl (by decide) (Nat.le_of_ble_eq_true rfl) (Nat.zero_le _) (Nat.zero_le _) ?_
  first | refine z_ifeqB (pc := 5) C 16 dX11_apart_5 (by decide) (fun hc5 => ?_) (fun hc5 => ?_) | refine z_ifeqN (pc := 5) C 16 dX11_apart_5 (by decide) (by omega) (fun hc5 => ?_) (fun hc5 => ?_) | refine z_if_eq (pc := 5) C 16 dX11_apart_5 (by decide) (fun hc5 => ?_) (fun hc5 => ?_)
  · skip
    refine z_aload_n (pc := 16) C dX11_apart_16 0 rfl ?_
    refine z_iconst (pc := 17) C dX11_apart_17 (nI 1) (by decide) ?_
    refine z_cV1 (pc := 18) mX11_refuse C [_] dX11_apart_18 lX11_70 mtX11_refuse (tX11_refuse (by first | assumption | omega)) (by assumption) rfl rfl (by decide) (Nat.le_of_ble_eq_true rfl) (Nat.zero_le _) (Nat.zero_le _) ?_
    refine z_iret (pc := 21) C dX11_apart_21 rfl (Nat.zero_le _) (Nat.zero_le _) ⟨?_, ?_, rfl⟩
    · simp [aApart, *]
    · simp [aApart, *] <;> rfl
  · skip
    refine z_aload_n (pc := 8) C dX11_apart_8 0 rfl ?_
    refine z_iload_n (pc := 9) C dX11_apart_9 2 rfl ?_
    refine z_cV1 (pc := 10) mX11_isPlace C [_] dX11_apart_10 lX11_114 mtX11_isPlace (tX11_isPlace (by first | assumption | omega) (by first | assumption | omega) (by first | assumption | omega)) (by assumption) rfl rfl (by decide) (Nat.le_of_ble_eq_true rfl) (Nat.zero_le _) (Nat.zero_le _) ?_
    first | refine z_ifneB (pc := 13) C 22 dX11_apart_13 (by decide) (fun hc13 => ?_) (fun hc13 => ?_) | refine z_ifneN (pc := 13) C 22 dX11_apart_13 (by decide) (by omega) (fun hc13 => ?_) (fun hc13 => ?_) | refine z_if_ne (pc := 13) C 22 dX11_apart_13 (by decide) (fun hc13 => ?_) (fun hc13 => ?_)
    · skip
      obtain ⟨j, hj, rfl⟩ := zlt_of (by omega) hc5
      have pj := pn_nI (j := j) (by omega)
      obtain ⟨i, hi, rfl⟩ := zlt_of (by omega) hc13
      have pi := pn_nI (j := i) (by omega)
      refine z_aload_n (pc := 22) C dX11_apart_22 0 rfl ?_
      refine z_aload_n (pc := 23) C dX11_apart_23 0 rfl ?_
      refine z_getf (pc := 24) C dX11_apart_24 fX11_53 (by assumption) (by first | rfl | assumption) ?_
      refine z_getf (pc := 27) C dX11_apart_27 fX11_120 (by assumption) (by first | rfl | assumption) ?_
      refine z_iload_n (pc := 30) C dX11_apart_30 1 rfl ?_
      refine z_iload_n (pc := 31) C dX11_apart_31 2 rfl ?_
      refine z_aload_n (pc := 32) C dX11_apart_32 0 rfl ?_
      refine z_getf (pc := 33) C dX11_apart_33 fX11_53 (by assumption) (by first | rfl | assumption) ?_
      refine z_getf (pc := 36) C dX11_apart_36 fX11_120 (by assumption) (by first | rfl | assumption) ?_
      refine z_cS1 (pc := 39) mX10_all C [_] dX11_apart_39 lX11_199 mtX10_all (tX10_all hT hR) rfl rfl (by decide) (Nat.le_of_ble_eq_true rfl) (Nat.zero_le _) (Nat.zero_le _) ?_
      refine z_cS1 (pc := 42) mX10_distance C [_, _, _, _] dX11_apart_42 lX11_205 mtX10_distance (tX10_distance hT hR (by omega) (by omega)) rfl rfl (by decide) (Nat.le_of_ble_eq_true rfl) (Nat.zero_le _) (Nat.zero_le _) ?_
      rw [sdist_all hR (by omega)]
      refine z_cV1 (pc := 45) mX11_answer C [_] dX11_apart_45 lX11_108 mtX11_answer (tX11_answer (by first | assumption | omega)) (by assumption) rfl rfl (by decide) (Nat.le_of_ble_eq_true rfl) (Nat.zero_le _) (Nat.zero_le _) ?_
      refine z_iret (pc := 48) C dX11_apart_48 rfl (Nat.zero_le _) (Nat.zero_le _) ⟨?_, ?_, rfl⟩
      · simp [aApart, *]
      · simp [aApart, *] <;> rfl
    · skip
      refine z_aload_n (pc := 16) C dX11_apart_16 0 rfl ?_
      refine z_iconst (pc := 17) C dX11_apart_17 (nI 1) (by decide) ?_
      refine z_cV1 (pc := 18) mX11_refuse C [_] dX11_apart_18 lX11_70 mtX11_refuse (tX11_refuse (by first | assumption | omega)) (by assumption) rfl rfl (by decide) (Nat.le_of_ble_eq_true rfl) (Nat.zero_le _) (Nat.zero_le _) ?_
      refine z_iret (pc := 21) C dX11_apart_21 rfl (Nat.zero_le _) (Nat.zero_le _) ⟨?_, ?_, rfl⟩
      · simp [aApart, *]
      · simp [aApart, *] <;> rfl

set_option maxRecDepth 20000 in
set_option maxHeartbeats 1000000 in
theorem tX11_next {h : ZH} {st : Nat} {ic tb fa pl : Int32} {t : Nat} {R S : Nat → Nat} {m p : Int32} (hK : h 1000 = some (zO 7 (kfs st ic tb fa pl))) (hC : Scn h 1051 1052 1053 t R S) (hR : wfR R) (hS : wfS R S) : ZD mX11_next 4 [.ref 1000, .int m, .int p] h (some (.int (aNext R S m p).1)) (zup h 1000 (zO 7 (kfs st ic (aNext R S m p).2 fa pl))) := by
  intro n
  obtain ⟨w1, w3, w4, w5, w0, wP, wM, wK, wX⟩ := id hR
  obtain ⟨wT, wL, wB⟩ := id hS
  obtain ⟨hT, fl, ft, s0, s1, s2, rl, rt⟩ := id hC
  obtain ⟨fc, fh, fn, fk, fs, ff, fw, fe, t0, t1, t2, t3, t4, t5, t6, t7, t8, rc, rh, rn, rk, rs, rf, rv, re⟩ := id hT
  refine z_enter (lv := [(0, _), (1, _), (2, _)]) (by decide) (Nat.le_of_ble_eq_true rfl) rfl (fun X C => ?_)
  refine z_aload_n (pc := 0) C dX11_next_0 0 rfl ?_
  refine z_iload_n (pc := 1) C dX11_next_1 1 rfl ?_
  refine z_cV1 (pc := 2) mX11_isMan C [_] dX11_next_2 lX11_140 mtX11_isMan (tX11_isMan (by first | assumption | omega) (by first | assumption | omega) (by first | assumption | omega)) (by assumption) rfl rfl (by decide) (Nat.le_of_ble_eq_true rfl) (Nat.zero_le _) (Nat.zero_le _) ?_
  first | refine z_ifeqB (pc := 5) C 16 dX11_next_5 (by decide) (fun hc5 => ?_) (fun hc5 => ?_) | refine z_ifeqN (pc := 5) C 16 dX11_next_5 (by decide) (by omega) (fun hc5 => ?_) (fun hc5 => ?_) | refine z_if_eq (pc := 5) C 16 dX11_next_5 (by decide) (fun hc5 => ?_) (fun hc5 => ?_)
  · skip
    refine z_aload_n (pc := 16) C dX11_next_16 0 rfl ?_
    refine z_iconst (pc := 17) C dX11_next_17 (nI 1) (by decide) ?_
    refine z_cV1 (pc := 18) mX11_refuse C [_] dX11_next_18 lX11_70 mtX11_refuse (tX11_refuse (by first | assumption | omega)) (by assumption) rfl rfl (by decide) (Nat.le_of_ble_eq_true rfl) (Nat.zero_le _) (Nat.zero_le _) ?_
    refine z_iret (pc := 21) C dX11_next_21 rfl (Nat.zero_le _) (Nat.zero_le _) ⟨?_, ?_, rfl⟩
    · simp [aNext, aMP, *]
    · simp [aNext, aMP, *] <;> rfl
  · skip
    refine z_aload_n (pc := 8) C dX11_next_8 0 rfl ?_
    refine z_iload_n (pc := 9) C dX11_next_9 2 rfl ?_
    refine z_cV1 (pc := 10) mX11_isPlace C [_] dX11_next_10 lX11_114 mtX11_isPlace (tX11_isPlace (by first | assumption | omega) (by first | assumption | omega) (by first | assumption | omega)) (by assumption) rfl rfl (by decide) (Nat.le_of_ble_eq_true rfl) (Nat.zero_le _) (Nat.zero_le _) ?_
    first | refine z_ifneB (pc := 13) C 22 dX11_next_13 (by decide) (fun hc13 => ?_) (fun hc13 => ?_) | refine z_ifneN (pc := 13) C 22 dX11_next_13 (by decide) (by omega) (fun hc13 => ?_) (fun hc13 => ?_) | refine z_if_ne (pc := 13) C 22 dX11_next_13 (by decide) (fun hc13 => ?_) (fun hc13 => ?_)
    · skip
      obtain ⟨j, hj, rfl⟩ := zlt_of (by omega) hc5
      have pj := pn_nI (j := j) (by omega)
      obtain ⟨i, hi, rfl⟩ := zlt_of (by omega) hc13
      have pi := pn_nI (j := i) (by omega)
      have e1 : S (8 * j) < R 1 := wT j hj 0 (by omega)
      refine z_aload_n (pc := 22) C dX11_next_22 0 rfl ?_
      refine z_aload_n (pc := 23) C dX11_next_23 0 rfl ?_
      refine z_getf (pc := 24) C dX11_next_24 fX11_53 (by assumption) (by first | rfl | assumption) ?_
      refine z_getf (pc := 27) C dX11_next_27 fX11_120 (by assumption) (by first | rfl | assumption) ?_
      refine z_aload_n (pc := 30) C dX11_next_30 0 rfl ?_
      refine z_getf (pc := 31) C dX11_next_31 fX11_53 (by assumption) (by first | rfl | assumption) ?_
      refine z_iload_n (pc := 34) C dX11_next_34 1 rfl ?_
      refine z_cV1 (pc := 35) mX5_at C [_] dX11_next_35 lX11_146 mtX5_at (tX5_at (by first | assumption | omega) (by first | assumption | omega) (by first | assumption | omega)) (by assumption) rfl rfl (by decide) (Nat.le_of_ble_eq_true rfl) (Nat.zero_le _) (Nat.zero_le _) ?_
      refine z_iload_n (pc := 38) C dX11_next_38 2 rfl ?_
      refine z_cS1 (pc := 39) mX10_firstStep C [_, _, _] dX11_next_39 lX11_209 mtX10_firstStep (tX10_firstStep hT hR e1 hi) rfl rfl (by decide) (Nat.le_of_ble_eq_true rfl) (Nat.zero_le _) (Nat.zero_le _) ?_
      refine z_cV1 (pc := 42) mX11_answer C [_] dX11_next_42 lX11_108 mtX11_answer (tX11_answer (by first | assumption | omega)) (by assumption) rfl rfl (by decide) (Nat.le_of_ble_eq_true rfl) (Nat.zero_le _) (Nat.zero_le _) ?_
      refine z_iret (pc := 45) C dX11_next_45 rfl (Nat.zero_le _) (Nat.zero_le _) ⟨?_, ?_, rfl⟩
      · simp [aNext, aMP, *]
      · simp [aNext, aMP, *] <;> rfl
    · skip
      refine z_aload_n (pc := 16) C dX11_next_16 0 rfl ?_
      refine z_iconst (pc := 17) C dX11_next_17 (nI 1) (by decide) ?_
      refine z_cV1 (pc := 18) mX11_refuse C [_] dX11_next_18 lX11_70 mtX11_refuse (tX11_refuse (by first | assumption | omega)) (by assumption) rfl rfl (by decide) (Nat.le_of_ble_eq_true rfl) (Nat.zero_le _) (Nat.zero_le _) ?_
      refine z_iret (pc := 21) C dX11_next_21 rfl (Nat.zero_le _) (Nat.zero_le _) ⟨?_, ?_, rfl⟩
      · simp [aNext, aMP, *]
      · simp [aNext, aMP, *] <;> rfl

set_option maxRecDepth 20000 in
set_option maxHeartbeats 1000000 in
theorem tX11_unseen {h : ZH} {st : Nat} {ic tb fa pl : Int32} {t : Nat} {R S : Nat → Nat} {m p : Int32} (hK : h 1000 = some (zO 7 (kfs st ic tb fa pl))) (hC : Scn h 1051 1052 1053 t R S) (hR : wfR R) (hS : wfS R S) : ZD mX11_unseen 4 [.ref 1000, .int m, .int p] h (some (.int (aUns R S m p).1)) (zup h 1000 (zO 7 (kfs st ic (aUns R S m p).2 fa pl))) := by
  intro n
  obtain ⟨w1, w3, w4, w5, w0, wP, wM, wK, wX⟩ := id hR
  obtain ⟨wT, wL, wB⟩ := id hS
  obtain ⟨hT, fl, ft, s0, s1, s2, rl, rt⟩ := id hC
  obtain ⟨fc, fh, fn, fk, fs, ff, fw, fe, t0, t1, t2, t3, t4, t5, t6, t7, t8, rc, rh, rn, rk, rs, rf, rv, re⟩ := id hT
  refine z_enter (lv := [(0, _), (1, _), (2, _)]) (by decide) (Nat.le_of_ble_eq_true rfl) rfl (fun X C => ?_)
  refine z_aload_n (pc := 0) C dX11_unseen_0 0 rfl ?_
  refine z_iload_n (pc := 1) C dX11_unseen_1 1 rfl ?_
  refine z_cV1 (pc := 2) mX11_isMan C [_] dX11_unseen_2 lX11_140 mtX11_isMan (tX11_isMan (by first | assumption | omega) (by first | assumption | omega) (by first | assumption | omega)) (by assumption) rfl rfl (by decide) (Nat.le_of_ble_eq_true rfl) (Nat.zero_le _) (Nat.zero_le _) ?_
  first | refine z_ifeqB (pc := 5) C 16 dX11_unseen_5 (by decide) (fun hc5 => ?_) (fun hc5 => ?_) | refine z_ifeqN (pc := 5) C 16 dX11_unseen_5 (by decide) (by omega) (fun hc5 => ?_) (fun hc5 => ?_) | refine z_if_eq (pc := 5) C 16 dX11_unseen_5 (by decide) (fun hc5 => ?_) (fun hc5 => ?_)
  · skip
    refine z_aload_n (pc := 16) C dX11_unseen_16 0 rfl ?_
    refine z_iconst (pc := 17) C dX11_unseen_17 (nI 1) (by decide) ?_
    refine z_cV1 (pc := 18) mX11_refuse C [_] dX11_unseen_18 lX11_70 mtX11_refuse (tX11_refuse (by first | assumption | omega)) (by assumption) rfl rfl (by decide) (Nat.le_of_ble_eq_true rfl) (Nat.zero_le _) (Nat.zero_le _) ?_
    refine z_iret (pc := 21) C dX11_unseen_21 rfl (Nat.zero_le _) (Nat.zero_le _) ⟨?_, ?_, rfl⟩
    · simp [aUns, aMP, *]
    · simp [aUns, aMP, *] <;> rfl
  · skip
    refine z_aload_n (pc := 8) C dX11_unseen_8 0 rfl ?_
    refine z_iload_n (pc := 9) C dX11_unseen_9 2 rfl ?_
    refine z_cV1 (pc := 10) mX11_isPlace C [_] dX11_unseen_10 lX11_114 mtX11_isPlace (tX11_isPlace (by first | assumption | omega) (by first | assumption | omega) (by first | assumption | omega)) (by assumption) rfl rfl (by decide) (Nat.le_of_ble_eq_true rfl) (Nat.zero_le _) (Nat.zero_le _) ?_
    first | refine z_ifneB (pc := 13) C 22 dX11_unseen_13 (by decide) (fun hc13 => ?_) (fun hc13 => ?_) | refine z_ifneN (pc := 13) C 22 dX11_unseen_13 (by decide) (by omega) (fun hc13 => ?_) (fun hc13 => ?_) | refine z_if_ne (pc := 13) C 22 dX11_unseen_13 (by decide) (fun hc13 => ?_) (fun hc13 => ?_)
    · skip
      obtain ⟨j, hj, rfl⟩ := zlt_of (by omega) hc5
      have pj := pn_nI (j := j) (by omega)
      obtain ⟨i, hi, rfl⟩ := zlt_of (by omega) hc13
      have pi := pn_nI (j := i) (by omega)
      have e1 : S (8 * j) < R 1 := wT j hj 0 (by omega)
      refine z_aload_n (pc := 22) C dX11_unseen_22 0 rfl ?_
      refine z_aload_n (pc := 23) C dX11_unseen_23 0 rfl ?_
      refine z_getf (pc := 24) C dX11_unseen_24 fX11_53 (by assumption) (by first | rfl | assumption) ?_
      refine z_getf (pc := 27) C dX11_unseen_27 fX11_120 (by assumption) (by first | rfl | assumption) ?_
      refine z_aload_n (pc := 30) C dX11_unseen_30 0 rfl ?_
      refine z_getf (pc := 31) C dX11_unseen_31 fX11_53 (by assumption) (by first | rfl | assumption) ?_
      refine z_iload_n (pc := 34) C dX11_unseen_34 1 rfl ?_
      refine z_cV1 (pc := 35) mX5_at C [_] dX11_unseen_35 lX11_146 mtX5_at (tX5_at (by first | assumption | omega) (by first | assumption | omega) (by first | assumption | omega)) (by assumption) rfl rfl (by decide) (Nat.le_of_ble_eq_true rfl) (Nat.zero_le _) (Nat.zero_le _) ?_
      refine z_iload_n (pc := 38) C dX11_unseen_38 2 rfl ?_
      refine z_aload_n (pc := 39) C dX11_unseen_39 0 rfl ?_
      refine z_getf (pc := 40) C dX11_unseen_40 fX11_53 (by assumption) (by first | rfl | assumption) ?_
      refine z_iload_n (pc := 43) C dX11_unseen_43 1 rfl ?_
      refine z_cV1 (pc := 44) mX5_unseenPlaces C [_] dX11_unseen_44 lX11_213 mtX5_unseenPlaces (tX5_unseenPlaces (by first | assumption | omega) (by first | assumption | omega) (by first | assumption | omega) (by first | assumption | omega)) (by assumption) rfl rfl (by decide) (Nat.le_of_ble_eq_true rfl) (Nat.zero_le _) (Nat.zero_le _) ?_
      refine z_cS1 (pc := 47) mX10_distance C [_, _, _, _] dX11_unseen_47 lX11_205 mtX10_distance (tX10_distance hT hR (by omega) (by omega)) rfl rfl (by decide) (Nat.le_of_ble_eq_true rfl) (Nat.zero_le _) (Nat.zero_le _) ?_
      rw [sdist_un hR hS j (by omega)]
      refine z_cV1 (pc := 50) mX11_answer C [_] dX11_unseen_50 lX11_108 mtX11_answer (tX11_answer (by first | assumption | omega)) (by assumption) rfl rfl (by decide) (Nat.le_of_ble_eq_true rfl) (Nat.zero_le _) (Nat.zero_le _) ?_
      refine z_iret (pc := 53) C dX11_unseen_53 rfl (Nat.zero_le _) (Nat.zero_le _) ⟨?_, ?_, rfl⟩
      · simp [aUns, aMP, *]
      · simp [aUns, aMP, *] <;> rfl
    · skip
      refine z_aload_n (pc := 16) C dX11_unseen_16 0 rfl ?_
      refine z_iconst (pc := 17) C dX11_unseen_17 (nI 1) (by decide) ?_
      refine z_cV1 (pc := 18) mX11_refuse C [_] dX11_unseen_18 lX11_70 mtX11_refuse (tX11_refuse (by first | assumption | omega)) (by assumption) rfl rfl (by decide) (Nat.le_of_ble_eq_true rfl) (Nat.zero_le _) (Nat.zero_le _) ?_
      refine z_iret (pc := 21) C dX11_unseen_21 rfl (Nat.zero_le _) (Nat.zero_le _) ⟨?_, ?_, rfl⟩
      · simp [aUns, aMP, *]
      · simp [aUns, aMP, *] <;> rfl

set_option maxRecDepth 20000 in
set_option maxHeartbeats 1000000 in
theorem tX11_fault {h : ZH} {st : Nat} {ic tb fa pl : Int32} (hK : h 1000 = some (zO 7 (kfs st ic tb fa pl))) : ZD mX11_fault 0 [.ref 1000] h (some (.int fa)) h := by
  intro n
  refine z_enter (lv := [(0, _)]) (by decide) (Nat.le_of_ble_eq_true rfl) rfl (fun X C => ?_)
  refine z_aload_n (pc := 0) C dX11_fault_0 0 rfl ?_
  refine z_getf (pc := 1) C dX11_fault_1 fX11_81 (by assumption) (by first | rfl | assumption) ?_
  refine z_iret (pc := 4) C dX11_fault_4 rfl (Nat.zero_le _) (Nat.zero_le _) ⟨?_, ?_, rfl⟩
  · first | rfl | simp_all
  · rfl

set_option maxRecDepth 20000 in
set_option maxHeartbeats 1000000 in
theorem tX11_trouble {h : ZH} {st : Nat} {ic tb fa pl : Int32} (hK : h 1000 = some (zO 7 (kfs st ic tb fa pl))) : ZD mX11_trouble 0 [.ref 1000] h (some (.int tb)) h := by
  intro n
  refine z_enter (lv := [(0, _)]) (by decide) (Nat.le_of_ble_eq_true rfl) rfl (fun X C => ?_)
  refine z_aload_n (pc := 0) C dX11_trouble_0 0 rfl ?_
  refine z_getf (pc := 1) C dX11_trouble_1 fX11_111 (by assumption) (by first | rfl | assumption) ?_
  refine z_iret (pc := 4) C dX11_trouble_4 rfl (Nat.zero_le _) (Nat.zero_le _) ⟨?_, ?_, rfl⟩
  · first | rfl | simp_all
  · rfl
