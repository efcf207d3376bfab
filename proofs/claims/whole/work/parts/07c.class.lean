theorem zo_max {o : Option Nat} {a : Nat} (ha : a < 2147483648) (ho : ∀ k, o = some k → k < 2147483648) : (if nI a < zo o then zo o else nI a) = nI (max a (o.getD 0)) := by
  by_cases h : zo o ≤ nI a
  · rw [if_neg (Int32.not_lt.mpr h), Nat.max_eq_left ((zo_le ha ho).mp h)]
  · obtain ⟨q, rfl, hq⟩ := zo_gt ha ho h
    rw [if_pos (Int32.not_le.mp h)]
    show nI q = nI (max a q)
    rw [Nat.max_eq_right (by omega)]
theorem max0 {a b : Nat} (ha : a < 1073741824) (hb : b < 1073741824) : (if nI 0 < nI a - nI b then nI a - nI b else nI 0) = nI (a - b) := by
  by_cases h : b < a
  · rw [pk_sub (by omega), if_pos ((nI_ltI (by omega) (by omega)).mpr (by omega))]
  · rw [if_neg]
    · rw [show a - b = 0 by omega]
    · intro z
      rw [Int32.lt_iff_toInt_lt, pk_sub_toInt (by omega) (by omega), show (nI 0).toInt = 0 from rfl] at z
      omega
theorem zo_npos {o : Option Nat} (ho : ∀ k, o = some k → k < 2147483648) (h : zo o ≤ 0) : o = none ∨ o = some 0 := by
  cases o with
  | none => exact Or.inl rfl
  | some k =>
    have := (zo_le (o := some k) (a := 0) (by decide) ho).mp h
    exact Or.inr (by rw [show k = 0 from Nat.le_zero.mp this])
theorem zo_pos {o : Option Nat} (ho : ∀ k, o = some k → k < 2147483648) (h : ¬ zo o ≤ 0) : ∃ d, o = some (d + 1) := by
  obtain ⟨q, rfl, hq⟩ := zo_gt (a := 0) (by decide) ho h
  exact ⟨q - 1, by rw [show q - 1 + 1 = q by omega]⟩
theorem zm_le {u : Option Nat} {a : Nat} (ha : a < 2147483648) (hu : ∀ w, u = some w → w < 2147483648) : nI a ≤ zm u ↔ ∃ w, u = some w ∧ a ≤ w := by
  cases u with
  | none =>
    constructor
    · intro z
      rw [Int32.le_iff_toInt_le, nI_toInt (by omega), show (zm none).toInt = -1 from by decide] at z
      omega
    · rintro ⟨w, h, -⟩; cases h
  | some w =>
    constructor
    · intro z; exact ⟨w, rfl, (nI_leI (by omega) (by have := hu w rfl; omega)).mp z⟩
    · rintro ⟨w', h, h2⟩; cases h; exact (nI_leI (by omega) (by have := hu w rfl; omega)).mpr h2
theorem sStp_7 {R : Nat → Nat} (hR : wfR R) {p q op r : Nat} (hp : p < 7) (h : sStp R p q op = some r) : r < 7 := by
  rw [← sstp_78 hR op q hp] at h
  have := sstp_lt R op q 7 0 _ _ h
  omega
def sDo (R S : Nat → Nat) (m k : Nat) : Option Nat := match sstd R S k with
  | none => none
  | some p => sStp R (S (8 * m)) p 127
theorem sDis_o (R S : Nat → Nat) (m k : Nat) : sDis R S m k = (sDo R S m k).getD 1000000 := by
  unfold sDis sDo
  cases sstd R S k <;> rfl
def sn7 (R S : Nat → Nat) (m : Nat) : Nat → Nat
  | 0 => 7
  | k + 1 => match sDo R S m k with
    | some d => min (sn7 R S m k) d
    | none => sn7 R S m k
theorem sn7_le (R S : Nat → Nat) (m : Nat) : ∀ k, sn7 R S m k ≤ 7 := by
  intro k
  induction k with
  | zero => exact Nat.le_refl _
  | succ k ih => rw [sn7]; split <;> omega
theorem sDo_lt {R S : Nat → Nat} (hR : wfR R) (hS : wfS R S) {m k d : Nat} (hm : m < R 3) (h : sDo R S m k = some d) : d < 7 := by
  unfold sDo at h
  split at h
  · cases h
  · have h1 : S (8 * m) < R 1 := hS.1 m hm 0 (by omega)
    have h2 := hR.1
    exact sStp_7 hR (by omega) h

set_option maxRecDepth 20000 in
set_option maxHeartbeats 1000000 in
theorem tX10_farthest {h : ZH} {t : Nat} {R : Nat → Nat} {p : Nat} (hT : Tld h t R) (hR : wfR R) (hp : p < 7) : ZD mX10_farthest 3 [.ref t, .int (nI p)] h (some (.int (nI (sfar R p (R 1))))) h := by
  intro n
  obtain ⟨w1, w3, w4, w5, w0, wP, wM, wK, wX⟩ := id hR
  obtain ⟨fc, fh, fn, fk, fs, ff, fw, fe, t0, t1, t2, t3, t4, t5, t6, t7, t8, rc, rh, rn, rk, rs, rf, rv, re⟩ := id hT
  refine z_enter (lv := [(0, _), (1, _)]) (by decide) (Nat.le_of_ble_eq_true rfl) rfl (fun X C => ?_)
  refine z_iconst (pc := 0) C dX10_farthest_0 (nI 0) (by decide) ?_
  refine z_istore_n (pc := 1) (lv' := [(2, _), (0, _), (1, _)]) C dX10_farthest_1 (by decide) rfl ?_
  refine z_iconst (pc := 2) C dX10_farthest_2 (nI 0) (by decide) ?_
  refine z_istore_n (pc := 3) (lv' := [(3, _), (2, _), (0, _), (1, _)]) C dX10_farthest_3 (by decide) rfl ?_
  refine z_sub (lv' := [(0, _), (1, _), (2, _), (3, _)]) [2, 3, 1, 0] rfl ?_
  have lp4 : ∀ (f : Nat) (k acc : Nat), (k + f = R 1 ∧ acc = sfar R p k) → Zc X mX10_farthest (zEnd X (fun r hh n' => r = (some (.int (nI (sfar R p (R 1))))) ∧ hh = h ∧ n' = n) 0 0) 4 [(0, .ref t), (1, .int (nI p)), (2, .int (nI acc)), (3, .int (nI k))] [] h n 0 0 := by
    intro f
    induction f using Nat.strongRecOn with
    | _ f ih =>
      intro k acc hk
      obtain ⟨hk, he⟩ := hk
      have e0 := sfar_lt R p k
      have e1 : ∀ r, sStp R p k 127 = some r → r < 2147483648 := fun r hr => by have := sStp_lt hr; omega
      refine z_iload_n (pc := 4) C dX10_farthest_4 3 rfl ?_
      refine z_aload_n (pc := 5) C dX10_farthest_5 0 rfl ?_
      refine z_getf (pc := 6) C dX10_farthest_6 fX10_9 (by assumption) (by first | rfl | assumption) ?_
      refine z_iconst (pc := 9) C dX10_farthest_9 (nI 1) (by decide) ?_
      refine z_ialdE (pc := 10) C dX10_farthest_10 (by assumption) (by omega) (by decide) (rc 1 (by decide) (by decide)) ?_
      first | refine z_icmpgeN (pc := 11) C 35 dX10_farthest_11 (by decide) (by omega) (by omega) (fun hc11 => ?_) (fun hc11 => ?_) | refine z_icmp_ge (pc := 11) C 35 dX10_farthest_11 (by decide) (fun hc11 => ?_) (fun hc11 => ?_)
      · skip
        refine z_iload_n (pc := 35) C dX10_farthest_35 2 rfl ?_
        refine z_iret (pc := 36) C dX10_farthest_36 rfl (Nat.zero_le _) (Nat.zero_le _) ⟨?_, ?_, rfl⟩
        · obtain rfl : f = 0 := (by omega); obtain rfl : k = R 1 := (by omega); rw [he] <;> rfl
        · rfl
      · skip
        refine z_iload_n (pc := 14) C dX10_farthest_14 2 rfl ?_
        refine z_aload_n (pc := 15) C dX10_farthest_15 0 rfl ?_
        refine z_iload_n (pc := 16) C dX10_farthest_16 1 rfl ?_
        refine z_iload_n (pc := 17) C dX10_farthest_17 3 rfl ?_
        refine z_aload_n (pc := 18) C dX10_farthest_18 0 rfl ?_
        refine z_cS1 (pc := 19) mX10_all C [_] dX10_farthest_19 lX10_28 mtX10_all (tX10_all (by first | assumption | omega) (by first | assumption | omega)) rfl rfl (by decide) (Nat.le_of_ble_eq_true rfl) (Nat.zero_le _) (Nat.zero_le _) ?_
        refine z_cS1 (pc := 22) mX10_distance C [_, _, _, _] dX10_farthest_22 lX10_32 mtX10_distance (tX10_distance hT hR (by omega) (by omega)) rfl rfl (by decide) (Nat.le_of_ble_eq_true rfl) (Nat.zero_le _) (Nat.zero_le _) ?_
        rw [sdist_all hR hp]
        refine z_mmax (pc := 25) C dX10_farthest_25 lX10_45 zw_mx_s zw_mi zw_mx_c (by decide) (Nat.le_of_ble_eq_true rfl) (Nat.zero_le _) (Nat.zero_le _) ?_
        rw [zo_max (by omega) e1]
        refine z_istore_n (pc := 28) (lv' := [(2, _), (0, _), (1, _), (3, _)]) C dX10_farthest_28 (by decide) rfl ?_
        first | refine z_iincN (pc := 29) (lv' := [(3, _), (2, _), (0, _), (1, _)]) C 1 dX10_farthest_29 3 rfl (by decide) (by decide) rfl ?_ | refine z_iinc (pc := 29) (lv' := [(3, _), (2, _), (0, _), (1, _)]) C dX10_farthest_29 3 rfl _ rfl (by decide) rfl ?_
        refine z_goto (pc := 32) C 4 dX10_farthest_32 (by decide) ?_
        refine z_sub (lv' := [(0, _), (1, _), (2, _), (3, _)]) [2, 3, 1, 0] rfl ?_
        exact ih (f - 1) (by omega) (k + 1) _ ⟨by omega, by rw [he]; rfl⟩
  exact lp4 (R 1) 0 0 ⟨by omega, rfl⟩

set_option maxRecDepth 20000 in
set_option maxHeartbeats 1000000 in
theorem tX10_mostCentral {h : ZH} {t : Nat} {R : Nat → Nat} (hT : Tld h t R) (hR : wfR R) (h1 : 0 < R 1) : ZD mX10_mostCentral 4 [.ref t] h (some (.int (nI (sask (fun p => sfar R p (R 1)) (R 1))))) h := by
  intro n
  obtain ⟨w1, w3, w4, w5, w0, wP, wM, wK, wX⟩ := id hR
  obtain ⟨fc, fh, fn, fk, fs, ff, fw, fe, t0, t1, t2, t3, t4, t5, t6, t7, t8, rc, rh, rn, rk, rs, rf, rv, re⟩ := id hT
  refine z_enter (lv := [(0, _)]) (by decide) (Nat.le_of_ble_eq_true rfl) rfl (fun X C => ?_)
  refine z_iconst (pc := 0) C dX10_mostCentral_0 (nI 0) (by decide) ?_
  refine z_istore_n (pc := 1) (lv' := [(1, _), (0, _)]) C dX10_mostCentral_1 (by decide) rfl ?_
  refine z_iconst (pc := 2) C dX10_mostCentral_2 (nI 1) (by decide) ?_
  refine z_istore_n (pc := 3) (lv' := [(2, _), (1, _), (0, _)]) C dX10_mostCentral_3 (by decide) rfl ?_
  refine z_sub (lv' := [(0, _), (1, _), (2, _)]) [2, 1, 0] rfl ?_
  have lp4 : ∀ (f : Nat) (k u : Nat), (k + f = R 1 ∧ 0 < k ∧ u = sask (fun p => sfar R p (R 1)) k) → Zc X mX10_mostCentral (zEnd X (fun r hh n' => r = (some (.int (nI (sask (fun p => sfar R p (R 1)) (R 1))))) ∧ hh = h ∧ n' = n) 0 0) 4 [(0, .ref t), (1, .int (nI u)), (2, .int (nI k))] [] h n 0 0 := by
    intro f
    induction f using Nat.strongRecOn with
    | _ f ih =>
      intro k u hk
      obtain ⟨hk, hk0, he⟩ := hk
      have e1 := sask_lt (fun p => sfar R p (R 1)) k hk0
      have e2 := sfar_lt R k (R 1)
      have e3 := sfar_lt R u (R 1)
      refine z_iload_n (pc := 4) C dX10_mostCentral_4 2 rfl ?_
      refine z_aload_n (pc := 5) C dX10_mostCentral_5 0 rfl ?_
      refine z_getf (pc := 6) C dX10_mostCentral_6 fX10_9 (by assumption) (by first | rfl | assumption) ?_
      refine z_iconst (pc := 9) C dX10_mostCentral_9 (nI 1) (by decide) ?_
      refine z_ialdE (pc := 10) C dX10_mostCentral_10 (by assumption) (by omega) (by decide) (rc 1 (by decide) (by decide)) ?_
      first | refine z_icmpgeN (pc := 11) C 35 dX10_mostCentral_11 (by decide) (by omega) (by omega) (fun hc11 => ?_) (fun hc11 => ?_) | refine z_icmp_ge (pc := 11) C 35 dX10_mostCentral_11 (by decide) (fun hc11 => ?_) (fun hc11 => ?_)
      · skip
        refine z_iload_n (pc := 35) C dX10_mostCentral_35 1 rfl ?_
        refine z_iret (pc := 36) C dX10_mostCentral_36 rfl (Nat.zero_le _) (Nat.zero_le _) ⟨?_, ?_, rfl⟩
        · obtain rfl : f = 0 := (by omega); obtain rfl : k = R 1 := (by omega); rw [he] <;> rfl
        · rfl
      · skip
        refine z_aload_n (pc := 14) C dX10_mostCentral_14 0 rfl ?_
        refine z_iload_n (pc := 15) C dX10_mostCentral_15 2 rfl ?_
        refine z_cS1 (pc := 16) mX10_farthest C [_, _] dX10_mostCentral_16 lX10_51 mtX10_farthest (tX10_farthest (by first | assumption | omega) (by first | assumption | omega) (by first | assumption | omega)) rfl rfl (by decide) (Nat.le_of_ble_eq_true rfl) (Nat.zero_le _) (Nat.zero_le _) ?_
        refine z_aload_n (pc := 19) C dX10_mostCentral_19 0 rfl ?_
        refine z_iload_n (pc := 20) C dX10_mostCentral_20 1 rfl ?_
        refine z_cS1 (pc := 21) mX10_farthest C [_, _] dX10_mostCentral_21 lX10_51 mtX10_farthest (tX10_farthest (by first | assumption | omega) (by first | assumption | omega) (by first | assumption | omega)) rfl rfl (by decide) (Nat.le_of_ble_eq_true rfl) (Nat.zero_le _) (Nat.zero_le _) ?_
        first | refine z_icmpgeN (pc := 24) C 29 dX10_mostCentral_24 (by decide) (by omega) (by omega) (fun hc24 => ?_) (fun hc24 => ?_) | refine z_icmp_ge (pc := 24) C 29 dX10_mostCentral_24 (by decide) (fun hc24 => ?_) (fun hc24 => ?_)
        · skip
          first | refine z_iincN (pc := 29) (lv' := [(2, _), (0, _), (1, _)]) C 1 dX10_mostCentral_29 2 rfl (by decide) (by decide) rfl ?_ | refine z_iinc (pc := 29) (lv' := [(2, _), (0, _), (1, _)]) C dX10_mostCentral_29 2 rfl _ rfl (by decide) rfl ?_
          refine z_goto (pc := 32) C 4 dX10_mostCentral_32 (by decide) ?_
          refine z_sub (lv' := [(0, _), (1, _), (2, _)]) [1, 2, 0] rfl ?_
          exact ih (f - 1) (by omega) (k + 1) _ ⟨by omega, by omega, by rw [sask, if_neg (by omega), ← he]; first | (rw [if_neg (Nat.not_lt.mpr hc24)]; done) | (rw [if_pos hc24]; done)⟩
        · skip
          refine z_iload_n (pc := 27) C dX10_mostCentral_27 2 rfl ?_
          refine z_istore_n (pc := 28) (lv' := [(1, _), (0, _), (2, _)]) C dX10_mostCentral_28 (by decide) rfl ?_
          first | refine z_iincN (pc := 29) (lv' := [(2, _), (1, _), (0, _)]) C 1 dX10_mostCentral_29 2 rfl (by decide) (by decide) rfl ?_ | refine z_iinc (pc := 29) (lv' := [(2, _), (1, _), (0, _)]) C dX10_mostCentral_29 2 rfl _ rfl (by decide) rfl ?_
          refine z_goto (pc := 32) C 4 dX10_mostCentral_32 (by decide) ?_
          refine z_sub (lv' := [(0, _), (1, _), (2, _)]) [2, 1, 0] rfl ?_
          exact ih (f - 1) (by omega) (k + 1) _ ⟨by omega, by omega, by rw [sask, if_neg (by omega), ← he]; first | (rw [if_neg (Nat.not_lt.mpr hc24)]; done) | (rw [if_pos hc24]; done)⟩
  exact lp4 (R 1 - 1) 1 0 ⟨by omega, by omega, rfl⟩

set_option maxRecDepth 20000 in
set_option maxHeartbeats 1000000 in
theorem tX10_firstStep {h : ZH} {t : Nat} {R : Nat → Nat} {p q : Nat} (hT : Tld h t R) (hR : wfR R) (hp : p < R 1) (hq : q < R 1) : ZD mX10_firstStep 3 [.ref t, .int (nI p), .int (nI q)] h (some (.int (zo (sNxt R p q)))) h := by
  intro n
  obtain ⟨w1, w3, w4, w5, w0, wP, wM, wK, wX⟩ := id hR
  obtain ⟨fc, fh, fn, fk, fs, ff, fw, fe, t0, t1, t2, t3, t4, t5, t6, t7, t8, rc, rh, rn, rk, rs, rf, rv, re⟩ := id hT
  have ew := (wP p hp).2.1
  have e1 : ∀ x r, sStp R x q 127 = some r → r < 2147483648 := fun x r hr => by have := sStp_lt hr; omega
  refine z_enter (lv := [(0, _), (1, _), (2, _)]) (by decide) (Nat.le_of_ble_eq_true rfl) rfl (fun X C => ?_)
  refine z_aload_n (pc := 0) C dX10_firstStep_0 0 rfl ?_
  refine z_iload_n (pc := 1) C dX10_firstStep_1 1 rfl ?_
  refine z_iload_n (pc := 2) C dX10_firstStep_2 2 rfl ?_
  refine z_aload_n (pc := 3) C dX10_firstStep_3 0 rfl ?_
  refine z_cS1 (pc := 4) mX10_all C [_] dX10_firstStep_4 lX10_28 mtX10_all (tX10_all (by first | assumption | omega) (by first | assumption | omega)) rfl rfl (by decide) (Nat.le_of_ble_eq_true rfl) (Nat.zero_le _) (Nat.zero_le _) ?_
  refine z_cS1 (pc := 7) mX10_distance C [_, _, _, _] dX10_firstStep_7 lX10_32 mtX10_distance (tX10_distance hT hR (by omega) (by omega)) rfl rfl (by decide) (Nat.le_of_ble_eq_true rfl) (Nat.zero_le _) (Nat.zero_le _) ?_
  rw [sdist_all hR (by omega)]
  refine z_istore_n (pc := 10) (lv' := [(3, _), (0, _), (1, _), (2, _)]) C dX10_firstStep_10 (by decide) rfl ?_
  refine z_iconst (pc := 11) C dX10_firstStep_11 (nI 0) (by decide) ?_
  refine z_istore (pc := 12) (lv' := [(4, _), (3, _), (0, _), (1, _), (2, _)]) C dX10_firstStep_12 (by decide) rfl ?_
  refine z_sub (lv' := [(0, _), (1, _), (2, _), (3, _), (4, _)]) [2, 3, 4, 1, 0] rfl ?_
  have lp14 : ∀ (f : Nat) (k : Nat), (k + f = R 1 ∧ ∀ d, sStp R p q 127 = some (d + 1) → sfst (fun x => (R (23 + p)).testBit x && decide (sStp R x q 127 = some d)) (R 1) 0 = sfst (fun x => (R (23 + p)).testBit x && decide (sStp R x q 127 = some d)) f k) → Zc X mX10_firstStep (zEnd X (fun r hh n' => r = (some (.int (zo (sNxt R p q)))) ∧ hh = h ∧ n' = n) 0 0) 14 [(0, .ref t), (1, .int (nI p)), (2, .int (nI q)), (3, .int (zo (sStp R p q 127))), (4, .int (nI k))] [] h n 0 0 := by
    intro f
    induction f using Nat.strongRecOn with
    | _ f ih =>
      intro k hk
      obtain ⟨hk, he⟩ := hk
      refine z_iload (pc := 14) C dX10_firstStep_14 4 rfl ?_
      refine z_aload_n (pc := 16) C dX10_firstStep_16 0 rfl ?_
      refine z_getf (pc := 17) C dX10_firstStep_17 fX10_9 (by assumption) (by first | rfl | assumption) ?_
      refine z_iconst (pc := 20) C dX10_firstStep_20 (nI 1) (by decide) ?_
      refine z_ialdE (pc := 21) C dX10_firstStep_21 (by assumption) (by omega) (by decide) (rc 1 (by decide) (by decide)) ?_
      first | refine z_icmpgeN (pc := 22) C 69 dX10_firstStep_22 (by decide) (by omega) (by omega) (fun hc22 => ?_) (fun hc22 => ?_) | refine z_icmp_ge (pc := 22) C 69 dX10_firstStep_22 (by decide) (fun hc22 => ?_) (fun hc22 => ?_)
      · skip
        have e6 : sNxt R p q = none := by
          unfold sNxt
          cases hd : sStp R p q 127 with
          | none => rfl
          | some x =>
            cases x with
            | zero => rfl
            | succ d =>
              obtain rfl : f = 0 := (by omega)
              exact he d hd
        refine z_bipush (pc := 69) C dX10_firstStep_69 (-2) (by decide) ?_
        refine z_iret (pc := 71) C dX10_firstStep_71 rfl (Nat.zero_le _) (Nat.zero_le _) ⟨?_, ?_, rfl⟩
        · rw [e6]; rfl
        · rfl
      · skip
        refine z_iload_n (pc := 25) C dX10_firstStep_25 3 rfl ?_
        refine z_if_le (pc := 26) C 69 dX10_firstStep_26 (by decide) (fun hc26 => ?_) (fun hc26 => ?_)
        · skip
          have e6 : sNxt R p q = none := by
            unfold sNxt
            rcases zo_npos (e1 p) hc26 with z | z <;> rw [z]
          refine z_bipush (pc := 69) C dX10_firstStep_69 (-2) (by decide) ?_
          refine z_iret (pc := 71) C dX10_firstStep_71 rfl (Nat.zero_le _) (Nat.zero_le _) ⟨?_, ?_, rfl⟩
          · rw [e6]; rfl
          · rfl
        · skip
          obtain ⟨d, hd⟩ := zo_pos (e1 p) hc26
          have e9 := sStp_lt hd
          refine z_aload_n (pc := 29) C dX10_firstStep_29 0 rfl ?_
          refine z_getf (pc := 30) C dX10_firstStep_30 fX10_19 (by assumption) (by first | rfl | assumption) ?_
          refine z_iload_n (pc := 33) C dX10_firstStep_33 1 rfl ?_
          refine z_ialdE (pc := 34) C dX10_firstStep_34 (by assumption) (by omega) (by decide) (rn p hp) ?_
          refine z_iload (pc := 35) C dX10_firstStep_35 4 rfl ?_
          refine z_cSN1 (pc := 37) mX11_has C [_, _] dX10_firstStep_37 lX10_15 mtX11_has (tX11_has (by first | assumption | omega) (by first | assumption | omega)) rfl rfl (by decide) (Nat.le_of_ble_eq_true rfl) (Nat.zero_le _) (Nat.zero_le _) ?_
          first | refine z_ifeqB (pc := 40) C 63 dX10_firstStep_40 (by decide) (fun hc40 => ?_) (fun hc40 => ?_) | refine z_ifeqN (pc := 40) C 63 dX10_firstStep_40 (by decide) (by omega) (fun hc40 => ?_) (fun hc40 => ?_) | refine z_if_eq (pc := 40) C 63 dX10_firstStep_40 (by decide) (fun hc40 => ?_) (fun hc40 => ?_)
          · skip
            have e8 : (R (23 + p)).testBit k = true → ¬ sStp R k q 127 = some d := fun z => by rw [hc40] at z; cases z
            first | refine z_iincN (pc := 63) (lv' := [(4, _), (0, _), (1, _), (2, _), (3, _)]) C 1 dX10_firstStep_63 4 rfl (by decide) (by decide) rfl ?_ | refine z_iinc (pc := 63) (lv' := [(4, _), (0, _), (1, _), (2, _), (3, _)]) C dX10_firstStep_63 4 rfl _ rfl (by decide) rfl ?_
            refine z_goto (pc := 66) C 14 dX10_firstStep_66 (by decide) ?_
            refine z_sub (lv' := [(0, _), (1, _), (2, _), (3, _), (4, _)]) [1, 2, 3, 4, 0] rfl ?_
            exact ih (f - 1) (by omega) (k + 1) ⟨by omega, fun d2 h2 => by rw [hd] at h2; cases h2; rw [he d hd]; obtain ⟨f, rfl⟩ : ∃ g, f = g + 1 := ⟨f - 1, by omega⟩; rw [sfst, if_neg (by simpa using e8)]; rfl⟩
          · skip
            refine z_aload_n (pc := 43) C dX10_firstStep_43 0 rfl ?_
            refine z_iload (pc := 44) C dX10_firstStep_44 4 rfl ?_
            refine z_iload_n (pc := 46) C dX10_firstStep_46 2 rfl ?_
            refine z_aload_n (pc := 47) C dX10_firstStep_47 0 rfl ?_
            refine z_cS1 (pc := 48) mX10_all C [_] dX10_firstStep_48 lX10_28 mtX10_all (tX10_all (by first | assumption | omega) (by first | assumption | omega)) rfl rfl (by decide) (Nat.le_of_ble_eq_true rfl) (Nat.zero_le _) (Nat.zero_le _) ?_
            refine z_cS1 (pc := 51) mX10_distance C [_, _, _, _] dX10_firstStep_51 lX10_32 mtX10_distance (tX10_distance hT hR (by omega) (by omega)) rfl rfl (by decide) (Nat.le_of_ble_eq_true rfl) (Nat.zero_le _) (Nat.zero_le _) ?_
            rw [sdist_all hR (by omega)]
            refine z_iload_n (pc := 54) C dX10_firstStep_54 3 rfl ?_
            refine z_top (show zo (sStp R p q 127) = nI (d + 1) from by rw [hd]; rfl) ?_
            refine z_iconst (pc := 55) C dX10_firstStep_55 (nI 1) (by decide) ?_
            first | refine z_isubN (pc := 56) C dX10_firstStep_56 (by omega) ?_ | refine z_isub (pc := 56) C dX10_firstStep_56 ?_
            refine z_icmp_ne (pc := 57) C 63 dX10_firstStep_57 (by decide) (fun hc57 => ?_) (fun hc57 => ?_)
            · skip
              have e8 : (R (23 + p)).testBit k = true → ¬ sStp R k q 127 = some d := fun _ z => hc57 ((zo_eq (by omega) (e1 k)).mpr z)
              first | refine z_iincN (pc := 63) (lv' := [(4, _), (0, _), (1, _), (2, _), (3, _)]) C 1 dX10_firstStep_63 4 rfl (by decide) (by decide) rfl ?_ | refine z_iinc (pc := 63) (lv' := [(4, _), (0, _), (1, _), (2, _), (3, _)]) C dX10_firstStep_63 4 rfl _ rfl (by decide) rfl ?_
              refine z_goto (pc := 66) C 14 dX10_firstStep_66 (by decide) ?_
              refine z_sub (lv' := [(0, _), (1, _), (2, _), (3, _), (4, _)]) [1, 2, 3, 4, 0] rfl ?_
              exact ih (f - 1) (by omega) (k + 1) ⟨by omega, fun d2 h2 => by rw [hd] at h2; cases h2; rw [he d hd]; obtain ⟨f, rfl⟩ : ∃ g, f = g + 1 := ⟨f - 1, by omega⟩; rw [sfst, if_neg (by simpa using e8)]; rfl⟩
            · skip
              have e7 := (zo_eq (by omega) (e1 k)).mp hc57
              refine z_iload (pc := 60) C dX10_firstStep_60 4 rfl ?_
              refine z_iret (pc := 62) C dX10_firstStep_62 rfl (Nat.zero_le _) (Nat.zero_le _) ⟨?_, ?_, rfl⟩
              · unfold sNxt; rw [hd]; show _ = some (Value.int (zo (sfst _ _ _))); rw [he d hd]; obtain ⟨f, rfl⟩ : ∃ g, f = g + 1 := ⟨f - 1, by omega⟩; rw [sfst, if_pos (by simp [hc40, show sStp R k q 127 = some d from e7])]; rfl
              · rfl
  exact lp14 (R 1) 0 ⟨by omega, fun _ _ => rfl⟩

set_option maxRecDepth 20000 in
set_option maxHeartbeats 1000000 in
theorem tX12_next {h : ZH} {v : Nat → Int32} {R S : Nat → Nat} {b : Bool} {m p : Int32} (hM : h 1063 = some (zO 8 (mfs v))) (hA : h 1066 = some (zI 241 R)) (hB : h 1070 = some (zI 40 S)) (hR : wfR R) (hS : wfS R S) (hF : v 14 = zb b) (hb : wfB b R) : ZD mX12_next 3 [.ref 1063, .int m, .int p] h (some (.int (aNext R S m p).1)) (zup h 1063 (zO 8 (mfs (mv v (aNext R S m p).2)))) := by
  intro n
  obtain ⟨w1, w3, w4, w5, w0, wP, wM, wK, wX⟩ := id hR
  obtain ⟨wT, wL, wB⟩ := id hS
  refine z_enter (lv := [(0, _), (1, _), (2, _)]) (by decide) (Nat.le_of_ble_eq_true rfl) rfl (fun X C => ?_)
  refine z_aload_n (pc := 0) C dX12_next_0 0 rfl ?_
  refine z_cV0 (pc := 1) mX12_good C [] dX12_next_1 lX12_167 mtX12_good (tX12_good (by first | assumption | omega)) (by assumption) rfl rfl (by decide) (Nat.le_of_ble_eq_true rfl) (Nat.zero_le _) (Nat.zero_le _) ?_
  have hM1 : zup h 1063 (zO 8 (mfs (upd (upd v 0 0) 11 0))) 1063 = some (zO 8 (mfs (upd (upd v 0 0) 11 0))) := zup_same _ _ _
  have hA1 : zup h 1063 (zO 8 (mfs (upd (upd v 0 0) 11 0))) 1066 = some (zI 241 R) := (zup_ne (by decide)).trans hA
  have hB1 : zup h 1063 (zO 8 (mfs (upd (upd v 0 0) 11 0))) 1070 = some (zI 40 S) := (zup_ne (by decide)).trans hB
  have hF1 : upd (upd v 0 0) 11 0 14 = zb b := hF
  generalize hg : zup h 1063 (zO 8 (mfs (upd (upd v 0 0) 11 0))) = h1 at hM1 hA1 hB1 ⊢
  refine z_aload_n (pc := 4) C dX12_next_4 0 rfl ?_
  refine z_iload_n (pc := 5) C dX12_next_5 1 rfl ?_
  refine z_cV1 (pc := 6) mX12_isMan C [_] dX12_next_6 lX12_288 mtX12_isMan (tX12_isMan (by first | assumption | omega) (by first | assumption | omega) (by first | assumption | omega) (by first | assumption | omega)) (by assumption) rfl rfl (by decide) (Nat.le_of_ble_eq_true rfl) (Nat.zero_le _) (Nat.zero_le _) ?_
  rw [wfB_m hb m]
  first | refine z_ifeqB (pc := 9) C 20 dX12_next_9 (by decide) (fun hc9 => ?_) (fun hc9 => ?_) | refine z_ifeqN (pc := 9) C 20 dX12_next_9 (by decide) (by omega) (fun hc9 => ?_) (fun hc9 => ?_) | refine z_if_eq (pc := 9) C 20 dX12_next_9 (by decide) (fun hc9 => ?_) (fun hc9 => ?_)
  · skip
    refine z_aload_n (pc := 20) C dX12_next_20 0 rfl ?_
    refine z_iconst (pc := 21) C dX12_next_21 (nI 1) (by decide) ?_
    refine z_cV1 (pc := 22) mX12_no C [_] dX12_next_22 lX12_170 mtX12_no (tX12_no (by first | assumption | omega)) (by assumption) rfl rfl (by decide) (Nat.le_of_ble_eq_true rfl) (Nat.zero_le _) (Nat.zero_le _) ?_
    refine z_iret (pc := 25) C dX12_next_25 rfl (Nat.zero_le _) (Nat.zero_le _) ⟨?_, ?_, rfl⟩
    · simp [aNext, aMP, *]
    · first | exact mz0 hg (by simp [aNext, aMP, *]) | exact mz1 hg (by simp [aNext, aMP, *] <;> rfl)
  · skip
    refine z_aload_n (pc := 12) C dX12_next_12 0 rfl ?_
    refine z_iload_n (pc := 13) C dX12_next_13 2 rfl ?_
    refine z_cV1 (pc := 14) mX12_isPlace C [_] dX12_next_14 lX12_279 mtX12_isPlace (tX12_isPlace (by first | assumption | omega) (by first | assumption | omega) (by first | assumption | omega) (by first | assumption | omega)) (by assumption) rfl rfl (by decide) (Nat.le_of_ble_eq_true rfl) (Nat.zero_le _) (Nat.zero_le _) ?_
    rw [wfB_p hb p]
    first | refine z_ifneB (pc := 17) C 26 dX12_next_17 (by decide) (fun hc17 => ?_) (fun hc17 => ?_) | refine z_ifneN (pc := 17) C 26 dX12_next_17 (by decide) (by omega) (fun hc17 => ?_) (fun hc17 => ?_) | refine z_if_ne (pc := 17) C 26 dX12_next_17 (by decide) (fun hc17 => ?_) (fun hc17 => ?_)
    · skip
      obtain ⟨j, hj, rfl⟩ := zlt_of (by omega) hc9
      have pj := pn_nI (j := j) (by omega)
      obtain ⟨i, hi, rfl⟩ := zlt_of (by omega) hc17
      have pi := pn_nI (j := i) (by omega)
      have e0 : S (8 * j) < R 1 := wT j hj 0 (by omega)
      have e2 := (wP _ e0).2.1
      have e1 : ∀ x r, sStp R x i 127 = some r → r < 2147483648 := fun x r hr => by have := sStp_lt hr; omega
      refine z_aload_n (pc := 26) C dX12_next_26 0 rfl ?_
      refine z_getf (pc := 27) C dX12_next_27 fX12_32 (by assumption) (by first | rfl | assumption) ?_
      refine z_bipush (pc := 30) C dX12_next_30 (nI 8) (by decide) ?_
      refine z_iload_n (pc := 32) C dX12_next_32 1 rfl ?_
      first | refine z_imulN (pc := 33) C dX12_next_33 ?_ | refine z_imul (pc := 33) C dX12_next_33 ?_
      first | refine z_ialdN (pc := 34) C dX12_next_34 (by assumption) (by omega) (by decide) ?_ | refine z_ialdI (pc := 34) C dX12_next_34 (by assumption) (by omega) (by decide) ?_
      refine z_istore_n (pc := 35) (lv' := [(3, _), (0, _), (1, _), (2, _)]) C dX12_next_35 (by decide) rfl ?_
      refine z_aload_n (pc := 36) C dX12_next_36 1 rfl ?_
      refine z_iload_n (pc := 37) C dX12_next_37 0 rfl ?_
      refine z_iload_n (pc := 38) C dX12_next_38 3 rfl ?_
      refine z_iconst (pc := 39) C dX12_next_39 (nI 0) (by decide) ?_
      refine z_cV1 (pc := 40) mX12_stepsTo C [_, _, _] dX12_next_40 lX12_310 mtX12_stepsTo (tX12_stepsTo (b := 0) hM1 hA1 hR (by omega) (by omega) (by decide)) (by assumption) rfl rfl (by decide) (Nat.le_of_ble_eq_true rfl) (Nat.zero_le _) (Nat.zero_le _) ?_
      refine z_istore (pc := 43) (lv' := [(4, _), (3, _), (0, _), (1, _), (2, _)]) C dX12_next_43 (by decide) rfl ?_
      refine z_iconst (pc := 45) C dX12_next_45 (nI 0) (by decide) ?_
      refine z_istore (pc := 46) (lv' := [(5, _), (4, _), (3, _), (0, _), (1, _), (2, _)]) C dX12_next_46 (by decide) rfl ?_
      refine z_sub (lv' := [(0, _), (1, _), (2, _), (3, _), (4, _), (5, _)]) [3, 4, 5, 2, 1, 0] rfl ?_
      have lp48 : ∀ (f : Nat) (k : Nat), (k + f = R 1 ∧ ∀ d, sStp R (S (8 * j)) i 127 = some (d + 1) → sfst (fun x => (R (23 + S (8 * j))).testBit x && decide (sStp R x i 127 = some d)) (R 1) 0 = sfst (fun x => (R (23 + S (8 * j))).testBit x && decide (sStp R x i 127 = some d)) f k) → Zc X mX12_next (zEnd X (fun r hh n' => r = (some (.int (aNext R S (nI j) (nI i)).1)) ∧ hh = (zup h 1063 (zO 8 (mfs (mv v (aNext R S (nI j) (nI i)).2)))) ∧ n' = n) 0 0) 48 [(0, .ref 1063), (1, .int (nI j)), (2, .int (nI i)), (3, .int (nI (S (8 * j)))), (4, .int (zo (sStp R (S (8 * j)) i (0 ^^^ 127)))), (5, .int (nI k))] [] h1 n 0 0 := by
        intro f
        induction f using Nat.strongRecOn with
        | _ f ih =>
          intro k hk
          obtain ⟨hk, he⟩ := hk
          refine z_iload (pc := 48) C dX12_next_48 5 rfl ?_
          refine z_aload_n (pc := 50) C dX12_next_50 0 rfl ?_
          refine z_getf (pc := 51) C dX12_next_51 fX12_20 (by assumption) (by first | rfl | assumption) ?_
          refine z_iconst (pc := 54) C dX12_next_54 (nI 1) (by decide) ?_
          first | refine z_ialdN (pc := 55) C dX12_next_55 (by assumption) (by omega) (by decide) ?_ | refine z_ialdI (pc := 55) C dX12_next_55 (by assumption) (by omega) (by decide) ?_
          first | refine z_icmpgeN (pc := 56) C 105 dX12_next_56 (by decide) (by omega) (by omega) (fun hc56 => ?_) (fun hc56 => ?_) | refine z_icmp_ge (pc := 56) C 105 dX12_next_56 (by decide) (fun hc56 => ?_) (fun hc56 => ?_)
          · skip
            have e6 : sNxt R (S (8 * j)) i = none := by
              unfold sNxt
              cases hd : sStp R (S (8 * j)) i 127 with
              | none => rfl
              | some x =>
                cases x with
                | zero => rfl
                | succ d =>
                  obtain rfl : f = 0 := (by omega)
                  exact he d hd
            refine z_bipush (pc := 105) C dX12_next_105 (-2) (by decide) ?_
            refine z_iret (pc := 107) C dX12_next_107 rfl (Nat.zero_le _) (Nat.zero_le _) ⟨?_, ?_, rfl⟩
            · simp only [aNext, aMP, pj, pi, zlt_nI (show j < 2147483648 by omega), zlt_nI (show i < 2147483648 by omega), hj, hi, decide_true, Bool.and_self, if_true]; rw [e6]; rfl
            · first | exact mz0 hg (by simp [aNext, aMP, *]) | exact mz1 hg (by simp [aNext, aMP, *] <;> rfl)
          · skip
            refine z_iload (pc := 59) C dX12_next_59 4 rfl ?_
            refine z_if_le (pc := 61) C 99 dX12_next_61 (by decide) (fun hc61 => ?_) (fun hc61 => ?_)
            · skip
              have e8 : ∀ d, ¬ sStp R (S (8 * j)) i 127 = some (d + 1) := fun d z => by rcases zo_npos (e1 (S (8 * j))) hc61 with y | y <;> rw [z] at y <;> cases y
              have e5 : ∀ d, sStp R (S (8 * j)) i 127 = some (d + 1) → sfst (fun x => (R (23 + S (8 * j))).testBit x && decide (sStp R x i 127 = some d)) (R 1) 0 = sfst (fun x => (R (23 + S (8 * j))).testBit x && decide (sStp R x i 127 = some d)) (f - 1) (k + 1) := by
                intro d2 h2
                exact absurd h2 (e8 d2)
              first | refine z_iincN (pc := 99) (lv' := [(5, _), (0, _), (1, _), (2, _), (3, _), (4, _)]) C 1 dX12_next_99 5 rfl (by decide) (by decide) rfl ?_ | refine z_iinc (pc := 99) (lv' := [(5, _), (0, _), (1, _), (2, _), (3, _), (4, _)]) C dX12_next_99 5 rfl _ rfl (by decide) rfl ?_
              refine z_goto (pc := 102) C 48 dX12_next_102 (by decide) ?_
              refine z_sub (lv' := [(0, _), (1, _), (2, _), (3, _), (4, _), (5, _)]) [1, 2, 3, 4, 5, 0] rfl ?_
              exact ih (f - 1) (by omega) (k + 1) ⟨by omega, e5⟩
            · skip
              obtain ⟨d, hd⟩ := zo_pos (e1 (S (8 * j))) hc61
              have e9 := sStp_lt hd
              refine z_aload_n (pc := 64) C dX12_next_64 0 rfl ?_
              refine z_getf (pc := 65) C dX12_next_65 fX12_20 (by assumption) (by first | rfl | assumption) ?_
              refine z_bipush (pc := 68) C dX12_next_68 (nI 23) (by decide) ?_
              refine z_iload_n (pc := 70) C dX12_next_70 3 rfl ?_
              first | refine z_iaddN (pc := 71) C dX12_next_71 ?_ | refine z_iadd (pc := 71) C dX12_next_71 ?_
              first | refine z_ialdN (pc := 72) C dX12_next_72 (by assumption) (by omega) (by decide) ?_ | refine z_ialdI (pc := 72) C dX12_next_72 (by assumption) (by omega) (by decide) ?_
              refine z_iload (pc := 73) C dX12_next_73 5 rfl ?_
              refine z_cS1 (pc := 75) mX12_hasBit C [_, _] dX12_next_75 lX12_236 mtX12_hasBit (tX12_hasBit (by first | assumption | omega) (by first | assumption | omega)) rfl rfl (by decide) (Nat.le_of_ble_eq_true rfl) (Nat.zero_le _) (Nat.zero_le _) ?_
              first | refine z_ifeqB (pc := 78) C 99 dX12_next_78 (by decide) (fun hc78 => ?_) (fun hc78 => ?_) | refine z_ifeqN (pc := 78) C 99 dX12_next_78 (by decide) (by omega) (fun hc78 => ?_) (fun hc78 => ?_) | refine z_if_eq (pc := 78) C 99 dX12_next_78 (by decide) (fun hc78 => ?_) (fun hc78 => ?_)
              · skip
                have e8 : (R (23 + S (8 * j))).testBit k = true → ¬ sStp R k i 127 = some d := fun z => by rw [hc78] at z; cases z
                have e5 : ∀ d, sStp R (S (8 * j)) i 127 = some (d + 1) → sfst (fun x => (R (23 + S (8 * j))).testBit x && decide (sStp R x i 127 = some d)) (R 1) 0 = sfst (fun x => (R (23 + S (8 * j))).testBit x && decide (sStp R x i 127 = some d)) (f - 1) (k + 1) := by
                  intro d2 h2
                  rw [hd] at h2
                  cases h2
                  rw [he d hd]
                  obtain ⟨f, rfl⟩ : ∃ g, f = g + 1 := ⟨f - 1, by omega⟩
                  rw [sfst, if_neg (by simpa using e8)]
                  rfl
                first | refine z_iincN (pc := 99) (lv' := [(5, _), (0, _), (1, _), (2, _), (3, _), (4, _)]) C 1 dX12_next_99 5 rfl (by decide) (by decide) rfl ?_ | refine z_iinc (pc := 99) (lv' := [(5, _), (0, _), (1, _), (2, _), (3, _), (4, _)]) C dX12_next_99 5 rfl _ rfl (by decide) rfl ?_
                refine z_goto (pc := 102) C 48 dX12_next_102 (by decide) ?_
                refine z_sub (lv' := [(0, _), (1, _), (2, _), (3, _), (4, _), (5, _)]) [1, 2, 3, 4, 5, 0] rfl ?_
                exact ih (f - 1) (by omega) (k + 1) ⟨by omega, e5⟩
              · skip
                refine z_aload_n (pc := 81) C dX12_next_81 0 rfl ?_
                refine z_iload (pc := 82) C dX12_next_82 5 rfl ?_
                refine z_iload_n (pc := 84) C dX12_next_84 2 rfl ?_
                refine z_iconst (pc := 85) C dX12_next_85 (nI 0) (by decide) ?_
                refine z_cV1 (pc := 86) mX12_stepsTo C [_, _, _] dX12_next_86 lX12_310 mtX12_stepsTo (tX12_stepsTo (b := 0) hM1 hA1 hR (by omega) (by omega) (by decide)) (by assumption) rfl rfl (by decide) (Nat.le_of_ble_eq_true rfl) (Nat.zero_le _) (Nat.zero_le _) ?_
                refine z_iload (pc := 89) C dX12_next_89 4 rfl ?_
                refine z_top (show zo (sStp R (S (8 * j)) i (0 ^^^ 127)) = nI (d + 1) from by rw [show sStp R (S (8 * j)) i (0 ^^^ 127) = some (d + 1) from hd]; rfl) ?_
                refine z_iconst (pc := 91) C dX12_next_91 (nI 1) (by decide) ?_
                first | refine z_isubN (pc := 92) C dX12_next_92 (by omega) ?_ | refine z_isub (pc := 92) C dX12_next_92 ?_
                refine z_icmp_ne (pc := 93) C 99 dX12_next_93 (by decide) (fun hc93 => ?_) (fun hc93 => ?_)
                · skip
                  have e8 : (R (23 + S (8 * j))).testBit k = true → ¬ sStp R k i 127 = some d := fun _ z => hc93 ((zo_eq (by omega) (e1 k)).mpr z)
                  have e5 : ∀ d, sStp R (S (8 * j)) i 127 = some (d + 1) → sfst (fun x => (R (23 + S (8 * j))).testBit x && decide (sStp R x i 127 = some d)) (R 1) 0 = sfst (fun x => (R (23 + S (8 * j))).testBit x && decide (sStp R x i 127 = some d)) (f - 1) (k + 1) := by
                    intro d2 h2
                    rw [hd] at h2
                    cases h2
                    rw [he d hd]
                    obtain ⟨f, rfl⟩ : ∃ g, f = g + 1 := ⟨f - 1, by omega⟩
                    rw [sfst, if_neg (by simpa using e8)]
                    rfl
                  first | refine z_iincN (pc := 99) (lv' := [(5, _), (0, _), (1, _), (2, _), (3, _), (4, _)]) C 1 dX12_next_99 5 rfl (by decide) (by decide) rfl ?_ | refine z_iinc (pc := 99) (lv' := [(5, _), (0, _), (1, _), (2, _), (3, _), (4, _)]) C dX12_next_99 5 rfl _ rfl (by decide) rfl ?_
                  refine z_goto (pc := 102) C 48 dX12_next_102 (by decide) ?_
                  refine z_sub (lv' := [(0, _), (1, _), (2, _), (3, _), (4, _), (5, _)]) [1, 2, 3, 4, 5, 0] rfl ?_
                  exact ih (f - 1) (by omega) (k + 1) ⟨by omega, e5⟩
                · skip
                  have e7 := (zo_eq (by omega) (e1 k)).mp hc93
                  refine z_iload (pc := 96) C dX12_next_96 5 rfl ?_
                  refine z_iret (pc := 98) C dX12_next_98 rfl (Nat.zero_le _) (Nat.zero_le _) ⟨?_, ?_, rfl⟩
                  · simp only [aNext, aMP, pj, pi, zlt_nI (show j < 2147483648 by omega), zlt_nI (show i < 2147483648 by omega), hj, hi, decide_true, Bool.and_self, if_true]; unfold sNxt; rw [hd]; show _ = some (Value.int (zo (sfst _ _ _))); rw [he d hd]; obtain ⟨f, rfl⟩ : ∃ g, f = g + 1 := ⟨f - 1, by omega⟩; rw [sfst, if_pos (by simp [hc78, show sStp R k i 127 = some d from e7])]; rfl
                  · first | exact mz0 hg (by simp [aNext, aMP, *]) | exact mz1 hg (by simp [aNext, aMP, *] <;> rfl)
      exact lp48 (R 1) 0 ⟨by omega, fun _ _ => rfl⟩
    · skip
      refine z_aload_n (pc := 20) C dX12_next_20 0 rfl ?_
      refine z_iconst (pc := 21) C dX12_next_21 (nI 1) (by decide) ?_
      refine z_cV1 (pc := 22) mX12_no C [_] dX12_next_22 lX12_170 mtX12_no (tX12_no (by first | assumption | omega)) (by assumption) rfl rfl (by decide) (Nat.le_of_ble_eq_true rfl) (Nat.zero_le _) (Nat.zero_le _) ?_
      refine z_iret (pc := 25) C dX12_next_25 rfl (Nat.zero_le _) (Nat.zero_le _) ⟨?_, ?_, rfl⟩
      · simp [aNext, aMP, *]
      · first | exact mz0 hg (by simp [aNext, aMP, *]) | exact mz1 hg (by simp [aNext, aMP, *] <;> rfl)
