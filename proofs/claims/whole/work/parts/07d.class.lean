theorem smap_lt {L : Nat → Nat} {c : Nat} (hL : ∀ m, L m < c) (t : Option Nat) : ∀ w, t.map L = some w → w < c := by
  intro w h
  cases t with
  | none => cases h
  | some x => cases h; exact hL x
theorem smost_le {L : Nat → Nat} {k w : Nat} (hw : (smost L k).map L = some w) (h : L k ≤ w) : smost L (k + 1) = smost L k := by
  rw [smost]
  cases e : smost L k with
  | none => rw [e] at hw; cases hw
  | some b =>
    rw [e] at hw
    cases hw
    show (if L b < L k then some k else some b) = some b
    rw [if_neg (by omega)]
theorem smost_gt {L : Nat → Nat} {k : Nat} (h : ¬ ∃ w, (smost L k).map L = some w ∧ L k ≤ w) : smost L (k + 1) = some k := by
  rw [smost]
  cases e : smost L k with
  | none => rfl
  | some b =>
    show (if L b < L k then some k else some b) = some k
    rw [if_pos]
    exact Nat.not_le.mp fun z => h ⟨L b, by rw [e]; rfl, z⟩
theorem sbits_ext1 {P Q : Nat → Bool} {n : Nat} (h : ∀ k, k < n → P k = Q k) : sbits P n = sbits Q n := sbits_congr n h

set_option maxRecDepth 20000 in
set_option maxHeartbeats 1000000 in
theorem tX5_crowdedPlaces {h : ZH} {s le tr t : Nat} {R S : Nat → Nat} (hC : Scn h s le tr t R S) (hR : wfR R) (hS : wfS R S) : ZD mX5_crowdedPlaces 5 [.ref s] h (some (.int (nI (sbits (sCrw R S) (R 1))))) h := by
  intro n
  obtain ⟨w1, w3, w4, w5, w0, wP, wM, wK, wX⟩ := id hR
  obtain ⟨wT, wL, wB⟩ := id hS
  obtain ⟨hT, fl, ft, s0, s1, s2, rl, rt⟩ := id hC
  obtain ⟨fc, fh, fn, fk, fs, ff, fw, fe, t0, t1, t2, t3, t4, t5, t6, t7, t8, rc, rh, rn, rk, rs, rf, rv, re⟩ := id hT
  refine z_enter (lv := [(0, _)]) (by decide) (Nat.le_of_ble_eq_true rfl) rfl (fun X C => ?_)
  refine z_iconst (pc := 0) C dX5_crowdedPlaces_0 (nI 0) (by decide) ?_
  refine z_istore_n (pc := 1) (lv' := [(1, _), (0, _)]) C dX5_crowdedPlaces_1 (by decide) rfl ?_
  refine z_iconst (pc := 2) C dX5_crowdedPlaces_2 (nI 0) (by decide) ?_
  refine z_istore_n (pc := 3) (lv' := [(2, _), (1, _), (0, _)]) C dX5_crowdedPlaces_3 (by decide) rfl ?_
  refine z_sub (lv' := [(0, _), (1, _), (2, _)]) [2, 1, 0] rfl ?_
  have lp4 : ∀ (f : Nat) (k acc : Nat), (k + f = R 1 ∧ acc = sbits (sCrw R S) k) → Zc X mX5_crowdedPlaces (zEnd X (fun r hh n' => r = (some (.int (nI (sbits (sCrw R S) (R 1))))) ∧ hh = h ∧ n' = n) 0 0) 4 [(0, .ref s), (1, .int (nI acc)), (2, .int (nI k))] [] h n 0 0 := by
    intro f
    induction f using Nat.strongRecOn with
    | _ f ih =>
      intro k acc hk
      obtain ⟨hk, he⟩ := hk
      refine z_iload_n (pc := 4) C dX5_crowdedPlaces_4 2 rfl ?_
      refine z_aload_n (pc := 5) C dX5_crowdedPlaces_5 0 rfl ?_
      refine z_getf (pc := 6) C dX5_crowdedPlaces_6 fX5_18 (by assumption) (by first | rfl | assumption) ?_
      refine z_getf (pc := 9) C dX5_crowdedPlaces_9 fX5_64 (by assumption) (by first | rfl | assumption) ?_
      refine z_iconst (pc := 12) C dX5_crowdedPlaces_12 (nI 1) (by decide) ?_
      refine z_ialdE (pc := 13) C dX5_crowdedPlaces_13 (by assumption) (by omega) (by decide) (rc 1 (by decide) (by decide)) ?_
      first | refine z_icmpgeN (pc := 14) C 37 dX5_crowdedPlaces_14 (by decide) (by omega) (by omega) (fun hc14 => ?_) (fun hc14 => ?_) | refine z_icmp_ge (pc := 14) C 37 dX5_crowdedPlaces_14 (by decide) (fun hc14 => ?_) (fun hc14 => ?_)
      · skip
        refine z_iload_n (pc := 37) C dX5_crowdedPlaces_37 1 rfl ?_
        refine z_iret (pc := 38) C dX5_crowdedPlaces_38 rfl (Nat.zero_le _) (Nat.zero_le _) ⟨?_, ?_, rfl⟩
        · obtain rfl : f = 0 := (by omega); obtain rfl : k = R 1 := (by omega); rw [he] <;> rfl
        · rfl
      · skip
        refine z_aload_n (pc := 17) C dX5_crowdedPlaces_17 0 rfl ?_
        refine z_iload_n (pc := 18) C dX5_crowdedPlaces_18 2 rfl ?_
        refine z_cV1 (pc := 19) mX5_roomAt C [_] dX5_crowdedPlaces_19 lX5_84 mtX5_roomAt (tX5_roomAt hC hR hS (by omega)) (by assumption) rfl rfl (by decide) (Nat.le_of_ble_eq_true rfl) (Nat.zero_le _) (Nat.zero_le _) ?_
        have e3 := (wP k (by omega)).1
        have e4 := sone_le (sKat R S k) 8
        refine z_if_ge (pc := 22) C 31 dX5_crowdedPlaces_22 (by decide) (fun hc22 => ?_) (fun hc22 => ?_)
        · skip
          have e5 : sCrw R S k = false := decide_eq_false (by have := (sub_ge (by omega) (by omega)).mp hc22; omega)
          first | refine z_iincN (pc := 31) (lv' := [(2, _), (0, _), (1, _)]) C 1 dX5_crowdedPlaces_31 2 rfl (by decide) (by decide) rfl ?_ | refine z_iinc (pc := 31) (lv' := [(2, _), (0, _), (1, _)]) C dX5_crowdedPlaces_31 2 rfl _ rfl (by decide) rfl ?_
          refine z_goto (pc := 34) C 4 dX5_crowdedPlaces_34 (by decide) ?_
          refine z_sub (lv' := [(0, _), (1, _), (2, _)]) [1, 2, 0] rfl ?_
          exact ih (f - 1) (by omega) (k + 1) _ ⟨by omega, by rw [he, sbits, e5]; simp⟩
        · skip
          have e5 : sCrw R S k = true := decide_eq_true (Nat.not_le.mp fun z => hc22 ((sub_ge (by omega) (by omega)).mpr z))
          refine z_iload_n (pc := 25) C dX5_crowdedPlaces_25 1 rfl ?_
          refine z_iconst (pc := 26) C dX5_crowdedPlaces_26 (nI 1) (by decide) ?_
          refine z_iload_n (pc := 27) C dX5_crowdedPlaces_27 2 rfl ?_
          first | refine z_ishlN (pc := 28) C dX5_crowdedPlaces_28 (by omega) ?_ | refine z_ishl (pc := 28) C dX5_crowdedPlaces_28 ?_
          first | refine z_iorN (pc := 29) C dX5_crowdedPlaces_29 ?_ | refine z_ior (pc := 29) C dX5_crowdedPlaces_29 ?_
          refine z_istore_n (pc := 30) (lv' := [(1, _), (0, _), (2, _)]) C dX5_crowdedPlaces_30 (by decide) rfl ?_
          first | refine z_iincN (pc := 31) (lv' := [(2, _), (1, _), (0, _)]) C 1 dX5_crowdedPlaces_31 2 rfl (by decide) (by decide) rfl ?_ | refine z_iinc (pc := 31) (lv' := [(2, _), (1, _), (0, _)]) C dX5_crowdedPlaces_31 2 rfl _ rfl (by decide) rfl ?_
          refine z_goto (pc := 34) C 4 dX5_crowdedPlaces_34 (by decide) ?_
          refine z_sub (lv' := [(0, _), (1, _), (2, _)]) [2, 1, 0] rfl ?_
          exact ih (f - 1) (by omega) (k + 1) _ ⟨by omega, by rw [he, sbits, e5]; simp⟩
  exact lp4 (R 1) 0 0 ⟨by omega, rfl⟩

set_option maxRecDepth 20000 in
set_option maxHeartbeats 1000000 in
theorem tX5_roomLeft {h : ZH} {s le tr t : Nat} {R S : Nat → Nat} (hC : Scn h s le tr t R S) (hR : wfR R) (hS : wfS R S) : ZD mX5_roomLeft 5 [.ref s] h (some (.int (nI (srm R S (R 1))))) h := by
  intro n
  obtain ⟨w1, w3, w4, w5, w0, wP, wM, wK, wX⟩ := id hR
  obtain ⟨wT, wL, wB⟩ := id hS
  obtain ⟨hT, fl, ft, s0, s1, s2, rl, rt⟩ := id hC
  obtain ⟨fc, fh, fn, fk, fs, ff, fw, fe, t0, t1, t2, t3, t4, t5, t6, t7, t8, rc, rh, rn, rk, rs, rf, rv, re⟩ := id hT
  refine z_enter (lv := [(0, _)]) (by decide) (Nat.le_of_ble_eq_true rfl) rfl (fun X C => ?_)
  refine z_iconst (pc := 0) C dX5_roomLeft_0 (nI 0) (by decide) ?_
  refine z_istore_n (pc := 1) (lv' := [(1, _), (0, _)]) C dX5_roomLeft_1 (by decide) rfl ?_
  refine z_iconst (pc := 2) C dX5_roomLeft_2 (nI 0) (by decide) ?_
  refine z_istore_n (pc := 3) (lv' := [(2, _), (1, _), (0, _)]) C dX5_roomLeft_3 (by decide) rfl ?_
  refine z_sub (lv' := [(0, _), (1, _), (2, _)]) [2, 1, 0] rfl ?_
  have lp4 : ∀ (f : Nat) (k acc : Nat), (k + f = R 1 ∧ acc = srm R S k) → Zc X mX5_roomLeft (zEnd X (fun r hh n' => r = (some (.int (nI (srm R S (R 1))))) ∧ hh = h ∧ n' = n) 0 0) 4 [(0, .ref s), (1, .int (nI acc)), (2, .int (nI k))] [] h n 0 0 := by
    intro f
    induction f using Nat.strongRecOn with
    | _ f ih =>
      intro k acc hk
      obtain ⟨hk, he⟩ := hk
      refine z_iload_n (pc := 4) C dX5_roomLeft_4 2 rfl ?_
      refine z_aload_n (pc := 5) C dX5_roomLeft_5 0 rfl ?_
      refine z_getf (pc := 6) C dX5_roomLeft_6 fX5_18 (by assumption) (by first | rfl | assumption) ?_
      refine z_getf (pc := 9) C dX5_roomLeft_9 fX5_64 (by assumption) (by first | rfl | assumption) ?_
      refine z_iconst (pc := 12) C dX5_roomLeft_12 (nI 1) (by decide) ?_
      refine z_ialdE (pc := 13) C dX5_roomLeft_13 (by assumption) (by omega) (by decide) (rc 1 (by decide) (by decide)) ?_
      first | refine z_icmpgeN (pc := 14) C 43 dX5_roomLeft_14 (by decide) (by omega) (by omega) (fun hc14 => ?_) (fun hc14 => ?_) | refine z_icmp_ge (pc := 14) C 43 dX5_roomLeft_14 (by decide) (fun hc14 => ?_) (fun hc14 => ?_)
      · skip
        refine z_iload_n (pc := 43) C dX5_roomLeft_43 1 rfl ?_
        refine z_iret (pc := 44) C dX5_roomLeft_44 rfl (Nat.zero_le _) (Nat.zero_le _) ⟨?_, ?_, rfl⟩
        · obtain rfl : f = 0 := (by omega); obtain rfl : k = R 1 := (by omega); rw [he] <;> rfl
        · rfl
      · skip
        refine z_aload_n (pc := 17) C dX5_roomLeft_17 0 rfl ?_
        refine z_iload_n (pc := 18) C dX5_roomLeft_18 2 rfl ?_
        refine z_cV1 (pc := 19) mX5_isLit C [_] dX5_roomLeft_19 lX5_87 mtX5_isLit (tX5_isLit hC hS (by omega)) (by assumption) rfl rfl (by decide) (Nat.le_of_ble_eq_true rfl) (Nat.zero_le _) (Nat.zero_le _) ?_
        have e3 := (wP k (by omega)).1
        have e4 := sone_le (sKat R S k) 8
        first | refine z_ifneB (pc := 22) C 37 dX5_roomLeft_22 (by decide) (fun hc22 => ?_) (fun hc22 => ?_) | refine z_ifneN (pc := 22) C 37 dX5_roomLeft_22 (by decide) (by omega) (fun hc22 => ?_) (fun hc22 => ?_) | refine z_if_ne (pc := 22) C 37 dX5_roomLeft_22 (by decide) (fun hc22 => ?_) (fun hc22 => ?_)
        · skip
          first | refine z_iincN (pc := 37) (lv' := [(2, _), (0, _), (1, _)]) C 1 dX5_roomLeft_37 2 rfl (by decide) (by decide) rfl ?_ | refine z_iinc (pc := 37) (lv' := [(2, _), (0, _), (1, _)]) C dX5_roomLeft_37 2 rfl _ rfl (by decide) rfl ?_
          refine z_goto (pc := 40) C 4 dX5_roomLeft_40 (by decide) ?_
          refine z_sub (lv' := [(0, _), (1, _), (2, _)]) [1, 2, 0] rfl ?_
          exact ih (f - 1) (by omega) (k + 1) _ ⟨by omega, by rw [he, srm, hc22, sCrw]; clear he ih; simp <;> omega⟩
        · skip
          refine z_iload_n (pc := 25) C dX5_roomLeft_25 1 rfl ?_
          refine z_iconst (pc := 26) C dX5_roomLeft_26 (nI 0) (by decide) ?_
          refine z_aload_n (pc := 27) C dX5_roomLeft_27 0 rfl ?_
          refine z_iload_n (pc := 28) C dX5_roomLeft_28 2 rfl ?_
          refine z_cV1 (pc := 29) mX5_roomAt C [_] dX5_roomLeft_29 lX5_84 mtX5_roomAt (tX5_roomAt hC hR hS (by omega)) (by assumption) rfl rfl (by decide) (Nat.le_of_ble_eq_true rfl) (Nat.zero_le _) (Nat.zero_le _) ?_
          refine z_mmax (pc := 32) C dX5_roomLeft_32 lX5_91 zw_mx_s zw_mi zw_mx_c (by decide) (Nat.le_of_ble_eq_true rfl) (Nat.zero_le _) (Nat.zero_le _) ?_
          rw [max0 (by omega) (by omega)]
          first | refine z_iaddN (pc := 35) C dX5_roomLeft_35 ?_ | refine z_iadd (pc := 35) C dX5_roomLeft_35 ?_
          refine z_istore_n (pc := 36) (lv' := [(1, _), (0, _), (2, _)]) C dX5_roomLeft_36 (by decide) rfl ?_
          first | refine z_iincN (pc := 37) (lv' := [(2, _), (1, _), (0, _)]) C 1 dX5_roomLeft_37 2 rfl (by decide) (by decide) rfl ?_ | refine z_iinc (pc := 37) (lv' := [(2, _), (1, _), (0, _)]) C dX5_roomLeft_37 2 rfl _ rfl (by decide) rfl ?_
          refine z_goto (pc := 40) C 4 dX5_roomLeft_40 (by decide) ?_
          refine z_sub (lv' := [(0, _), (1, _), (2, _)]) [2, 1, 0] rfl ?_
          exact ih (f - 1) (by omega) (k + 1) _ ⟨by omega, by rw [he, srm, hc22, sCrw]; clear he ih; simp <;> omega⟩
  exact lp4 (R 1) 0 0 ⟨by omega, rfl⟩

set_option maxRecDepth 20000 in
set_option maxHeartbeats 1000000 in
theorem tX5_mostFollowed {h : ZH} {s le tr t : Nat} {R S : Nat → Nat} (hC : Scn h s le tr t R S) (hR : wfR R) (hS : wfS R S) : ZD mX5_mostFollowed 1 [.ref s] h (some (.int (zo (smost (fun m => sone (sFol R S m) 8) (R 3))))) h := by
  intro n
  obtain ⟨w1, w3, w4, w5, w0, wP, wM, wK, wX⟩ := id hR
  obtain ⟨wT, wL, wB⟩ := id hS
  obtain ⟨hT, fl, ft, s0, s1, s2, rl, rt⟩ := id hC
  obtain ⟨fc, fh, fn, fk, fs, ff, fw, fe, t0, t1, t2, t3, t4, t5, t6, t7, t8, rc, rh, rn, rk, rs, rf, rv, re⟩ := id hT
  refine z_enter (lv := [(0, _)]) (by decide) (Nat.le_of_ble_eq_true rfl) rfl (fun X C => ?_)
  refine z_bipush (pc := 0) C dX5_mostFollowed_0 (zo none) (by decide) ?_
  refine z_istore_n (pc := 2) (lv' := [(1, _), (0, _)]) C dX5_mostFollowed_2 (by decide) rfl ?_
  refine z_iconst (pc := 3) C dX5_mostFollowed_3 (zm none) (by decide) ?_
  refine z_istore_n (pc := 4) (lv' := [(2, _), (1, _), (0, _)]) C dX5_mostFollowed_4 (by decide) rfl ?_
  refine z_iconst (pc := 5) C dX5_mostFollowed_5 (nI 0) (by decide) ?_
  refine z_istore_n (pc := 6) (lv' := [(3, _), (2, _), (1, _), (0, _)]) C dX5_mostFollowed_6 (by decide) rfl ?_
  refine z_sub (lv' := [(0, _), (1, _), (2, _), (3, _)]) [3, 2, 1, 0] rfl ?_
  have lp7 : ∀ (f : Nat) (k : Nat) (t1 u : Option Nat), (k + f = R 3 ∧ t1 = smost (fun m => sone (sFol R S m) 8) k ∧ u = t1.map (fun m => sone (sFol R S m) 8)) → Zc X mX5_mostFollowed (zEnd X (fun r hh n' => r = (some (.int (zo (smost (fun m => sone (sFol R S m) 8) (R 3))))) ∧ hh = h ∧ n' = n) 0 0) 7 [(0, .ref s), (1, .int (zo t1)), (2, .int (zm u)), (3, .int (nI k))] [] h n 0 0 := by
    intro f
    induction f using Nat.strongRecOn with
    | _ f ih =>
      intro k t1 u hk
      obtain ⟨hk, he, hu⟩ := hk
      have e1 : ∀ w, u = some w → w < 2147483648 := fun w hw => by rw [hu] at hw; have := smap_lt (L := (fun m => sone (sFol R S m) 8)) (c := 9) (fun m => by have := sone_le (sFol R S m) 8; show sone _ 8 < _; omega) t1 w hw; omega
      refine z_iload_n (pc := 7) C dX5_mostFollowed_7 3 rfl ?_
      refine z_aload_n (pc := 8) C dX5_mostFollowed_8 0 rfl ?_
      refine z_getf (pc := 9) C dX5_mostFollowed_9 fX5_18 (by assumption) (by first | rfl | assumption) ?_
      refine z_getf (pc := 12) C dX5_mostFollowed_12 fX5_64 (by assumption) (by first | rfl | assumption) ?_
      refine z_iconst (pc := 15) C dX5_mostFollowed_15 (nI 3) (by decide) ?_
      refine z_ialdE (pc := 16) C dX5_mostFollowed_16 (by assumption) (by omega) (by decide) (rc 3 (by decide) (by decide)) ?_
      first | refine z_icmpgeN (pc := 17) C 47 dX5_mostFollowed_17 (by decide) (by omega) (by omega) (fun hc17 => ?_) (fun hc17 => ?_) | refine z_icmp_ge (pc := 17) C 47 dX5_mostFollowed_17 (by decide) (fun hc17 => ?_) (fun hc17 => ?_)
      · skip
        refine z_iload_n (pc := 47) C dX5_mostFollowed_47 1 rfl ?_
        refine z_iret (pc := 48) C dX5_mostFollowed_48 rfl (Nat.zero_le _) (Nat.zero_le _) ⟨?_, ?_, rfl⟩
        · obtain rfl : f = 0 := (by omega); obtain rfl : k = R 3 := (by omega); rw [he] <;> rfl
        · rfl
      · skip
        refine z_aload_n (pc := 20) C dX5_mostFollowed_20 0 rfl ?_
        refine z_iload_n (pc := 21) C dX5_mostFollowed_21 3 rfl ?_
        refine z_cV1 (pc := 22) mX5_killsBehind C [_] dX5_mostFollowed_22 lX5_78 mtX5_killsBehind (tX5_killsBehind hC hR hS (by omega)) (by assumption) rfl rfl (by decide) (Nat.le_of_ble_eq_true rfl) (Nat.zero_le _) (Nat.zero_le _) ?_
        have e4 : sFol R S k < 128 := sbits_lt7 _ (by omega)
        refine z_cS1 (pc := 25) mJ6_bitCount_0f7a4 C [_] dX5_mostFollowed_25 lX5_73 mtJ6_bitCount_0f7a4 (tJ6_bitCount_0f7a4 (by first | assumption | omega)) rfl rfl (by decide) (Nat.le_of_ble_eq_true rfl) (Nat.zero_le _) (Nat.zero_le _) ?_
        refine z_istore (pc := 28) (lv' := [(4, _), (0, _), (1, _), (2, _), (3, _)]) C dX5_mostFollowed_28 (by decide) rfl ?_
        refine z_iload (pc := 30) C dX5_mostFollowed_30 0 rfl ?_
        refine z_iload_n (pc := 32) C dX5_mostFollowed_32 3 rfl ?_
        have e3 := sone_le (sFol R S k) 8
        refine z_icmp_le (pc := 33) C 41 dX5_mostFollowed_33 (by decide) (fun hc33 => ?_) (fun hc33 => ?_)
        · skip
          obtain ⟨w, hw, hw2⟩ := (zm_le (by omega) e1).mp hc33
          have e5 : t1 = smost (fun m => sone (sFol R S m) 8) (k + 1) := by rw [he]; exact (smost_le (L := (fun m => sone (sFol R S m) 8)) (k := k) (w := w) (by rw [← he, ← hu]; exact hw) hw2).symm
          have e6 : u = t1.map (fun m => sone (sFol R S m) 8) := hu
          first | refine z_iincN (pc := 41) (lv' := [(3, _), (4, _), (0, _), (1, _), (2, _)]) C 1 dX5_mostFollowed_41 4 rfl (by decide) (by decide) rfl ?_ | refine z_iinc (pc := 41) (lv' := [(3, _), (4, _), (0, _), (1, _), (2, _)]) C dX5_mostFollowed_41 4 rfl _ rfl (by decide) rfl ?_
          refine z_goto (pc := 44) C 7 dX5_mostFollowed_44 (by decide) ?_
          refine z_sub (lv' := [(0, _), (1, _), (2, _), (3, _)]) [2, 3, 4, 0] rfl ?_
          exact ih (f - 1) (by omega) (k + 1) _ _ ⟨by omega, e5, e6⟩
        · skip
          have e5 : some k = smost (fun m => sone (sFol R S m) 8) (k + 1) := (smost_gt (L := (fun m => sone (sFol R S m) 8)) (k := k) (fun z => hc33 ((zm_le (by omega) e1).mpr (by rw [hu, he]; exact z)))).symm
          have e6 : some (sone (sFol R S k) 8) = (some k).map (fun m => sone (sFol R S m) 8) := rfl
          refine z_iload (pc := 36) C dX5_mostFollowed_36 0 rfl ?_
          refine z_top (show nI (sone (sFol R S k) 8) = zm (some (sone (sFol R S k) 8)) from rfl) ?_
          refine z_istore_n (pc := 38) (lv' := [(2, _), (4, _), (0, _), (1, _), (3, _)]) C dX5_mostFollowed_38 (by decide) rfl ?_
          refine z_iload_n (pc := 39) C dX5_mostFollowed_39 4 rfl ?_
          refine z_top (show nI k = zo (some k) from rfl) ?_
          refine z_istore_n (pc := 40) (lv' := [(1, _), (2, _), (4, _), (0, _), (3, _)]) C dX5_mostFollowed_40 (by decide) rfl ?_
          first | refine z_iincN (pc := 41) (lv' := [(3, _), (1, _), (2, _), (4, _), (0, _)]) C 1 dX5_mostFollowed_41 4 rfl (by decide) (by decide) rfl ?_ | refine z_iinc (pc := 41) (lv' := [(3, _), (1, _), (2, _), (4, _), (0, _)]) C dX5_mostFollowed_41 4 rfl _ rfl (by decide) rfl ?_
          refine z_goto (pc := 44) C 7 dX5_mostFollowed_44 (by decide) ?_
          refine z_sub (lv' := [(0, _), (1, _), (2, _), (3, _)]) [4, 1, 2, 0] rfl ?_
          exact ih (f - 1) (by omega) (k + 1) _ _ ⟨by omega, e5, e6⟩
  exact lp7 (R 3) 0 none none ⟨by omega, rfl, rfl⟩

set_option maxRecDepth 20000 in
set_option maxHeartbeats 1000000 in
theorem tX5_unseenPlaces {h : ZH} {s le tr t : Nat} {R S : Nat → Nat} {m : Nat} (hC : Scn h s le tr t R S) (hR : wfR R) (hS : wfS R S) (hm : m < 2147483648) : ZD mX5_unseenPlaces 3 [.ref s, .int (nI m)] h (some (.int (nI (sUn R S m (R 4))))) h := by
  intro n
  obtain ⟨w1, w3, w4, w5, w0, wP, wM, wK, wX⟩ := id hR
  obtain ⟨wT, wL, wB⟩ := id hS
  obtain ⟨hT, fl, ft, s0, s1, s2, rl, rt⟩ := id hC
  obtain ⟨fc, fh, fn, fk, fs, ff, fw, fe, t0, t1, t2, t3, t4, t5, t6, t7, t8, rc, rh, rn, rk, rs, rf, rv, re⟩ := id hT
  refine z_enter (lv := [(0, _), (1, _)]) (by decide) (Nat.le_of_ble_eq_true rfl) rfl (fun X C => ?_)
  refine z_aload_n (pc := 0) C dX5_unseenPlaces_0 0 rfl ?_
  refine z_getf (pc := 1) C dX5_unseenPlaces_1 fX5_18 (by assumption) (by first | rfl | assumption) ?_
  refine z_cS1 (pc := 4) mX10_all C [_] dX5_unseenPlaces_4 lX5_96 mtX10_all (tX10_all hT hR) rfl rfl (by decide) (Nat.le_of_ble_eq_true rfl) (Nat.zero_le _) (Nat.zero_le _) ?_
  refine z_istore_n (pc := 7) (lv' := [(2, _), (0, _), (1, _)]) C dX5_unseenPlaces_7 (by decide) rfl ?_
  refine z_iconst (pc := 8) C dX5_unseenPlaces_8 (nI 0) (by decide) ?_
  refine z_istore_n (pc := 9) (lv' := [(3, _), (2, _), (0, _), (1, _)]) C dX5_unseenPlaces_9 (by decide) rfl ?_
  refine z_sub (lv' := [(0, _), (1, _), (2, _), (3, _)]) [2, 3, 1, 0] rfl ?_
  have lp10 : ∀ (f : Nat) (k acc : Nat), (k + f = R 4 ∧ acc = sUn R S m k) → Zc X mX5_unseenPlaces (zEnd X (fun r hh n' => r = (some (.int (nI (sUn R S m (R 4))))) ∧ hh = h ∧ n' = n) 0 0) 10 [(0, .ref s), (1, .int (nI m)), (2, .int (nI acc)), (3, .int (nI k))] [] h n 0 0 := by
    intro f
    induction f using Nat.strongRecOn with
    | _ f ih =>
      intro k acc hk
      obtain ⟨hk, he⟩ := hk
      have e7 : acc < 128 := by rw [he]; exact sUn_lt S w1 m k
      refine z_iload_n (pc := 10) C dX5_unseenPlaces_10 3 rfl ?_
      refine z_aload_n (pc := 11) C dX5_unseenPlaces_11 0 rfl ?_
      refine z_getf (pc := 12) C dX5_unseenPlaces_12 fX5_18 (by assumption) (by first | rfl | assumption) ?_
      refine z_getf (pc := 15) C dX5_unseenPlaces_15 fX5_64 (by assumption) (by first | rfl | assumption) ?_
      refine z_iconst (pc := 18) C dX5_unseenPlaces_18 (nI 4) (by decide) ?_
      refine z_ialdE (pc := 19) C dX5_unseenPlaces_19 (by assumption) (by omega) (by decide) (rc 4 (by decide) (by decide)) ?_
      first | refine z_icmpgeN (pc := 20) C 60 dX5_unseenPlaces_20 (by decide) (by omega) (by omega) (fun hc20 => ?_) (fun hc20 => ?_) | refine z_icmp_ge (pc := 20) C 60 dX5_unseenPlaces_20 (by decide) (fun hc20 => ?_) (fun hc20 => ?_)
      · skip
        refine z_iload_n (pc := 60) C dX5_unseenPlaces_60 2 rfl ?_
        refine z_iret (pc := 61) C dX5_unseenPlaces_61 rfl (Nat.zero_le _) (Nat.zero_le _) ⟨?_, ?_, rfl⟩
        · obtain rfl : f = 0 := (by omega); obtain rfl : k = R 4 := (by omega); rw [he] <;> rfl
        · rfl
      · skip
        refine z_aload_n (pc := 23) C dX5_unseenPlaces_23 0 rfl ?_
        refine z_iload_n (pc := 24) C dX5_unseenPlaces_24 3 rfl ?_
        refine z_cV1 (pc := 25) mX5_standOf C [_] dX5_unseenPlaces_25 lX5_67 mtX5_standOf (tX5_standOf hC hR hS (by omega)) (by assumption) rfl rfl (by decide) (Nat.le_of_ble_eq_true rfl) (Nat.zero_le _) (Nat.zero_le _) ?_
        refine z_istore (pc := 28) (lv' := [(4, _), (0, _), (1, _), (2, _), (3, _)]) C dX5_unseenPlaces_28 (by decide) rfl ?_
        have e1 : ∀ q, sstd R S k = some q → q < 2147483648 := fun q hq => by have := sstd_lt hR hS (by omega) hq; omega
        refine z_aload_n (pc := 30) C dX5_unseenPlaces_30 1 rfl ?_
        refine z_getf (pc := 31) C dX5_unseenPlaces_31 fX5_9 (by assumption) (by first | rfl | assumption) ?_
        refine z_iload_n (pc := 34) C dX5_unseenPlaces_34 4 rfl ?_
        refine z_ialdE (pc := 35) C dX5_unseenPlaces_35 (by assumption) (by omega) (by decide) (rl k (by omega)) ?_
        refine z_iload_n (pc := 36) C dX5_unseenPlaces_36 2 rfl ?_
        have e3 := wL k (by omega)
        first | refine z_icmpeqN (pc := 37) C 54 dX5_unseenPlaces_37 (by decide) (by omega) (by omega) (fun hc37 => ?_) (fun hc37 => ?_) | refine z_icmp_eq (pc := 37) C 54 dX5_unseenPlaces_37 (by decide) (fun hc37 => ?_) (fun hc37 => ?_)
        · skip
          first | refine z_iincN (pc := 54) (lv' := [(3, _), (4, _), (0, _), (1, _), (2, _)]) C 1 dX5_unseenPlaces_54 4 rfl (by decide) (by decide) rfl ?_ | refine z_iinc (pc := 54) (lv' := [(3, _), (4, _), (0, _), (1, _), (2, _)]) C dX5_unseenPlaces_54 4 rfl _ rfl (by decide) rfl ?_
          refine z_goto (pc := 57) C 10 dX5_unseenPlaces_57 (by decide) ?_
          refine z_sub (lv' := [(0, _), (1, _), (2, _), (3, _)]) [2, 3, 4, 0] rfl ?_
          exact ih (f - 1) (by omega) (k + 1) _ ⟨by omega, by rw [sUn, ← he]; clear he ih; simp [*]⟩
        · skip
          refine z_iload (pc := 40) C dX5_unseenPlaces_40 0 rfl ?_
          first | refine z_ifltO (pc := 42) C 54 dX5_unseenPlaces_42 (by decide) (by assumption) (fun hc42 => ?_) (fun hc42 => ?_) | refine z_ifltN (pc := 42) C 54 dX5_unseenPlaces_42 (by decide) (by omega) (fun hc42 => ?_) (fun hc42 => ?_) | refine z_if_lt (pc := 42) C 54 dX5_unseenPlaces_42 (by decide) (fun hc42 => ?_) (fun hc42 => ?_)
          · skip
            first | refine z_iincN (pc := 54) (lv' := [(3, _), (4, _), (0, _), (1, _), (2, _)]) C 1 dX5_unseenPlaces_54 4 rfl (by decide) (by decide) rfl ?_ | refine z_iinc (pc := 54) (lv' := [(3, _), (4, _), (0, _), (1, _), (2, _)]) C dX5_unseenPlaces_54 4 rfl _ rfl (by decide) rfl ?_
            refine z_goto (pc := 57) C 10 dX5_unseenPlaces_57 (by decide) ?_
            refine z_sub (lv' := [(0, _), (1, _), (2, _), (3, _)]) [2, 3, 4, 0] rfl ?_
            exact ih (f - 1) (by omega) (k + 1) _ ⟨by omega, by rw [sUn, ← he]; clear he ih; simp [*]⟩
          · skip
            obtain ⟨q, hq⟩ := hc42
            have e2 := sstd_lt hR hS (by omega) hq
            rw [hq]
            refine z_iload_n (pc := 45) C dX5_unseenPlaces_45 3 rfl ?_
            refine z_iconst (pc := 46) C dX5_unseenPlaces_46 (nI 1) (by decide) ?_
            refine z_iload (pc := 47) C dX5_unseenPlaces_47 0 rfl ?_
            refine z_top (show zo (some q) = nI q from rfl) ?_
            first | refine z_ishlN (pc := 49) C dX5_unseenPlaces_49 (by omega) ?_ | refine z_ishl (pc := 49) C dX5_unseenPlaces_49 ?_
            refine z_iconst (pc := 50) C dX5_unseenPlaces_50 (-1) (by decide) ?_
            refine z_ixor (pc := 51) C dX5_unseenPlaces_51 ?_
            refine z_iand (pc := 52) C dX5_unseenPlaces_52 ?_
            refine z_top (nI_andn e7 (s1_lt (by omega))) ?_
            refine z_istore_n (pc := 53) (lv' := [(2, _), (4, _), (0, _), (1, _), (3, _)]) C dX5_unseenPlaces_53 (by decide) rfl ?_
            first | refine z_iincN (pc := 54) (lv' := [(3, _), (2, _), (4, _), (0, _), (1, _)]) C 1 dX5_unseenPlaces_54 4 rfl (by decide) (by decide) rfl ?_ | refine z_iinc (pc := 54) (lv' := [(3, _), (2, _), (4, _), (0, _), (1, _)]) C dX5_unseenPlaces_54 4 rfl _ rfl (by decide) rfl ?_
            refine z_goto (pc := 57) C 10 dX5_unseenPlaces_57 (by decide) ?_
            refine z_sub (lv' := [(0, _), (1, _), (2, _), (3, _)]) [3, 4, 1, 0] rfl ?_
            exact ih (f - 1) (by omega) (k + 1) _ ⟨by omega, by rw [sUn, ← he]; clear he ih; simp [*]⟩
  exact lp10 (R 4) 0 _ ⟨by omega, rfl⟩

set_option maxRecDepth 20000 in
set_option maxHeartbeats 1000000 in
theorem tX1_distanceTo {h : ZH} {s le tr t : Nat} {R S : Nat → Nat} {m k : Nat} (hC : Scn h s le tr t R S) (hR : wfR R) (hS : wfS R S) (hm : m < R 3) (hk : k < R 4) : ZD mX1_distanceTo 3 [.ref s, .int (nI m), .int (nI k)] h (some (.int (zo (sDo R S m k)))) h := by
  intro n
  obtain ⟨w1, w3, w4, w5, w0, wP, wM, wK, wX⟩ := id hR
  obtain ⟨wT, wL, wB⟩ := id hS
  obtain ⟨hT, fl, ft, s0, s1, s2, rl, rt⟩ := id hC
  obtain ⟨fc, fh, fn, fk, fs, ff, fw, fe, t0, t1, t2, t3, t4, t5, t6, t7, t8, rc, rh, rn, rk, rs, rf, rv, re⟩ := id hT
  have e2 : S (8 * m) < R 1 := wT m hm 0 (by omega)
  have e1 : ∀ q, sstd R S k = some q → q < 2147483648 := fun q hq => by have := sstd_lt hR hS (by omega) hq; omega
  refine z_enter (lv := [(0, _), (1, _), (2, _)]) (by decide) (Nat.le_of_ble_eq_true rfl) rfl (fun X C => ?_)
  refine z_aload_n (pc := 0) C dX1_distanceTo_0 0 rfl ?_
  refine z_iload_n (pc := 1) C dX1_distanceTo_1 2 rfl ?_
  refine z_cV1 (pc := 2) mX5_standOf C [_] dX1_distanceTo_2 lX1_15 mtX5_standOf (tX5_standOf hC hR hS hk) (by assumption) rfl rfl (by decide) (Nat.le_of_ble_eq_true rfl) (Nat.zero_le _) (Nat.zero_le _) ?_
  refine z_istore_n (pc := 5) (lv' := [(3, _), (0, _), (1, _), (2, _)]) C dX1_distanceTo_5 (by decide) rfl ?_
  refine z_iload_n (pc := 6) C dX1_distanceTo_6 0 rfl ?_
  first | refine z_ifgeO (pc := 7) C 13 dX1_distanceTo_7 (by decide) (by assumption) (fun hc7 => ?_) (fun hc7 => ?_) | refine z_ifgeN (pc := 7) C 13 dX1_distanceTo_7 (by decide) (by omega) (fun hc7 => ?_) (fun hc7 => ?_) | refine z_if_ge (pc := 7) C 13 dX1_distanceTo_7 (by decide) (fun hc7 => ?_) (fun hc7 => ?_)
  · skip
    obtain ⟨q, hq⟩ := hc7
    have e3 := sstd_lt hR hS hk hq
    rw [hq]
    refine z_aload_n (pc := 13) C dX1_distanceTo_13 1 rfl ?_
    refine z_getf (pc := 14) C dX1_distanceTo_14 fX1_21 (by assumption) (by first | rfl | assumption) ?_
    refine z_aload_n (pc := 17) C dX1_distanceTo_17 1 rfl ?_
    refine z_iload_n (pc := 18) C dX1_distanceTo_18 2 rfl ?_
    refine z_cV1 (pc := 19) mX5_at C [_] dX1_distanceTo_19 lX1_25 mtX5_at (tX5_at hC hR hm) (by assumption) rfl rfl (by decide) (Nat.le_of_ble_eq_true rfl) (Nat.zero_le _) (Nat.zero_le _) ?_
    refine z_iload_n (pc := 22) C dX1_distanceTo_22 0 rfl ?_
    refine z_top (show zo (some q) = nI q from rfl) ?_
    refine z_aload_n (pc := 23) C dX1_distanceTo_23 1 rfl ?_
    refine z_getf (pc := 24) C dX1_distanceTo_24 fX1_21 (by assumption) (by first | rfl | assumption) ?_
    refine z_cS1 (pc := 27) mX10_all C [_] dX1_distanceTo_27 lX1_28 mtX10_all (tX10_all hT hR) rfl rfl (by decide) (Nat.le_of_ble_eq_true rfl) (Nat.zero_le _) (Nat.zero_le _) ?_
    refine z_cS1 (pc := 30) mX10_distance C [_, _, _, _] dX1_distanceTo_30 lX1_34 mtX10_distance (tX10_distance hT hR (by omega) (by omega)) rfl rfl (by decide) (Nat.le_of_ble_eq_true rfl) (Nat.zero_le _) (Nat.zero_le _) ?_
    rw [sdist_all hR (by omega)]
    refine z_iret (pc := 33) C dX1_distanceTo_33 rfl (Nat.zero_le _) (Nat.zero_le _) ⟨?_, ?_, rfl⟩
    · simp [sDo, hq]
    · rfl
  · skip
    refine z_bipush (pc := 10) C dX1_distanceTo_10 (-2) (by decide) ?_
    refine z_iret (pc := 12) C dX1_distanceTo_12 rfl (Nat.zero_le _) (Nat.zero_le _) ⟨?_, ?_, rfl⟩
    · simp [sDo, hc7, zo]
    · rfl

set_option maxRecDepth 20000 in
set_option maxHeartbeats 1000000 in
theorem tX1_killsWithin {h : ZH} {s le tr t : Nat} {R S : Nat → Nat} {m c : Nat} (hC : Scn h s le tr t R S) (hR : wfR R) (hS : wfS R S) (hm : m < R 3) (hc : c < 2147483648) : ZD mX1_killsWithin 4 [.ref s, .int (nI m), .int (nI c)] h (some (.int (nI (sbits (fun k => match sDo R S m k with | some d => decide (d ≤ c) | none => false) (R 4))))) h := by
  intro n
  obtain ⟨w1, w3, w4, w5, w0, wP, wM, wK, wX⟩ := id hR
  obtain ⟨wT, wL, wB⟩ := id hS
  obtain ⟨hT, fl, ft, s0, s1, s2, rl, rt⟩ := id hC
  obtain ⟨fc, fh, fn, fk, fs, ff, fw, fe, t0, t1, t2, t3, t4, t5, t6, t7, t8, rc, rh, rn, rk, rs, rf, rv, re⟩ := id hT
  refine z_enter (lv := [(0, _), (1, _), (2, _)]) (by decide) (Nat.le_of_ble_eq_true rfl) rfl (fun X C => ?_)
  refine z_iconst (pc := 0) C dX1_killsWithin_0 (nI 0) (by decide) ?_
  refine z_istore_n (pc := 1) (lv' := [(3, _), (0, _), (1, _), (2, _)]) C dX1_killsWithin_1 (by decide) rfl ?_
  refine z_iconst (pc := 2) C dX1_killsWithin_2 (nI 0) (by decide) ?_
  refine z_istore (pc := 3) (lv' := [(4, _), (3, _), (0, _), (1, _), (2, _)]) C dX1_killsWithin_3 (by decide) rfl ?_
  refine z_sub (lv' := [(0, _), (1, _), (2, _), (3, _), (4, _)]) [2, 3, 4, 1, 0] rfl ?_
  have lp5 : ∀ (f : Nat) (k acc : Nat), (k + f = R 4 ∧ acc = sbits (fun k => match sDo R S m k with | some d => decide (d ≤ c) | none => false) k) → Zc X mX1_killsWithin (zEnd X (fun r hh n' => r = (some (.int (nI (sbits (fun k => match sDo R S m k with | some d => decide (d ≤ c) | none => false) (R 4))))) ∧ hh = h ∧ n' = n) 0 0) 5 [(0, .ref s), (1, .int (nI m)), (2, .int (nI c)), (3, .int (nI acc)), (4, .int (nI k))] [] h n 0 0 := by
    intro f
    induction f using Nat.strongRecOn with
    | _ f ih =>
      intro k acc hk
      obtain ⟨hk, he⟩ := hk
      have e1 : ∀ q, sDo R S m k = some q → q < 2147483648 := fun q hq => by have := sDo_lt hR hS hm hq; omega
      refine z_iload (pc := 5) C dX1_killsWithin_5 4 rfl ?_
      refine z_aload_n (pc := 7) C dX1_killsWithin_7 0 rfl ?_
      refine z_getf (pc := 8) C dX1_killsWithin_8 fX1_21 (by assumption) (by first | rfl | assumption) ?_
      refine z_getf (pc := 11) C dX1_killsWithin_11 fX1_38 (by assumption) (by first | rfl | assumption) ?_
      refine z_iconst (pc := 14) C dX1_killsWithin_14 (nI 4) (by decide) ?_
      refine z_ialdE (pc := 15) C dX1_killsWithin_15 (by assumption) (by omega) (by decide) (rc 4 (by decide) (by decide)) ?_
      first | refine z_icmpgeN (pc := 16) C 52 dX1_killsWithin_16 (by decide) (by omega) (by omega) (fun hc16 => ?_) (fun hc16 => ?_) | refine z_icmp_ge (pc := 16) C 52 dX1_killsWithin_16 (by decide) (fun hc16 => ?_) (fun hc16 => ?_)
      · skip
        refine z_iload_n (pc := 52) C dX1_killsWithin_52 3 rfl ?_
        refine z_iret (pc := 53) C dX1_killsWithin_53 rfl (Nat.zero_le _) (Nat.zero_le _) ⟨?_, ?_, rfl⟩
        · obtain rfl : f = 0 := (by omega); obtain rfl : k = R 4 := (by omega); rw [he] <;> rfl
        · rfl
      · skip
        refine z_aload_n (pc := 19) C dX1_killsWithin_19 0 rfl ?_
        refine z_iload_n (pc := 20) C dX1_killsWithin_20 1 rfl ?_
        refine z_iload (pc := 21) C dX1_killsWithin_21 4 rfl ?_
        refine z_cS1 (pc := 23) mX1_distanceTo C [_, _, _] dX1_killsWithin_23 lX1_56 mtX1_distanceTo (tX1_distanceTo hC hR hS hm (by omega)) rfl rfl (by decide) (Nat.le_of_ble_eq_true rfl) (Nat.zero_le _) (Nat.zero_le _) ?_
        refine z_istore (pc := 26) (lv' := [(5, _), (0, _), (1, _), (2, _), (3, _), (4, _)]) C dX1_killsWithin_26 (by decide) rfl ?_
        refine z_iload (pc := 28) C dX1_killsWithin_28 0 rfl ?_
        first | refine z_ifltO (pc := 30) C 46 dX1_killsWithin_30 (by decide) (by assumption) (fun hc30 => ?_) (fun hc30 => ?_) | refine z_ifltN (pc := 30) C 46 dX1_killsWithin_30 (by decide) (by omega) (fun hc30 => ?_) (fun hc30 => ?_) | refine z_if_lt (pc := 30) C 46 dX1_killsWithin_30 (by decide) (fun hc30 => ?_) (fun hc30 => ?_)
        · skip
          first | refine z_iincN (pc := 46) (lv' := [(4, _), (5, _), (0, _), (1, _), (2, _), (3, _)]) C 1 dX1_killsWithin_46 5 rfl (by decide) (by decide) rfl ?_ | refine z_iinc (pc := 46) (lv' := [(4, _), (5, _), (0, _), (1, _), (2, _), (3, _)]) C dX1_killsWithin_46 5 rfl _ rfl (by decide) rfl ?_
          refine z_goto (pc := 49) C 5 dX1_killsWithin_49 (by decide) ?_
          refine z_sub (lv' := [(0, _), (1, _), (2, _), (3, _), (4, _)]) [2, 3, 4, 5, 0] rfl ?_
          exact ih (f - 1) (by omega) (k + 1) _ ⟨by omega, by rw [he, sbits]; clear he ih; simp [*]⟩
        · skip
          obtain ⟨q, hq⟩ := hc30
          have e2 := e1 q hq
          rw [hq]
          refine z_iload (pc := 33) C dX1_killsWithin_33 0 rfl ?_
          refine z_top (show zo (some q) = nI q from rfl) ?_
          refine z_iload_n (pc := 35) C dX1_killsWithin_35 3 rfl ?_
          first | refine z_icmpgtN (pc := 36) C 46 dX1_killsWithin_36 (by decide) (by omega) (by omega) (fun hc36 => ?_) (fun hc36 => ?_) | refine z_icmp_gt (pc := 36) C 46 dX1_killsWithin_36 (by decide) (fun hc36 => ?_) (fun hc36 => ?_)
          · skip
            have e9 := Nat.not_le.mpr hc36
            first | refine z_iincN (pc := 46) (lv' := [(4, _), (5, _), (0, _), (1, _), (2, _), (3, _)]) C 1 dX1_killsWithin_46 5 rfl (by decide) (by decide) rfl ?_ | refine z_iinc (pc := 46) (lv' := [(4, _), (5, _), (0, _), (1, _), (2, _), (3, _)]) C dX1_killsWithin_46 5 rfl _ rfl (by decide) rfl ?_
            refine z_goto (pc := 49) C 5 dX1_killsWithin_49 (by decide) ?_
            refine z_sub (lv' := [(0, _), (1, _), (2, _), (3, _), (4, _)]) [2, 3, 4, 5, 0] rfl ?_
            exact ih (f - 1) (by omega) (k + 1) _ ⟨by omega, by rw [he, sbits]; clear he ih; simp [*]⟩
          · skip
            refine z_iload_n (pc := 39) C dX1_killsWithin_39 4 rfl ?_
            refine z_iconst (pc := 40) C dX1_killsWithin_40 (nI 1) (by decide) ?_
            refine z_iload (pc := 41) C dX1_killsWithin_41 5 rfl ?_
            first | refine z_ishlN (pc := 43) C dX1_killsWithin_43 (by omega) ?_ | refine z_ishl (pc := 43) C dX1_killsWithin_43 ?_
            first | refine z_iorN (pc := 44) C dX1_killsWithin_44 ?_ | refine z_ior (pc := 44) C dX1_killsWithin_44 ?_
            refine z_istore_n (pc := 45) (lv' := [(3, _), (5, _), (0, _), (1, _), (2, _), (4, _)]) C dX1_killsWithin_45 (by decide) rfl ?_
            first | refine z_iincN (pc := 46) (lv' := [(4, _), (3, _), (5, _), (0, _), (1, _), (2, _)]) C 1 dX1_killsWithin_46 5 rfl (by decide) (by decide) rfl ?_ | refine z_iinc (pc := 46) (lv' := [(4, _), (3, _), (5, _), (0, _), (1, _), (2, _)]) C dX1_killsWithin_46 5 rfl _ rfl (by decide) rfl ?_
            refine z_goto (pc := 49) C 5 dX1_killsWithin_49 (by decide) ?_
            refine z_sub (lv' := [(0, _), (1, _), (2, _), (3, _), (4, _)]) [3, 4, 5, 1, 0] rfl ?_
            exact ih (f - 1) (by omega) (k + 1) _ ⟨by omega, by rw [he, sbits]; clear he ih; simp [*]⟩
  exact lp5 (R 4) 0 0 ⟨by omega, rfl⟩

set_option maxRecDepth 20000 in
set_option maxHeartbeats 1000000 in
theorem tX1_nearestTo {h : ZH} {s le tr t : Nat} {R S : Nat → Nat} {m : Nat} (hC : Scn h s le tr t R S) (hR : wfR R) (hS : wfS R S) (hm : m < R 3) : ZD mX1_nearestTo 4 [.ref s, .int (nI m)] h (some (.int (nI (sn7 R S m (R 4))))) h := by
  intro n
  obtain ⟨w1, w3, w4, w5, w0, wP, wM, wK, wX⟩ := id hR
  obtain ⟨wT, wL, wB⟩ := id hS
  obtain ⟨hT, fl, ft, s0, s1, s2, rl, rt⟩ := id hC
  obtain ⟨fc, fh, fn, fk, fs, ff, fw, fe, t0, t1, t2, t3, t4, t5, t6, t7, t8, rc, rh, rn, rk, rs, rf, rv, re⟩ := id hT
  refine z_enter (lv := [(0, _), (1, _)]) (by decide) (Nat.le_of_ble_eq_true rfl) rfl (fun X C => ?_)
  refine z_bipush (pc := 0) C dX1_nearestTo_0 (nI 7) (by decide) ?_
  refine z_istore_n (pc := 2) (lv' := [(2, _), (0, _), (1, _)]) C dX1_nearestTo_2 (by decide) rfl ?_
  refine z_iconst (pc := 3) C dX1_nearestTo_3 (nI 0) (by decide) ?_
  refine z_istore_n (pc := 4) (lv' := [(3, _), (2, _), (0, _), (1, _)]) C dX1_nearestTo_4 (by decide) rfl ?_
  refine z_sub (lv' := [(0, _), (1, _), (2, _), (3, _)]) [2, 3, 1, 0] rfl ?_
  have lp5 : ∀ (f : Nat) (k acc : Nat), (k + f = R 4 ∧ acc = sn7 R S m k) → Zc X mX1_nearestTo (zEnd X (fun r hh n' => r = (some (.int (nI (sn7 R S m (R 4))))) ∧ hh = h ∧ n' = n) 0 0) 5 [(0, .ref s), (1, .int (nI m)), (2, .int (nI acc)), (3, .int (nI k))] [] h n 0 0 := by
    intro f
    induction f using Nat.strongRecOn with
    | _ f ih =>
      intro k acc hk
      obtain ⟨hk, he⟩ := hk
      have e1 : ∀ q, sDo R S m k = some q → q < 2147483648 := fun q hq => by have := sDo_lt hR hS hm hq; omega
      have e7 := sn7_le R S m k
      refine z_iload_n (pc := 5) C dX1_nearestTo_5 3 rfl ?_
      refine z_aload_n (pc := 6) C dX1_nearestTo_6 0 rfl ?_
      refine z_getf (pc := 7) C dX1_nearestTo_7 fX1_21 (by assumption) (by first | rfl | assumption) ?_
      refine z_getf (pc := 10) C dX1_nearestTo_10 fX1_38 (by assumption) (by first | rfl | assumption) ?_
      refine z_iconst (pc := 13) C dX1_nearestTo_13 (nI 4) (by decide) ?_
      refine z_ialdE (pc := 14) C dX1_nearestTo_14 (by assumption) (by omega) (by decide) (rc 4 (by decide) (by decide)) ?_
      first | refine z_icmpgeN (pc := 15) C 44 dX1_nearestTo_15 (by decide) (by omega) (by omega) (fun hc15 => ?_) (fun hc15 => ?_) | refine z_icmp_ge (pc := 15) C 44 dX1_nearestTo_15 (by decide) (fun hc15 => ?_) (fun hc15 => ?_)
      · skip
        refine z_iload_n (pc := 44) C dX1_nearestTo_44 2 rfl ?_
        refine z_iret (pc := 45) C dX1_nearestTo_45 rfl (Nat.zero_le _) (Nat.zero_le _) ⟨?_, ?_, rfl⟩
        · obtain rfl : f = 0 := (by omega); obtain rfl : k = R 4 := (by omega); rw [he] <;> rfl
        · rfl
      · skip
        refine z_aload_n (pc := 18) C dX1_nearestTo_18 0 rfl ?_
        refine z_iload_n (pc := 19) C dX1_nearestTo_19 1 rfl ?_
        refine z_iload_n (pc := 20) C dX1_nearestTo_20 3 rfl ?_
        refine z_cS1 (pc := 21) mX1_distanceTo C [_, _, _] dX1_nearestTo_21 lX1_56 mtX1_distanceTo (tX1_distanceTo hC hR hS hm (by omega)) rfl rfl (by decide) (Nat.le_of_ble_eq_true rfl) (Nat.zero_le _) (Nat.zero_le _) ?_
        refine z_istore (pc := 24) (lv' := [(4, _), (0, _), (1, _), (2, _), (3, _)]) C dX1_nearestTo_24 (by decide) rfl ?_
        refine z_iload (pc := 26) C dX1_nearestTo_26 0 rfl ?_
        first | refine z_ifltO (pc := 28) C 38 dX1_nearestTo_28 (by decide) (by assumption) (fun hc28 => ?_) (fun hc28 => ?_) | refine z_ifltN (pc := 28) C 38 dX1_nearestTo_28 (by decide) (by omega) (fun hc28 => ?_) (fun hc28 => ?_) | refine z_if_lt (pc := 28) C 38 dX1_nearestTo_28 (by decide) (fun hc28 => ?_) (fun hc28 => ?_)
        · skip
          first | refine z_iincN (pc := 38) (lv' := [(3, _), (4, _), (0, _), (1, _), (2, _)]) C 1 dX1_nearestTo_38 4 rfl (by decide) (by decide) rfl ?_ | refine z_iinc (pc := 38) (lv' := [(3, _), (4, _), (0, _), (1, _), (2, _)]) C dX1_nearestTo_38 4 rfl _ rfl (by decide) rfl ?_
          refine z_goto (pc := 41) C 5 dX1_nearestTo_41 (by decide) ?_
          refine z_sub (lv' := [(0, _), (1, _), (2, _), (3, _)]) [2, 3, 4, 0] rfl ?_
          exact ih (f - 1) (by omega) (k + 1) _ ⟨by omega, by rw [sn7, ← he]; clear he ih; simp [*]⟩
        · skip
          obtain ⟨q, hq⟩ := hc28
          have e2 := e1 q hq
          rw [hq]
          refine z_iload_n (pc := 31) C dX1_nearestTo_31 3 rfl ?_
          refine z_iload (pc := 32) C dX1_nearestTo_32 0 rfl ?_
          refine z_top (show zo (some q) = nI q from rfl) ?_
          refine z_mmin (pc := 34) C dX1_nearestTo_34 lX1_63 zw_mn_s zw_mi zw_mn_c (by decide) (Nat.le_of_ble_eq_true rfl) (Nat.zero_le _) (Nat.zero_le _) ?_
          refine z_top (show (if nI q < nI acc then nI q else nI acc) = nI (min acc q) from by by_cases z : q < acc; (rw [if_pos (nI_lt z (by omega)), Nat.min_eq_right (by omega)]); (rw [if_neg (nI_nlt (by omega) (by omega)), Nat.min_eq_left (by omega)])) ?_
          refine z_istore_n (pc := 37) (lv' := [(2, _), (4, _), (0, _), (1, _), (3, _)]) C dX1_nearestTo_37 (by decide) rfl ?_
          first | refine z_iincN (pc := 38) (lv' := [(3, _), (2, _), (4, _), (0, _), (1, _)]) C 1 dX1_nearestTo_38 4 rfl (by decide) (by decide) rfl ?_ | refine z_iinc (pc := 38) (lv' := [(3, _), (2, _), (4, _), (0, _), (1, _)]) C dX1_nearestTo_38 4 rfl _ rfl (by decide) rfl ?_
          refine z_goto (pc := 41) C 5 dX1_nearestTo_41 (by decide) ?_
          refine z_sub (lv' := [(0, _), (1, _), (2, _), (3, _)]) [3, 4, 1, 0] rfl ?_
          exact ih (f - 1) (by omega) (k + 1) _ ⟨by omega, by rw [sn7, ← he]; clear he ih; simp [*]⟩
  exact lp5 (R 4) 0 7 ⟨by omega, rfl⟩

set_option maxRecDepth 20000 in
set_option maxHeartbeats 1000000 in
theorem tX1_creditors {h : ZH} {s le tr t : Nat} {R S : Nat → Nat} {m : Nat} (hC : Scn h s le tr t R S) (hR : wfR R) (hS : wfS R S) (hm : m < 2147483648) : ZD mX1_creditors 0 [.ref s, .int (nI m)] h (some (.int (nI (sOwe R S m)))) h := by
  intro n
  obtain ⟨w1, w3, w4, w5, w0, wP, wM, wK, wX⟩ := id hR
  obtain ⟨wT, wL, wB⟩ := id hS
  obtain ⟨hT, fl, ft, s0, s1, s2, rl, rt⟩ := id hC
  obtain ⟨fc, fh, fn, fk, fs, ff, fw, fe, t0, t1, t2, t3, t4, t5, t6, t7, t8, rc, rh, rn, rk, rs, rf, rv, re⟩ := id hT
  refine z_enter (lv := [(0, _), (1, _)]) (by decide) (Nat.le_of_ble_eq_true rfl) rfl (fun X C => ?_)
  refine z_iconst (pc := 0) C dX1_creditors_0 (nI 0) (by decide) ?_
  refine z_istore_n (pc := 1) (lv' := [(2, _), (0, _), (1, _)]) C dX1_creditors_1 (by decide) rfl ?_
  refine z_iconst (pc := 2) C dX1_creditors_2 (nI 0) (by decide) ?_
  refine z_istore_n (pc := 3) (lv' := [(3, _), (2, _), (0, _), (1, _)]) C dX1_creditors_3 (by decide) rfl ?_
  refine z_sub (lv' := [(0, _), (1, _), (2, _), (3, _)]) [2, 3, 1, 0] rfl ?_
  have lp4 : ∀ (f : Nat) (k acc : Nat), (k + f = R 4 ∧ acc = sowe R S m k) → Zc X mX1_creditors (zEnd X (fun r hh n' => r = (some (.int (nI (sOwe R S m)))) ∧ hh = h ∧ n' = n) 0 0) 4 [(0, .ref s), (1, .int (nI m)), (2, .int (nI acc)), (3, .int (nI k))] [] h n 0 0 := by
    intro f
    induction f using Nat.strongRecOn with
    | _ f ih =>
      intro k acc hk
      obtain ⟨hk, he⟩ := hk
      refine z_iload_n (pc := 4) C dX1_creditors_4 3 rfl ?_
      refine z_aload_n (pc := 5) C dX1_creditors_5 0 rfl ?_
      refine z_getf (pc := 6) C dX1_creditors_6 fX1_21 (by assumption) (by first | rfl | assumption) ?_
      refine z_getf (pc := 9) C dX1_creditors_9 fX1_38 (by assumption) (by first | rfl | assumption) ?_
      refine z_iconst (pc := 12) C dX1_creditors_12 (nI 4) (by decide) ?_
      refine z_ialdE (pc := 13) C dX1_creditors_13 (by assumption) (by omega) (by decide) (rc 4 (by decide) (by decide)) ?_
      first | refine z_icmpgeN (pc := 14) C 60 dX1_creditors_14 (by decide) (by omega) (by omega) (fun hc14 => ?_) (fun hc14 => ?_) | refine z_icmp_ge (pc := 14) C 60 dX1_creditors_14 (by decide) (fun hc14 => ?_) (fun hc14 => ?_)
      · skip
        refine z_iload_n (pc := 60) C dX1_creditors_60 2 rfl ?_
        refine z_iret (pc := 61) C dX1_creditors_61 rfl (Nat.zero_le _) (Nat.zero_le _) ⟨?_, ?_, rfl⟩
        · obtain rfl : f = 0 := (by omega); obtain rfl : k = R 4 := (by omega); rw [he] <;> rfl
        · rfl
      · skip
        have e1 := (wK k (by omega)).1
        have e2 := wL k (by omega)
        refine z_aload_n (pc := 17) C dX1_creditors_17 0 rfl ?_
        refine z_getf (pc := 18) C dX1_creditors_18 fX1_69 (by assumption) (by first | rfl | assumption) ?_
        refine z_iload_n (pc := 21) C dX1_creditors_21 3 rfl ?_
        refine z_ialdE (pc := 22) C dX1_creditors_22 (by assumption) (by omega) (by decide) (rl k (by omega)) ?_
        refine z_iload_n (pc := 23) C dX1_creditors_23 1 rfl ?_
        first | refine z_icmpneN (pc := 24) C 54 dX1_creditors_24 (by decide) (by omega) (by omega) (fun hc24 => ?_) (fun hc24 => ?_) | refine z_icmp_ne (pc := 24) C 54 dX1_creditors_24 (by decide) (fun hc24 => ?_) (fun hc24 => ?_)
        · skip
          first | refine z_iincN (pc := 54) (lv' := [(3, _), (0, _), (1, _), (2, _)]) C 1 dX1_creditors_54 3 rfl (by decide) (by decide) rfl ?_ | refine z_iinc (pc := 54) (lv' := [(3, _), (0, _), (1, _), (2, _)]) C dX1_creditors_54 3 rfl _ rfl (by decide) rfl ?_
          refine z_goto (pc := 57) C 4 dX1_creditors_57 (by decide) ?_
          refine z_sub (lv' := [(0, _), (1, _), (2, _), (3, _)]) [1, 2, 3, 0] rfl ?_
          exact ih (f - 1) (by omega) (k + 1) _ ⟨by omega, by rw [he, sowe]; clear he ih; simp [*]⟩
        · skip
          refine z_aload_n (pc := 27) C dX1_creditors_27 0 rfl ?_
          refine z_getf (pc := 28) C dX1_creditors_28 fX1_21 (by assumption) (by first | rfl | assumption) ?_
          refine z_getf (pc := 31) C dX1_creditors_31 fX1_72 (by assumption) (by first | rfl | assumption) ?_
          refine z_iload_n (pc := 34) C dX1_creditors_34 3 rfl ?_
          refine z_ialdE (pc := 35) C dX1_creditors_35 (by assumption) (by omega) (by decide) (rs k (by omega)) ?_
          refine z_iload_n (pc := 36) C dX1_creditors_36 1 rfl ?_
          first | refine z_icmpeqN (pc := 37) C 54 dX1_creditors_37 (by decide) (by omega) (by omega) (fun hc37 => ?_) (fun hc37 => ?_) | refine z_icmp_eq (pc := 37) C 54 dX1_creditors_37 (by decide) (fun hc37 => ?_) (fun hc37 => ?_)
          · skip
            first | refine z_iincN (pc := 54) (lv' := [(3, _), (0, _), (1, _), (2, _)]) C 1 dX1_creditors_54 3 rfl (by decide) (by decide) rfl ?_ | refine z_iinc (pc := 54) (lv' := [(3, _), (0, _), (1, _), (2, _)]) C dX1_creditors_54 3 rfl _ rfl (by decide) rfl ?_
            refine z_goto (pc := 57) C 4 dX1_creditors_57 (by decide) ?_
            refine z_sub (lv' := [(0, _), (1, _), (2, _), (3, _)]) [1, 2, 3, 0] rfl ?_
            exact ih (f - 1) (by omega) (k + 1) _ ⟨by omega, by rw [he, sowe]; clear he ih; simp [*]⟩
          · skip
            refine z_iload_n (pc := 40) C dX1_creditors_40 2 rfl ?_
            refine z_iconst (pc := 41) C dX1_creditors_41 (nI 1) (by decide) ?_
            refine z_aload_n (pc := 42) C dX1_creditors_42 0 rfl ?_
            refine z_getf (pc := 43) C dX1_creditors_43 fX1_21 (by assumption) (by first | rfl | assumption) ?_
            refine z_getf (pc := 46) C dX1_creditors_46 fX1_72 (by assumption) (by first | rfl | assumption) ?_
            refine z_iload_n (pc := 49) C dX1_creditors_49 3 rfl ?_
            refine z_ialdE (pc := 50) C dX1_creditors_50 (by assumption) (by omega) (by decide) (rs k (by omega)) ?_
            first | refine z_ishlN (pc := 51) C dX1_creditors_51 (by omega) ?_ | refine z_ishl (pc := 51) C dX1_creditors_51 ?_
            first | refine z_iorN (pc := 52) C dX1_creditors_52 ?_ | refine z_ior (pc := 52) C dX1_creditors_52 ?_
            refine z_istore_n (pc := 53) (lv' := [(2, _), (0, _), (1, _), (3, _)]) C dX1_creditors_53 (by decide) rfl ?_
            first | refine z_iincN (pc := 54) (lv' := [(3, _), (2, _), (0, _), (1, _)]) C 1 dX1_creditors_54 3 rfl (by decide) (by decide) rfl ?_ | refine z_iinc (pc := 54) (lv' := [(3, _), (2, _), (0, _), (1, _)]) C dX1_creditors_54 3 rfl _ rfl (by decide) rfl ?_
            refine z_goto (pc := 57) C 4 dX1_creditors_57 (by decide) ?_
            refine z_sub (lv' := [(0, _), (1, _), (2, _), (3, _)]) [2, 3, 1, 0] rfl ?_
            exact ih (f - 1) (by omega) (k + 1) _ ⟨by omega, by rw [he, sowe]; clear he ih; simp [*]⟩
  exact lp4 (R 4) 0 0 ⟨by omega, rfl⟩

set_option maxRecDepth 20000 in
set_option maxHeartbeats 1000000 in
theorem tX1_killsToGiveBack {h : ZH} {s le tr t : Nat} {R S : Nat → Nat} (hC : Scn h s le tr t R S) (hR : wfR R) (hS : wfS R S) : ZD mX1_killsToGiveBack 0 [.ref s] h (some (.int (nI (samd R S (R 4))))) h := by
  intro n
  obtain ⟨w1, w3, w4, w5, w0, wP, wM, wK, wX⟩ := id hR
  obtain ⟨wT, wL, wB⟩ := id hS
  obtain ⟨hT, fl, ft, s0, s1, s2, rl, rt⟩ := id hC
  obtain ⟨fc, fh, fn, fk, fs, ff, fw, fe, t0, t1, t2, t3, t4, t5, t6, t7, t8, rc, rh, rn, rk, rs, rf, rv, re⟩ := id hT
  refine z_enter (lv := [(0, _)]) (by decide) (Nat.le_of_ble_eq_true rfl) rfl (fun X C => ?_)
  refine z_iconst (pc := 0) C dX1_killsToGiveBack_0 (nI 0) (by decide) ?_
  refine z_istore_n (pc := 1) (lv' := [(1, _), (0, _)]) C dX1_killsToGiveBack_1 (by decide) rfl ?_
  refine z_iconst (pc := 2) C dX1_killsToGiveBack_2 (nI 0) (by decide) ?_
  refine z_istore_n (pc := 3) (lv' := [(2, _), (1, _), (0, _)]) C dX1_killsToGiveBack_3 (by decide) rfl ?_
  refine z_sub (lv' := [(0, _), (1, _), (2, _)]) [2, 1, 0] rfl ?_
  have lp4 : ∀ (f : Nat) (k acc : Nat), (k + f = R 4 ∧ acc = samd R S k) → Zc X mX1_killsToGiveBack (zEnd X (fun r hh n' => r = (some (.int (nI (samd R S (R 4))))) ∧ hh = h ∧ n' = n) 0 0) 4 [(0, .ref s), (1, .int (nI acc)), (2, .int (nI k))] [] h n 0 0 := by
    intro f
    induction f using Nat.strongRecOn with
    | _ f ih =>
      intro k acc hk
      obtain ⟨hk, he⟩ := hk
      refine z_iload_n (pc := 4) C dX1_killsToGiveBack_4 2 rfl ?_
      refine z_aload_n (pc := 5) C dX1_killsToGiveBack_5 0 rfl ?_
      refine z_getf (pc := 6) C dX1_killsToGiveBack_6 fX1_21 (by assumption) (by first | rfl | assumption) ?_
      refine z_getf (pc := 9) C dX1_killsToGiveBack_9 fX1_38 (by assumption) (by first | rfl | assumption) ?_
      refine z_iconst (pc := 12) C dX1_killsToGiveBack_12 (nI 4) (by decide) ?_
      refine z_ialdE (pc := 13) C dX1_killsToGiveBack_13 (by assumption) (by omega) (by decide) (rc 4 (by decide) (by decide)) ?_
      first | refine z_icmpgeN (pc := 14) C 44 dX1_killsToGiveBack_14 (by decide) (by omega) (by omega) (fun hc14 => ?_) (fun hc14 => ?_) | refine z_icmp_ge (pc := 14) C 44 dX1_killsToGiveBack_14 (by decide) (fun hc14 => ?_) (fun hc14 => ?_)
      · skip
        refine z_iload_n (pc := 44) C dX1_killsToGiveBack_44 1 rfl ?_
        refine z_iret (pc := 45) C dX1_killsToGiveBack_45 rfl (Nat.zero_le _) (Nat.zero_le _) ⟨?_, ?_, rfl⟩
        · obtain rfl : f = 0 := (by omega); obtain rfl : k = R 4 := (by omega); rw [he] <;> rfl
        · rfl
      · skip
        refine z_aload_n (pc := 17) C dX1_killsToGiveBack_17 0 rfl ?_
        refine z_getf (pc := 18) C dX1_killsToGiveBack_18 fX1_69 (by assumption) (by first | rfl | assumption) ?_
        refine z_iload_n (pc := 21) C dX1_killsToGiveBack_21 2 rfl ?_
        refine z_ialdE (pc := 22) C dX1_killsToGiveBack_22 (by assumption) (by omega) (by decide) (rl k (by omega)) ?_
        refine z_aload_n (pc := 23) C dX1_killsToGiveBack_23 0 rfl ?_
        refine z_getf (pc := 24) C dX1_killsToGiveBack_24 fX1_21 (by assumption) (by first | rfl | assumption) ?_
        refine z_getf (pc := 27) C dX1_killsToGiveBack_27 fX1_72 (by assumption) (by first | rfl | assumption) ?_
        refine z_iload_n (pc := 30) C dX1_killsToGiveBack_30 2 rfl ?_
        refine z_ialdE (pc := 31) C dX1_killsToGiveBack_31 (by assumption) (by omega) (by decide) (rs k (by omega)) ?_
        have e1 := (wK k (by omega)).1
        have e2 := wL k (by omega)
        first | refine z_icmpeqN (pc := 32) C 38 dX1_killsToGiveBack_32 (by decide) (by omega) (by omega) (fun hc32 => ?_) (fun hc32 => ?_) | refine z_icmp_eq (pc := 32) C 38 dX1_killsToGiveBack_32 (by decide) (fun hc32 => ?_) (fun hc32 => ?_)
        · skip
          first | refine z_iincN (pc := 38) (lv' := [(2, _), (0, _), (1, _)]) C 1 dX1_killsToGiveBack_38 2 rfl (by decide) (by decide) rfl ?_ | refine z_iinc (pc := 38) (lv' := [(2, _), (0, _), (1, _)]) C dX1_killsToGiveBack_38 2 rfl _ rfl (by decide) rfl ?_
          refine z_goto (pc := 41) C 4 dX1_killsToGiveBack_41 (by decide) ?_
          refine z_sub (lv' := [(0, _), (1, _), (2, _)]) [1, 2, 0] rfl ?_
          exact ih (f - 1) (by omega) (k + 1) _ ⟨by omega, by rw [he, samd]; clear he ih; simp [*]⟩
        · skip
          first | refine z_iincN (pc := 35) (lv' := [(1, _), (0, _), (2, _)]) C 1 dX1_killsToGiveBack_35 1 rfl (by decide) (by decide) rfl ?_ | refine z_iinc (pc := 35) (lv' := [(1, _), (0, _), (2, _)]) C dX1_killsToGiveBack_35 1 rfl _ rfl (by decide) rfl ?_
          first | refine z_iincN (pc := 38) (lv' := [(2, _), (1, _), (0, _)]) C 1 dX1_killsToGiveBack_38 2 rfl (by decide) (by decide) rfl ?_ | refine z_iinc (pc := 38) (lv' := [(2, _), (1, _), (0, _)]) C dX1_killsToGiveBack_38 2 rfl _ rfl (by decide) rfl ?_
          refine z_goto (pc := 41) C 4 dX1_killsToGiveBack_41 (by decide) ?_
          refine z_sub (lv' := [(0, _), (1, _), (2, _)]) [2, 1, 0] rfl ?_
          exact ih (f - 1) (by omega) (k + 1) _ ⟨by omega, by rw [he, samd]; clear he ih; simp [*]⟩
  exact lp4 (R 4) 0 0 ⟨by omega, rfl⟩

set_option maxRecDepth 20000 in
set_option maxHeartbeats 1000000 in
theorem tX6_countOf {h : ZH} {s le tr t : Nat} {R S : Nat → Nat} {g m : Nat} (hC : Scn h s le tr t R S) (hR : wfR R) (hS : wfS R S) (hg : g < R 5) (hm : m < R 3) : ZD mX6_countOf 2 [.ref s, .int (nI g), .int (nI m)] h (some (.int (nI (sfi R S g m 4)))) h := by
  intro n
  obtain ⟨w1, w3, w4, w5, w0, wP, wM, wK, wX⟩ := id hR
  obtain ⟨wT, wL, wB⟩ := id hS
  obtain ⟨hT, fl, ft, s0, s1, s2, rl, rt⟩ := id hC
  obtain ⟨fc, fh, fn, fk, fs, ff, fw, fe, t0, t1, t2, t3, t4, t5, t6, t7, t8, rc, rh, rn, rk, rs, rf, rv, re⟩ := id hT
  have e0 := wX g hg
  refine z_enter (lv := [(0, _), (1, _), (2, _)]) (by decide) (Nat.le_of_ble_eq_true rfl) rfl (fun X C => ?_)
  refine z_iconst (pc := 0) C dX6_countOf_0 (nI 0) (by decide) ?_
  refine z_istore_n (pc := 1) (lv' := [(3, _), (0, _), (1, _), (2, _)]) C dX6_countOf_1 (by decide) rfl ?_
  refine z_iconst (pc := 2) C dX6_countOf_2 (nI 0) (by decide) ?_
  refine z_istore (pc := 3) (lv' := [(4, _), (3, _), (0, _), (1, _), (2, _)]) C dX6_countOf_3 (by decide) rfl ?_
  refine z_sub (lv' := [(0, _), (1, _), (2, _), (3, _), (4, _)]) [2, 3, 4, 1, 0] rfl ?_
  have lp5 : ∀ (f : Nat) (k acc : Nat), (k + f = 4 ∧ acc = sfi R S g m k) → Zc X mX6_countOf (zEnd X (fun r hh n' => r = (some (.int (nI (sfi R S g m 4)))) ∧ hh = h ∧ n' = n) 0 0) 5 [(0, .ref s), (1, .int (nI g)), (2, .int (nI m)), (3, .int (nI acc)), (4, .int (nI k))] [] h n 0 0 := by
    intro f
    induction f using Nat.strongRecOn with
    | _ f ih =>
      intro k acc hk
      obtain ⟨hk, he⟩ := hk
      refine z_iload (pc := 5) C dX6_countOf_5 4 rfl ?_
      refine z_iconst (pc := 7) C dX6_countOf_7 (nI 3) (by decide) ?_
      first | refine z_icmpgtN (pc := 8) C 39 dX6_countOf_8 (by decide) (by omega) (by omega) (fun hc8 => ?_) (fun hc8 => ?_) | refine z_icmp_gt (pc := 8) C 39 dX6_countOf_8 (by decide) (fun hc8 => ?_) (fun hc8 => ?_)
      · skip
        refine z_iload_n (pc := 39) C dX6_countOf_39 3 rfl ?_
        refine z_iret (pc := 40) C dX6_countOf_40 rfl (Nat.zero_le _) (Nat.zero_le _) ⟨?_, ?_, rfl⟩
        · obtain rfl : k = 4 := (by omega); rw [he]
        · rfl
      · skip
        refine z_aload_n (pc := 11) C dX6_countOf_11 0 rfl ?_
        refine z_iload_n (pc := 12) C dX6_countOf_12 2 rfl ?_
        refine z_iload (pc := 13) C dX6_countOf_13 4 rfl ?_
        refine z_cV1 (pc := 15) mX5_standBehind C [_, _] dX6_countOf_15 lX6_9 mtX5_standBehind (tX5_standBehind hC hR hS hm (by omega)) (by assumption) rfl rfl (by decide) (Nat.le_of_ble_eq_true rfl) (Nat.zero_le _) (Nat.zero_le _) ?_
        refine z_aload_n (pc := 18) C dX6_countOf_18 0 rfl ?_
        refine z_getf (pc := 19) C dX6_countOf_19 fX6_15 (by assumption) (by first | rfl | assumption) ?_
        refine z_getf (pc := 22) C dX6_countOf_22 fX6_19 (by assumption) (by first | rfl | assumption) ?_
        refine z_iload_n (pc := 25) C dX6_countOf_25 1 rfl ?_
        refine z_ialdE (pc := 26) C dX6_countOf_26 (by assumption) (by omega) (by decide) (re g hg) ?_
        have e2 : ∀ q, sdark S m (8 - sbeh R m k) (sbeh R m k) = some q → q < 2147483648 := fun q hq => by have := sdark_lt (fun j hj => wT m hm j hj) _ _ _ (by have := sbeh_le R (m := m) (far := k) (by omega); omega) hq; omega
        refine z_icmp_ne (pc := 27) C 33 dX6_countOf_27 (by decide) (fun hc27 => ?_) (fun hc27 => ?_)
        · skip
          have e5 : sfit R S g m k = false := decide_eq_false (fun z => hc27 ((zo_eq (by omega) e2).mpr z))
          first | refine z_iincN (pc := 33) (lv' := [(4, _), (0, _), (1, _), (2, _), (3, _)]) C 1 dX6_countOf_33 4 rfl (by decide) (by decide) rfl ?_ | refine z_iinc (pc := 33) (lv' := [(4, _), (0, _), (1, _), (2, _), (3, _)]) C dX6_countOf_33 4 rfl _ rfl (by decide) rfl ?_
          refine z_goto (pc := 36) C 5 dX6_countOf_36 (by decide) ?_
          refine z_sub (lv' := [(0, _), (1, _), (2, _), (3, _), (4, _)]) [1, 2, 3, 4, 0] rfl ?_
          exact ih (f - 1) (by omega) (k + 1) _ ⟨by omega, by rw [he, sfi, e5]; simp⟩
        · skip
          have e5 : sfit R S g m k = true := decide_eq_true ((zo_eq (by omega) e2).mp hc27)
          first | refine z_iincN (pc := 30) (lv' := [(3, _), (0, _), (1, _), (2, _), (4, _)]) C 1 dX6_countOf_30 3 rfl (by decide) (by decide) rfl ?_ | refine z_iinc (pc := 30) (lv' := [(3, _), (0, _), (1, _), (2, _), (4, _)]) C dX6_countOf_30 3 rfl _ rfl (by decide) rfl ?_
          first | refine z_iincN (pc := 33) (lv' := [(4, _), (3, _), (0, _), (1, _), (2, _)]) C 1 dX6_countOf_33 4 rfl (by decide) (by decide) rfl ?_ | refine z_iinc (pc := 33) (lv' := [(4, _), (3, _), (0, _), (1, _), (2, _)]) C dX6_countOf_33 4 rfl _ rfl (by decide) rfl ?_
          refine z_goto (pc := 36) C 5 dX6_countOf_36 (by decide) ?_
          refine z_sub (lv' := [(0, _), (1, _), (2, _), (3, _), (4, _)]) [2, 3, 4, 1, 0] rfl ?_
          exact ih (f - 1) (by omega) (k + 1) _ ⟨by omega, by rw [he, sfi, e5]; simp⟩
  exact lp5 4 0 0 ⟨by omega, rfl⟩

set_option maxRecDepth 20000 in
set_option maxHeartbeats 1000000 in
theorem tX6_countAll {h : ZH} {s le tr t : Nat} {R S : Nat → Nat} {g : Nat} (hC : Scn h s le tr t R S) (hR : wfR R) (hS : wfS R S) (hg : g < R 5) : ZD mX6_countAll 3 [.ref s, .int (nI g)] h (some (.int (nI (sfs R S g (R 3))))) h := by
  intro n
  obtain ⟨w1, w3, w4, w5, w0, wP, wM, wK, wX⟩ := id hR
  obtain ⟨wT, wL, wB⟩ := id hS
  obtain ⟨hT, fl, ft, s0, s1, s2, rl, rt⟩ := id hC
  obtain ⟨fc, fh, fn, fk, fs, ff, fw, fe, t0, t1, t2, t3, t4, t5, t6, t7, t8, rc, rh, rn, rk, rs, rf, rv, re⟩ := id hT
  refine z_enter (lv := [(0, _), (1, _)]) (by decide) (Nat.le_of_ble_eq_true rfl) rfl (fun X C => ?_)
  refine z_iconst (pc := 0) C dX6_countAll_0 (nI 0) (by decide) ?_
  refine z_istore_n (pc := 1) (lv' := [(2, _), (0, _), (1, _)]) C dX6_countAll_1 (by decide) rfl ?_
  refine z_iconst (pc := 2) C dX6_countAll_2 (nI 0) (by decide) ?_
  refine z_istore_n (pc := 3) (lv' := [(3, _), (2, _), (0, _), (1, _)]) C dX6_countAll_3 (by decide) rfl ?_
  refine z_sub (lv' := [(0, _), (1, _), (2, _), (3, _)]) [2, 3, 1, 0] rfl ?_
  have lp4 : ∀ (f : Nat) (k acc : Nat), (k + f = R 3 ∧ acc = sfs R S g k) → Zc X mX6_countAll (zEnd X (fun r hh n' => r = (some (.int (nI (sfs R S g (R 3))))) ∧ hh = h ∧ n' = n) 0 0) 4 [(0, .ref s), (1, .int (nI g)), (2, .int (nI acc)), (3, .int (nI k))] [] h n 0 0 := by
    intro f
    induction f using Nat.strongRecOn with
    | _ f ih =>
      intro k acc hk
      obtain ⟨hk, he⟩ := hk
      refine z_iload_n (pc := 4) C dX6_countAll_4 3 rfl ?_
      refine z_aload_n (pc := 5) C dX6_countAll_5 0 rfl ?_
      refine z_getf (pc := 6) C dX6_countAll_6 fX6_15 (by assumption) (by first | rfl | assumption) ?_
      refine z_getf (pc := 9) C dX6_countAll_9 fX6_25 (by assumption) (by first | rfl | assumption) ?_
      refine z_iconst (pc := 12) C dX6_countAll_12 (nI 3) (by decide) ?_
      refine z_ialdE (pc := 13) C dX6_countAll_13 (by assumption) (by omega) (by decide) (rc 3 (by decide) (by decide)) ?_
      first | refine z_icmpgeN (pc := 14) C 32 dX6_countAll_14 (by decide) (by omega) (by omega) (fun hc14 => ?_) (fun hc14 => ?_) | refine z_icmp_ge (pc := 14) C 32 dX6_countAll_14 (by decide) (fun hc14 => ?_) (fun hc14 => ?_)
      · skip
        refine z_iload_n (pc := 32) C dX6_countAll_32 2 rfl ?_
        refine z_iret (pc := 33) C dX6_countAll_33 rfl (Nat.zero_le _) (Nat.zero_le _) ⟨?_, ?_, rfl⟩
        · obtain rfl : f = 0 := (by omega); obtain rfl : k = R 3 := (by omega); rw [he] <;> rfl
        · rfl
      · skip
        refine z_iload_n (pc := 17) C dX6_countAll_17 2 rfl ?_
        refine z_aload_n (pc := 18) C dX6_countAll_18 0 rfl ?_
        refine z_iload_n (pc := 19) C dX6_countAll_19 1 rfl ?_
        refine z_iload_n (pc := 20) C dX6_countAll_20 3 rfl ?_
        refine z_cS1 (pc := 21) mX6_countOf C [_, _, _] dX6_countAll_21 lX6_28 mtX6_countOf (tX6_countOf hC hR hS hg (by omega)) rfl rfl (by decide) (Nat.le_of_ble_eq_true rfl) (Nat.zero_le _) (Nat.zero_le _) ?_
        first | refine z_iaddN (pc := 24) C dX6_countAll_24 ?_ | refine z_iadd (pc := 24) C dX6_countAll_24 ?_
        refine z_istore_n (pc := 25) (lv' := [(2, _), (0, _), (1, _), (3, _)]) C dX6_countAll_25 (by decide) rfl ?_
        first | refine z_iincN (pc := 26) (lv' := [(3, _), (2, _), (0, _), (1, _)]) C 1 dX6_countAll_26 3 rfl (by decide) (by decide) rfl ?_ | refine z_iinc (pc := 26) (lv' := [(3, _), (2, _), (0, _), (1, _)]) C dX6_countAll_26 3 rfl _ rfl (by decide) rfl ?_
        refine z_goto (pc := 29) C 4 dX6_countAll_29 (by decide) ?_
        refine z_sub (lv' := [(0, _), (1, _), (2, _), (3, _)]) [2, 3, 1, 0] rfl ?_
        exact ih (f - 1) (by omega) (k + 1) _ ⟨by omega, by rw [he]; rfl⟩
  exact lp4 (R 3) 0 0 ⟨by omega, rfl⟩

set_option maxRecDepth 20000 in
set_option maxHeartbeats 1000000 in
theorem tX6_menOfFits {h : ZH} {s le tr t : Nat} {R S : Nat → Nat} {g : Nat} (hC : Scn h s le tr t R S) (hR : wfR R) (hS : wfS R S) (hg : g < R 5) : ZD mX6_menOfFits 3 [.ref s, .int (nI g)] h (some (.int (nI (sbits (fun m => decide (0 < sfi R S g m 4)) (R 3))))) h := by
  intro n
  obtain ⟨w1, w3, w4, w5, w0, wP, wM, wK, wX⟩ := id hR
  obtain ⟨wT, wL, wB⟩ := id hS
  obtain ⟨hT, fl, ft, s0, s1, s2, rl, rt⟩ := id hC
  obtain ⟨fc, fh, fn, fk, fs, ff, fw, fe, t0, t1, t2, t3, t4, t5, t6, t7, t8, rc, rh, rn, rk, rs, rf, rv, re⟩ := id hT
  refine z_enter (lv := [(0, _), (1, _)]) (by decide) (Nat.le_of_ble_eq_true rfl) rfl (fun X C => ?_)
  refine z_iconst (pc := 0) C dX6_menOfFits_0 (nI 0) (by decide) ?_
  refine z_istore_n (pc := 1) (lv' := [(2, _), (0, _), (1, _)]) C dX6_menOfFits_1 (by decide) rfl ?_
  refine z_iconst (pc := 2) C dX6_menOfFits_2 (nI 0) (by decide) ?_
  refine z_istore_n (pc := 3) (lv' := [(3, _), (2, _), (0, _), (1, _)]) C dX6_menOfFits_3 (by decide) rfl ?_
  refine z_sub (lv' := [(0, _), (1, _), (2, _), (3, _)]) [2, 3, 1, 0] rfl ?_
  have lp4 : ∀ (f : Nat) (k acc : Nat), (k + f = R 3 ∧ acc = sbits (fun m => decide (0 < sfi R S g m 4)) k) → Zc X mX6_menOfFits (zEnd X (fun r hh n' => r = (some (.int (nI (sbits (fun m => decide (0 < sfi R S g m 4)) (R 3))))) ∧ hh = h ∧ n' = n) 0 0) 4 [(0, .ref s), (1, .int (nI g)), (2, .int (nI acc)), (3, .int (nI k))] [] h n 0 0 := by
    intro f
    induction f using Nat.strongRecOn with
    | _ f ih =>
      intro k acc hk
      obtain ⟨hk, he⟩ := hk
      refine z_iload_n (pc := 4) C dX6_menOfFits_4 3 rfl ?_
      refine z_aload_n (pc := 5) C dX6_menOfFits_5 0 rfl ?_
      refine z_getf (pc := 6) C dX6_menOfFits_6 fX6_15 (by assumption) (by first | rfl | assumption) ?_
      refine z_getf (pc := 9) C dX6_menOfFits_9 fX6_25 (by assumption) (by first | rfl | assumption) ?_
      refine z_iconst (pc := 12) C dX6_menOfFits_12 (nI 3) (by decide) ?_
      refine z_ialdE (pc := 13) C dX6_menOfFits_13 (by assumption) (by omega) (by decide) (rc 3 (by decide) (by decide)) ?_
      first | refine z_icmpgeN (pc := 14) C 38 dX6_menOfFits_14 (by decide) (by omega) (by omega) (fun hc14 => ?_) (fun hc14 => ?_) | refine z_icmp_ge (pc := 14) C 38 dX6_menOfFits_14 (by decide) (fun hc14 => ?_) (fun hc14 => ?_)
      · skip
        refine z_iload_n (pc := 38) C dX6_menOfFits_38 2 rfl ?_
        refine z_iret (pc := 39) C dX6_menOfFits_39 rfl (Nat.zero_le _) (Nat.zero_le _) ⟨?_, ?_, rfl⟩
        · obtain rfl : f = 0 := (by omega); obtain rfl : k = R 3 := (by omega); rw [he] <;> rfl
        · rfl
      · skip
        refine z_aload_n (pc := 17) C dX6_menOfFits_17 0 rfl ?_
        refine z_iload_n (pc := 18) C dX6_menOfFits_18 1 rfl ?_
        refine z_iload_n (pc := 19) C dX6_menOfFits_19 3 rfl ?_
        refine z_cS1 (pc := 20) mX6_countOf C [_, _, _] dX6_menOfFits_20 lX6_28 mtX6_countOf (tX6_countOf hC hR hS hg (by omega)) rfl rfl (by decide) (Nat.le_of_ble_eq_true rfl) (Nat.zero_le _) (Nat.zero_le _) ?_
        have e1 := sfi_le R S g k 4
        first | refine z_ifleN (pc := 23) C 32 dX6_menOfFits_23 (by decide) (by omega) (fun hc23 => ?_) (fun hc23 => ?_) | refine z_if_le (pc := 23) C 32 dX6_menOfFits_23 (by decide) (fun hc23 => ?_) (fun hc23 => ?_)
        · skip
          first | refine z_iincN (pc := 32) (lv' := [(3, _), (0, _), (1, _), (2, _)]) C 1 dX6_menOfFits_32 3 rfl (by decide) (by decide) rfl ?_ | refine z_iinc (pc := 32) (lv' := [(3, _), (0, _), (1, _), (2, _)]) C dX6_menOfFits_32 3 rfl _ rfl (by decide) rfl ?_
          refine z_goto (pc := 35) C 4 dX6_menOfFits_35 (by decide) ?_
          refine z_sub (lv' := [(0, _), (1, _), (2, _), (3, _)]) [1, 2, 3, 0] rfl ?_
          exact ih (f - 1) (by omega) (k + 1) _ ⟨by omega, by rw [he, sbits]; clear he ih; simp [*]⟩
        · skip
          refine z_iload_n (pc := 26) C dX6_menOfFits_26 2 rfl ?_
          refine z_iconst (pc := 27) C dX6_menOfFits_27 (nI 1) (by decide) ?_
          refine z_iload_n (pc := 28) C dX6_menOfFits_28 3 rfl ?_
          first | refine z_ishlN (pc := 29) C dX6_menOfFits_29 (by omega) ?_ | refine z_ishl (pc := 29) C dX6_menOfFits_29 ?_
          first | refine z_iorN (pc := 30) C dX6_menOfFits_30 ?_ | refine z_ior (pc := 30) C dX6_menOfFits_30 ?_
          refine z_istore_n (pc := 31) (lv' := [(2, _), (0, _), (1, _), (3, _)]) C dX6_menOfFits_31 (by decide) rfl ?_
          first | refine z_iincN (pc := 32) (lv' := [(3, _), (2, _), (0, _), (1, _)]) C 1 dX6_menOfFits_32 3 rfl (by decide) (by decide) rfl ?_ | refine z_iinc (pc := 32) (lv' := [(3, _), (2, _), (0, _), (1, _)]) C dX6_menOfFits_32 3 rfl _ rfl (by decide) rfl ?_
          refine z_goto (pc := 35) C 4 dX6_menOfFits_35 (by decide) ?_
          refine z_sub (lv' := [(0, _), (1, _), (2, _), (3, _)]) [2, 3, 1, 0] rfl ?_
          exact ih (f - 1) (by omega) (k + 1) _ ⟨by omega, by rw [he, sbits]; clear he ih; simp [*]⟩
  exact lp4 (R 3) 0 0 ⟨by omega, rfl⟩

set_option maxRecDepth 20000 in
set_option maxHeartbeats 1000000 in
theorem tX6_leftBehind {h : ZH} {s le tr t : Nat} {R S : Nat → Nat} {g m : Nat} (hC : Scn h s le tr t R S) (hR : wfR R) (hS : wfS R S) (hg : g < R 5) (hm : m < R 3) : ZD mX6_leftBehind 4 [.ref s, .int (nI g), .int (nI m)] h (some (.int (nI (slea R S g m)))) h := by
  intro n
  obtain ⟨w1, w3, w4, w5, w0, wP, wM, wK, wX⟩ := id hR
  obtain ⟨hT, fl, ft, s0, s1, s2, rl, rt⟩ := id hC
  have e1 := sfs_ge R S g m (R 3) hm
  have e2 := sfs_le R S g (R 3)
  refine z_enter (lv := [(0, _), (1, _), (2, _)]) (by decide) (Nat.le_of_ble_eq_true rfl) rfl (fun X C => ?_)
  refine z_aload_n (pc := 0) C dX6_leftBehind_0 0 rfl ?_
  refine z_iload_n (pc := 1) C dX6_leftBehind_1 1 rfl ?_
  refine z_iload_n (pc := 2) C dX6_leftBehind_2 2 rfl ?_
  refine z_cS1 (pc := 3) mX6_countOf C [_, _, _] dX6_leftBehind_3 lX6_28 mtX6_countOf (tX6_countOf (by first | assumption | omega) (by first | assumption | omega) (by first | assumption | omega) (by first | assumption | omega) (by first | assumption | omega)) rfl rfl (by decide) (Nat.le_of_ble_eq_true rfl) (Nat.zero_le _) (Nat.zero_le _) ?_
  refine z_istore_n (pc := 6) (lv' := [(3, _), (0, _), (1, _), (2, _)]) C dX6_leftBehind_6 (by decide) rfl ?_
  refine z_iload_n (pc := 7) C dX6_leftBehind_7 0 rfl ?_
  refine z_aload_n (pc := 8) C dX6_leftBehind_8 1 rfl ?_
  refine z_iload_n (pc := 9) C dX6_leftBehind_9 2 rfl ?_
  refine z_cS1 (pc := 10) mX6_countAll C [_, _] dX6_leftBehind_10 lX6_38 mtX6_countAll (tX6_countAll (by first | assumption | omega) (by first | assumption | omega) (by first | assumption | omega) (by first | assumption | omega)) rfl rfl (by decide) (Nat.le_of_ble_eq_true rfl) (Nat.zero_le _) (Nat.zero_le _) ?_
  refine z_iload_n (pc := 13) C dX6_leftBehind_13 0 rfl ?_
  first | refine z_isubN (pc := 14) C dX6_leftBehind_14 (by omega) ?_ | refine z_isub (pc := 14) C dX6_leftBehind_14 ?_
  refine z_mmax (pc := 15) C dX6_leftBehind_15 lX6_41 zw_mx_s zw_mi zw_mx_c (by decide) (Nat.le_of_ble_eq_true rfl) (Nat.zero_le _) (Nat.zero_le _) ?_
  refine z_top (show (if nI (sfi R S g m 4) < nI (sfs R S g (R 3) - sfi R S g m 4) then nI (sfs R S g (R 3) - sfi R S g m 4) else nI (sfi R S g m 4)) = nI (slea R S g m) from by unfold slea; by_cases z : sfi R S g m 4 < sfs R S g (R 3) - sfi R S g m 4; (rw [if_pos (nI_lt z (by omega)), Nat.max_eq_right (by omega)]); (rw [if_neg (nI_nlt (by omega) (by omega)), Nat.max_eq_left (by omega)])) ?_
  refine z_iret (pc := 18) C dX6_leftBehind_18 rfl (Nat.zero_le _) (Nat.zero_le _) ⟨?_, ?_, rfl⟩
  · first | rfl | simp_all
  · rfl

set_option maxRecDepth 20000 in
set_option maxHeartbeats 1000000 in
theorem tX6_manToAsk {h : ZH} {s le tr t : Nat} {R S : Nat → Nat} {g : Nat} (hC : Scn h s le tr t R S) (hR : wfR R) (hS : wfS R S) (hg : g < R 5) : ZD mX6_manToAsk 5 [.ref s, .int (nI g)] h (some (.int (zo (if 0 < sfs R S g (R 3) then some (sask (slea R S g) (R 3)) else none)))) h := by
  intro n
  obtain ⟨w1, w3, w4, w5, w0, wP, wM, wK, wX⟩ := id hR
  obtain ⟨wT, wL, wB⟩ := id hS
  obtain ⟨hT, fl, ft, s0, s1, s2, rl, rt⟩ := id hC
  obtain ⟨fc, fh, fn, fk, fs, ff, fw, fe, t0, t1, t2, t3, t4, t5, t6, t7, t8, rc, rh, rn, rk, rs, rf, rv, re⟩ := id hT
  have e0 := sfs_le R S g (R 3)
  refine z_enter (lv := [(0, _), (1, _)]) (by decide) (Nat.le_of_ble_eq_true rfl) rfl (fun X C => ?_)
  refine z_aload_n (pc := 0) C dX6_manToAsk_0 0 rfl ?_
  refine z_iload_n (pc := 1) C dX6_manToAsk_1 1 rfl ?_
  refine z_cS1 (pc := 2) mX6_countAll C [_, _] dX6_manToAsk_2 lX6_38 mtX6_countAll (tX6_countAll (by first | assumption | omega) (by first | assumption | omega) (by first | assumption | omega) (by first | assumption | omega)) rfl rfl (by decide) (Nat.le_of_ble_eq_true rfl) (Nat.zero_le _) (Nat.zero_le _) ?_
  first | refine z_ifneB (pc := 5) C 11 dX6_manToAsk_5 (by decide) (fun hc5 => ?_) (fun hc5 => ?_) | refine z_ifneN (pc := 5) C 11 dX6_manToAsk_5 (by decide) (by omega) (fun hc5 => ?_) (fun hc5 => ?_) | refine z_if_ne (pc := 5) C 11 dX6_manToAsk_5 (by decide) (fun hc5 => ?_) (fun hc5 => ?_)
  · skip
    refine z_iconst (pc := 11) C dX6_manToAsk_11 (nI 0) (by decide) ?_
    refine z_istore_n (pc := 12) (lv' := [(2, _), (0, _), (1, _)]) C dX6_manToAsk_12 (by decide) rfl ?_
    refine z_iconst (pc := 13) C dX6_manToAsk_13 (nI 1) (by decide) ?_
    refine z_istore_n (pc := 14) (lv' := [(3, _), (2, _), (0, _), (1, _)]) C dX6_manToAsk_14 (by decide) rfl ?_
    refine z_sub (lv' := [(0, _), (1, _), (2, _), (3, _)]) [2, 3, 1, 0] rfl ?_
    have lp15 : ∀ (f : Nat) (k u : Nat), (k + f = R 3 ∧ 0 < k ∧ u = sask (slea R S g) k) → Zc X mX6_manToAsk (zEnd X (fun r hh n' => r = (some (.int (zo (if 0 < sfs R S g (R 3) then some (sask (slea R S g) (R 3)) else none)))) ∧ hh = h ∧ n' = n) 0 0) 15 [(0, .ref s), (1, .int (nI g)), (2, .int (nI u)), (3, .int (nI k))] [] h n 0 0 := by
      intro f
      induction f using Nat.strongRecOn with
      | _ f ih =>
        intro k u hk
        obtain ⟨hk, hk0, he⟩ := hk
        have e1 := sask_lt (slea R S g) k hk0
        have e2 := slea_le R S g k w3
        have e3 := slea_le R S g u w3
        refine z_iload_n (pc := 15) C dX6_manToAsk_15 3 rfl ?_
        refine z_aload_n (pc := 16) C dX6_manToAsk_16 0 rfl ?_
        refine z_getf (pc := 17) C dX6_manToAsk_17 fX6_15 (by assumption) (by first | rfl | assumption) ?_
        refine z_getf (pc := 20) C dX6_manToAsk_20 fX6_25 (by assumption) (by first | rfl | assumption) ?_
        refine z_iconst (pc := 23) C dX6_manToAsk_23 (nI 3) (by decide) ?_
        refine z_ialdE (pc := 24) C dX6_manToAsk_24 (by assumption) (by omega) (by decide) (rc 3 (by decide) (by decide)) ?_
        first | refine z_icmpgeN (pc := 25) C 51 dX6_manToAsk_25 (by decide) (by omega) (by omega) (fun hc25 => ?_) (fun hc25 => ?_) | refine z_icmp_ge (pc := 25) C 51 dX6_manToAsk_25 (by decide) (fun hc25 => ?_) (fun hc25 => ?_)
        · skip
          refine z_iload_n (pc := 51) C dX6_manToAsk_51 2 rfl ?_
          refine z_iret (pc := 52) C dX6_manToAsk_52 rfl (Nat.zero_le _) (Nat.zero_le _) ⟨?_, ?_, rfl⟩
          · rw [if_pos hc5]; obtain rfl : f = 0 := (by omega); obtain rfl : k = R 3 := (by omega); rw [he]; rfl
          · rfl
        · skip
          refine z_aload_n (pc := 28) C dX6_manToAsk_28 0 rfl ?_
          refine z_iload_n (pc := 29) C dX6_manToAsk_29 1 rfl ?_
          refine z_iload_n (pc := 30) C dX6_manToAsk_30 3 rfl ?_
          refine z_cS1 (pc := 31) mX6_leftBehind C [_, _, _] dX6_manToAsk_31 lX6_46 mtX6_leftBehind (tX6_leftBehind hC hR hS hg (by omega)) rfl rfl (by decide) (Nat.le_of_ble_eq_true rfl) (Nat.zero_le _) (Nat.zero_le _) ?_
          refine z_aload_n (pc := 34) C dX6_manToAsk_34 0 rfl ?_
          refine z_iload_n (pc := 35) C dX6_manToAsk_35 1 rfl ?_
          refine z_iload_n (pc := 36) C dX6_manToAsk_36 2 rfl ?_
          refine z_cS1 (pc := 37) mX6_leftBehind C [_, _, _] dX6_manToAsk_37 lX6_46 mtX6_leftBehind (tX6_leftBehind hC hR hS hg (by omega)) rfl rfl (by decide) (Nat.le_of_ble_eq_true rfl) (Nat.zero_le _) (Nat.zero_le _) ?_
          first | refine z_icmpgeN (pc := 40) C 45 dX6_manToAsk_40 (by decide) (by omega) (by omega) (fun hc40 => ?_) (fun hc40 => ?_) | refine z_icmp_ge (pc := 40) C 45 dX6_manToAsk_40 (by decide) (fun hc40 => ?_) (fun hc40 => ?_)
          · skip
            first | refine z_iincN (pc := 45) (lv' := [(3, _), (0, _), (1, _), (2, _)]) C 1 dX6_manToAsk_45 3 rfl (by decide) (by decide) rfl ?_ | refine z_iinc (pc := 45) (lv' := [(3, _), (0, _), (1, _), (2, _)]) C dX6_manToAsk_45 3 rfl _ rfl (by decide) rfl ?_
            refine z_goto (pc := 48) C 15 dX6_manToAsk_48 (by decide) ?_
            refine z_sub (lv' := [(0, _), (1, _), (2, _), (3, _)]) [1, 2, 3, 0] rfl ?_
            exact ih (f - 1) (by omega) (k + 1) _ ⟨by omega, by omega, by rw [sask, if_neg (by omega), ← he]; first | (rw [if_neg (Nat.not_lt.mpr hc40)]; done) | (rw [if_pos hc40]; done)⟩
          · skip
            refine z_iload_n (pc := 43) C dX6_manToAsk_43 3 rfl ?_
            refine z_istore_n (pc := 44) (lv' := [(2, _), (0, _), (1, _), (3, _)]) C dX6_manToAsk_44 (by decide) rfl ?_
            first | refine z_iincN (pc := 45) (lv' := [(3, _), (2, _), (0, _), (1, _)]) C 1 dX6_manToAsk_45 3 rfl (by decide) (by decide) rfl ?_ | refine z_iinc (pc := 45) (lv' := [(3, _), (2, _), (0, _), (1, _)]) C dX6_manToAsk_45 3 rfl _ rfl (by decide) rfl ?_
            refine z_goto (pc := 48) C 15 dX6_manToAsk_48 (by decide) ?_
            refine z_sub (lv' := [(0, _), (1, _), (2, _), (3, _)]) [2, 3, 1, 0] rfl ?_
            exact ih (f - 1) (by omega) (k + 1) _ ⟨by omega, by omega, by rw [sask, if_neg (by omega), ← he]; first | (rw [if_neg (Nat.not_lt.mpr hc40)]; done) | (rw [if_pos hc40]; done)⟩
    exact lp15 (R 3 - 1) 1 0 ⟨by omega, by omega, rfl⟩
  · skip
    refine z_bipush (pc := 8) C dX6_manToAsk_8 (-2) (by decide) ?_
    refine z_iret (pc := 10) C dX6_manToAsk_10 rfl (Nat.zero_le _) (Nat.zero_le _) ⟨?_, ?_, rfl⟩
    · rw [if_neg (by omega)]; rfl
    · rfl
