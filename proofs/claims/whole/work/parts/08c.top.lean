def srob (R S : Nat → Nat) : Nat → Option Nat × Option Nat
  | 0 => (none, none)
  | m + 1 => if sSho R m &&& (sFol R S m ^^^ 127) = 0 then srob R S m else match (srob R S m).2 with
    | none => (some m, some (sWor R (sSho R m &&& (sFol R S m ^^^ 127))))
    | some w => if sWor R (sSho R m &&& (sFol R S m ^^^ 127)) ≤ w then srob R S m else (some m, some (sWor R (sSho R m &&& (sFol R S m ^^^ 127))))
theorem srob_lt {R : Nat → Nat} (hR : wfR R) (S : Nat → Nat) : ∀ m w, (srob R S m).2 = some w → w ≤ 120 := by
  intro m
  induction m with
  | zero => intro w h; cases h
  | succ m ih =>
    intro w h
    have hw : ∀ a, sWor R a ≤ 120 := fun a => by
      have h1 := swor_le hR a (R 4) (Nat.le_refl _)
      have h2 := hR.2.2.1
      show swor R a (R 4) ≤ _
      omega
    rw [srob] at h
    split at h
    · exact ih w h
    · split at h
      · cases h; exact hw _
      · split at h
        · exact ih w h
        · cases h; exact hw _
def aRob (R S : Nat → Nat) : Int32 × Int32 := aF R (zo (srob R S (R 3)).1)
theorem sWor_le {R : Nat → Nat} (hR : wfR R) (a : Nat) : sWor R a ≤ 120 := by
  have h1 := swor_le hR a (R 4) (Nat.le_refl _)
  have h2 := hR.2.2.1
  show swor R a (R 4) ≤ _
  omega

set_option maxRecDepth 20000 in
set_option maxHeartbeats 1000000 in
theorem tX12_seekRests {h : ZH} {v : Nat → Int32} {w : Nat} (hM : h 1063 = some (zO 8 (mfs v))) : ZD mX12_seekRests 2 [.ref 1063, .int (nI w)] h (some (.int (nI (srn w 4)))) (zup h 1063 (zO 8 (mfs (upd v 31 (zo (srf w 4)))))) := by
  intro n
  refine z_enter (lv := [(0, _), (1, _)]) (by decide) (Nat.le_of_ble_eq_true rfl) rfl (fun X C => ?_)
  refine z_iconst (pc := 0) C dX12_seekRests_0 (nI 0) (by decide) ?_
  refine z_istore_n (pc := 1) (lv' := [(2, _), (0, _), (1, _)]) C dX12_seekRests_1 (by decide) rfl ?_
  refine z_aload_n (pc := 2) C dX12_seekRests_2 1 rfl ?_
  refine z_bipush (pc := 3) C dX12_seekRests_3 (zo none) (by decide) ?_
  refine z_putf (pc := 5) (fs' := mfs (upd _ 31 _)) C dX12_seekRests_5 gX12_377 (by assumption) (fun _ => ⟨rfl, rfl⟩) (by exact Nat.le_of_ble_eq_true rfl) (mfs_set _ 31 _ (by decide)) ?_
  refine z_iconst (pc := 8) C dX12_seekRests_8 (nI 0) (by decide) ?_
  refine z_istore_n (pc := 9) (lv' := [(3, _), (2, _), (0, _), (1, _)]) C dX12_seekRests_9 (by decide) rfl ?_
  refine z_sub (lv' := [(0, _), (1, _), (2, _), (3, _)]) [2, 3, 1, 0] rfl ?_
  have lp10 : ∀ (f : Nat) (k acc : Nat) (g : Option Nat), (k + f = 4 ∧ acc = srn w k ∧ g = srf w k ∧ (acc = 0 ↔ g = none)) → Zc X mX12_seekRests (zEnd X (fun r hh n' => r = (some (.int (nI (srn w 4)))) ∧ hh = (zup h 1063 (zO 8 (mfs (upd v 31 (zo (srf w 4)))))) ∧ n' = n) 0 0) 10 [(0, .ref 1063), (1, .int (nI w)), (2, .int (nI acc)), (3, .int (nI k))] [] (zup h 1063 (zO 8 (mfs (upd v 31 (zo g))))) n 0 0 := by
    intro f
    induction f using Nat.strongRecOn with
    | _ f ih =>
      intro k acc g hk
      obtain ⟨hk, he, hg, hz⟩ := hk
      have el := srn_le w k
      refine z_iload_n (pc := 10) C dX12_seekRests_10 3 rfl ?_
      refine z_iconst (pc := 11) C dX12_seekRests_11 (nI 4) (by decide) ?_
      first | refine z_icmpgeN (pc := 12) C 74 dX12_seekRests_12 (by decide) (by omega) (by omega) (fun hc12 => ?_) (fun hc12 => ?_) | refine z_icmp_ge (pc := 12) C 74 dX12_seekRests_12 (by decide) (fun hc12 => ?_) (fun hc12 => ?_)
      · skip
        refine z_iload_n (pc := 74) C dX12_seekRests_74 2 rfl ?_
        refine z_iret (pc := 75) C dX12_seekRests_75 rfl (Nat.zero_le _) (Nat.zero_le _) ⟨?_, ?_, rfl⟩
        · obtain rfl : k = 4 := (by omega); rw [he]
        · obtain rfl : k = 4 := (by omega); rw [hg]
      · skip
        refine z_iload_n (pc := 15) C dX12_seekRests_15 1 rfl ?_
        refine z_iload_n (pc := 16) C dX12_seekRests_16 3 rfl ?_
        refine z_iconst (pc := 17) C dX12_seekRests_17 (nI 1) (by decide) ?_
        first | refine z_icmpleN (pc := 18) C 25 dX12_seekRests_18 (by decide) (by omega) (by omega) (fun hc18 => ?_) (fun hc18 => ?_) | refine z_icmp_le (pc := 18) C 25 dX12_seekRests_18 (by decide) (fun hc18 => ?_) (fun hc18 => ?_)
        · skip
          have a1 : decide (1 < k) = false := decide_eq_false (by omega)
          refine z_iconst (pc := 25) C dX12_seekRests_25 (zb false) (by decide) ?_
          refine z_iload_n (pc := 26) C dX12_seekRests_26 3 rfl ?_
          refine z_iconst (pc := 27) C dX12_seekRests_27 (nI 2) (by decide) ?_
          first | refine z_iremN (pc := 28) C dX12_seekRests_28 (by omega) (by omega) (by omega) ?_ | refine z_irem (pc := 28) C dX12_seekRests_28 (by decide) ?_
          refine z_iconst (pc := 29) C dX12_seekRests_29 (nI 1) (by decide) ?_
          first | refine z_icmpneN (pc := 30) C 37 dX12_seekRests_30 (by decide) (by omega) (by omega) (fun hc30 => ?_) (fun hc30 => ?_) | refine z_icmp_ne (pc := 30) C 37 dX12_seekRests_30 (by decide) (fun hc30 => ?_) (fun hc30 => ?_)
          · skip
            have a2 : decide (k % 2 = 1) = false := decide_eq_false hc30
            refine z_iconst (pc := 37) C dX12_seekRests_37 (zb false) (by decide) ?_
            refine z_cS1 (pc := 38) mX12_isRest C [_, _, _] dX12_seekRests_38 lX12_380 mtX12_isRest tX12_isRest rfl rfl (by decide) (Nat.le_of_ble_eq_true rfl) (Nat.zero_le _) (Nat.zero_le _) ?_
            first | refine z_ifneB (pc := 41) C 47 dX12_seekRests_41 (by decide) (fun hc41 => ?_) (fun hc41 => ?_) | refine z_ifneN (pc := 41) C 47 dX12_seekRests_41 (by decide) (by omega) (fun hc41 => ?_) (fun hc41 => ?_) | refine z_if_ne (pc := 41) C 47 dX12_seekRests_41 (by decide) (fun hc41 => ?_) (fun hc41 => ?_)
            · skip
              refine z_iload_n (pc := 47) C dX12_seekRests_47 2 rfl ?_
              first | refine z_ifneB (pc := 48) C 65 dX12_seekRests_48 (by decide) (fun hc48 => ?_) (fun hc48 => ?_) | refine z_ifneN (pc := 48) C 65 dX12_seekRests_48 (by decide) (by omega) (fun hc48 => ?_) (fun hc48 => ?_) | refine z_if_ne (pc := 48) C 65 dX12_seekRests_48 (by decide) (fun hc48 => ?_) (fun hc48 => ?_)
              · skip
                have e5 := ih (f - 1) (by omega) (k + 1) (acc + 1) g ⟨by omega, by rw [he, srn, a1, a2, hc41]; rfl, by
                  rw [srf, ← hg]
                  cases g with
                  | none => exact absurd (hz.mpr rfl) (by omega)
                  | some x => rfl, by
                  constructor
                  · intro z; omega
                  · intro z; have := hz.mpr z; omega⟩
                first | refine z_iincN (pc := 65) (lv' := [(2, _), (0, _), (1, _), (3, _)]) C 1 dX12_seekRests_65 2 rfl (by decide) (by decide) rfl ?_ | refine z_iinc (pc := 65) (lv' := [(2, _), (0, _), (1, _), (3, _)]) C dX12_seekRests_65 2 rfl _ rfl (by decide) rfl ?_
                first | refine z_iincN (pc := 68) (lv' := [(3, _), (2, _), (0, _), (1, _)]) C 1 dX12_seekRests_68 3 rfl (by decide) (by decide) rfl ?_ | refine z_iinc (pc := 68) (lv' := [(3, _), (2, _), (0, _), (1, _)]) C dX12_seekRests_68 3 rfl _ rfl (by decide) rfl ?_
                refine z_goto (pc := 71) C 10 dX12_seekRests_71 (by decide) ?_
                refine z_sub (lv' := [(0, _), (1, _), (2, _), (3, _)]) [2, 3, 1, 0] rfl ?_
                exact e5
              · skip
                have e5 := ih (f - 1) (by omega) (k + 1) (acc + 1) (some (10 * (k / 2) + k % 2)) ⟨by omega, by rw [he, srn, a1, a2, hc41]; rfl, by rw [srf, ← hg, hz.mp hc48, a1, a2, hc41]; rfl, by simp⟩
                refine z_aload_n (pc := 51) C dX12_seekRests_51 0 rfl ?_
                refine z_bipush (pc := 52) C dX12_seekRests_52 (nI 10) (by decide) ?_
                refine z_iload_n (pc := 54) C dX12_seekRests_54 3 rfl ?_
                refine z_iconst (pc := 55) C dX12_seekRests_55 (nI 2) (by decide) ?_
                first | refine z_idivN (pc := 56) C dX12_seekRests_56 (by omega) (by omega) (by omega) ?_ | refine z_idiv (pc := 56) C dX12_seekRests_56 (by decide) ?_
                first | refine z_imulN (pc := 57) C dX12_seekRests_57 ?_ | refine z_imul (pc := 57) C dX12_seekRests_57 ?_
                refine z_iload_n (pc := 58) C dX12_seekRests_58 3 rfl ?_
                refine z_iconst (pc := 59) C dX12_seekRests_59 (nI 2) (by decide) ?_
                first | refine z_iremN (pc := 60) C dX12_seekRests_60 (by omega) (by omega) (by omega) ?_ | refine z_irem (pc := 60) C dX12_seekRests_60 (by decide) ?_
                first | refine z_iaddN (pc := 61) C dX12_seekRests_61 ?_ | refine z_iadd (pc := 61) C dX12_seekRests_61 ?_
                refine z_top (show nI (10 * (k / 2) + k % 2) = zo (some (10 * (k / 2) + k % 2)) from rfl) ?_
                refine z_putf (pc := 62) (fs' := mfs (upd _ 31 _)) C dX12_seekRests_62 gX12_377 (zup_same _ _ _) (fun _ => ⟨rfl, rfl⟩) (by exact Nat.le_of_ble_eq_true rfl) (mfs_set _ 31 _ (by decide)) ?_
                rw [zup_zup, upd_upd]
                first | refine z_iincN (pc := 65) (lv' := [(2, _), (0, _), (1, _), (3, _)]) C 1 dX12_seekRests_65 2 rfl (by decide) (by decide) rfl ?_ | refine z_iinc (pc := 65) (lv' := [(2, _), (0, _), (1, _), (3, _)]) C dX12_seekRests_65 2 rfl _ rfl (by decide) rfl ?_
                first | refine z_iincN (pc := 68) (lv' := [(3, _), (2, _), (0, _), (1, _)]) C 1 dX12_seekRests_68 3 rfl (by decide) (by decide) rfl ?_ | refine z_iinc (pc := 68) (lv' := [(3, _), (2, _), (0, _), (1, _)]) C dX12_seekRests_68 3 rfl _ rfl (by decide) rfl ?_
                refine z_goto (pc := 71) C 10 dX12_seekRests_71 (by decide) ?_
                refine z_sub (lv' := [(0, _), (1, _), (2, _), (3, _)]) [2, 3, 1, 0] rfl ?_
                exact e5
            · skip
              have e5 := ih (f - 1) (by omega) (k + 1) acc g ⟨by omega, by rw [he, srn, a1, a2, hc41]; rfl, by rw [srf, ← hg, a1, a2, hc41]; cases g <;> rfl, hz⟩
              refine z_goto (pc := 44) C 68 dX12_seekRests_44 (by decide) ?_
              first | refine z_iincN (pc := 68) (lv' := [(3, _), (0, _), (1, _), (2, _)]) C 1 dX12_seekRests_68 3 rfl (by decide) (by decide) rfl ?_ | refine z_iinc (pc := 68) (lv' := [(3, _), (0, _), (1, _), (2, _)]) C dX12_seekRests_68 3 rfl _ rfl (by decide) rfl ?_
              refine z_goto (pc := 71) C 10 dX12_seekRests_71 (by decide) ?_
              refine z_sub (lv' := [(0, _), (1, _), (2, _), (3, _)]) [1, 2, 3, 0] rfl ?_
              exact e5
          · skip
            have a2 : decide (k % 2 = 1) = true := decide_eq_true hc30
            refine z_iconst (pc := 33) C dX12_seekRests_33 (zb true) (by decide) ?_
            refine z_goto (pc := 34) C 38 dX12_seekRests_34 (by decide) ?_
            refine z_cS1 (pc := 38) mX12_isRest C [_, _, _] dX12_seekRests_38 lX12_380 mtX12_isRest tX12_isRest rfl rfl (by decide) (Nat.le_of_ble_eq_true rfl) (Nat.zero_le _) (Nat.zero_le _) ?_
            first | refine z_ifneB (pc := 41) C 47 dX12_seekRests_41 (by decide) (fun hc41 => ?_) (fun hc41 => ?_) | refine z_ifneN (pc := 41) C 47 dX12_seekRests_41 (by decide) (by omega) (fun hc41 => ?_) (fun hc41 => ?_) | refine z_if_ne (pc := 41) C 47 dX12_seekRests_41 (by decide) (fun hc41 => ?_) (fun hc41 => ?_)
            · skip
              refine z_iload_n (pc := 47) C dX12_seekRests_47 2 rfl ?_
              first | refine z_ifneB (pc := 48) C 65 dX12_seekRests_48 (by decide) (fun hc48 => ?_) (fun hc48 => ?_) | refine z_ifneN (pc := 48) C 65 dX12_seekRests_48 (by decide) (by omega) (fun hc48 => ?_) (fun hc48 => ?_) | refine z_if_ne (pc := 48) C 65 dX12_seekRests_48 (by decide) (fun hc48 => ?_) (fun hc48 => ?_)
              · skip
                have e5 := ih (f - 1) (by omega) (k + 1) (acc + 1) g ⟨by omega, by rw [he, srn, a1, a2, hc41]; rfl, by
                  rw [srf, ← hg]
                  cases g with
                  | none => exact absurd (hz.mpr rfl) (by omega)
                  | some x => rfl, by
                  constructor
                  · intro z; omega
                  · intro z; have := hz.mpr z; omega⟩
                first | refine z_iincN (pc := 65) (lv' := [(2, _), (0, _), (1, _), (3, _)]) C 1 dX12_seekRests_65 2 rfl (by decide) (by decide) rfl ?_ | refine z_iinc (pc := 65) (lv' := [(2, _), (0, _), (1, _), (3, _)]) C dX12_seekRests_65 2 rfl _ rfl (by decide) rfl ?_
                first | refine z_iincN (pc := 68) (lv' := [(3, _), (2, _), (0, _), (1, _)]) C 1 dX12_seekRests_68 3 rfl (by decide) (by decide) rfl ?_ | refine z_iinc (pc := 68) (lv' := [(3, _), (2, _), (0, _), (1, _)]) C dX12_seekRests_68 3 rfl _ rfl (by decide) rfl ?_
                refine z_goto (pc := 71) C 10 dX12_seekRests_71 (by decide) ?_
                refine z_sub (lv' := [(0, _), (1, _), (2, _), (3, _)]) [2, 3, 1, 0] rfl ?_
                exact e5
              · skip
                have e5 := ih (f - 1) (by omega) (k + 1) (acc + 1) (some (10 * (k / 2) + k % 2)) ⟨by omega, by rw [he, srn, a1, a2, hc41]; rfl, by rw [srf, ← hg, hz.mp hc48, a1, a2, hc41]; rfl, by simp⟩
                refine z_aload_n (pc := 51) C dX12_seekRests_51 0 rfl ?_
                refine z_bipush (pc := 52) C dX12_seekRests_52 (nI 10) (by decide) ?_
                refine z_iload_n (pc := 54) C dX12_seekRests_54 3 rfl ?_
                refine z_iconst (pc := 55) C dX12_seekRests_55 (nI 2) (by decide) ?_
                first | refine z_idivN (pc := 56) C dX12_seekRests_56 (by omega) (by omega) (by omega) ?_ | refine z_idiv (pc := 56) C dX12_seekRests_56 (by decide) ?_
                first | refine z_imulN (pc := 57) C dX12_seekRests_57 ?_ | refine z_imul (pc := 57) C dX12_seekRests_57 ?_
                refine z_iload_n (pc := 58) C dX12_seekRests_58 3 rfl ?_
                refine z_iconst (pc := 59) C dX12_seekRests_59 (nI 2) (by decide) ?_
                first | refine z_iremN (pc := 60) C dX12_seekRests_60 (by omega) (by omega) (by omega) ?_ | refine z_irem (pc := 60) C dX12_seekRests_60 (by decide) ?_
                first | refine z_iaddN (pc := 61) C dX12_seekRests_61 ?_ | refine z_iadd (pc := 61) C dX12_seekRests_61 ?_
                refine z_top (show nI (10 * (k / 2) + k % 2) = zo (some (10 * (k / 2) + k % 2)) from rfl) ?_
                refine z_putf (pc := 62) (fs' := mfs (upd _ 31 _)) C dX12_seekRests_62 gX12_377 (zup_same _ _ _) (fun _ => ⟨rfl, rfl⟩) (by exact Nat.le_of_ble_eq_true rfl) (mfs_set _ 31 _ (by decide)) ?_
                rw [zup_zup, upd_upd]
                first | refine z_iincN (pc := 65) (lv' := [(2, _), (0, _), (1, _), (3, _)]) C 1 dX12_seekRests_65 2 rfl (by decide) (by decide) rfl ?_ | refine z_iinc (pc := 65) (lv' := [(2, _), (0, _), (1, _), (3, _)]) C dX12_seekRests_65 2 rfl _ rfl (by decide) rfl ?_
                first | refine z_iincN (pc := 68) (lv' := [(3, _), (2, _), (0, _), (1, _)]) C 1 dX12_seekRests_68 3 rfl (by decide) (by decide) rfl ?_ | refine z_iinc (pc := 68) (lv' := [(3, _), (2, _), (0, _), (1, _)]) C dX12_seekRests_68 3 rfl _ rfl (by decide) rfl ?_
                refine z_goto (pc := 71) C 10 dX12_seekRests_71 (by decide) ?_
                refine z_sub (lv' := [(0, _), (1, _), (2, _), (3, _)]) [2, 3, 1, 0] rfl ?_
                exact e5
            · skip
              have e5 := ih (f - 1) (by omega) (k + 1) acc g ⟨by omega, by rw [he, srn, a1, a2, hc41]; rfl, by rw [srf, ← hg, a1, a2, hc41]; cases g <;> rfl, hz⟩
              refine z_goto (pc := 44) C 68 dX12_seekRests_44 (by decide) ?_
              first | refine z_iincN (pc := 68) (lv' := [(3, _), (0, _), (1, _), (2, _)]) C 1 dX12_seekRests_68 3 rfl (by decide) (by decide) rfl ?_ | refine z_iinc (pc := 68) (lv' := [(3, _), (0, _), (1, _), (2, _)]) C dX12_seekRests_68 3 rfl _ rfl (by decide) rfl ?_
              refine z_goto (pc := 71) C 10 dX12_seekRests_71 (by decide) ?_
              refine z_sub (lv' := [(0, _), (1, _), (2, _), (3, _)]) [1, 2, 3, 0] rfl ?_
              exact e5
        · skip
          have a1 : decide (1 < k) = true := decide_eq_true (by omega)
          refine z_iconst (pc := 21) C dX12_seekRests_21 (zb true) (by decide) ?_
          refine z_goto (pc := 22) C 26 dX12_seekRests_22 (by decide) ?_
          refine z_iload_n (pc := 26) C dX12_seekRests_26 3 rfl ?_
          refine z_iconst (pc := 27) C dX12_seekRests_27 (nI 2) (by decide) ?_
          first | refine z_iremN (pc := 28) C dX12_seekRests_28 (by omega) (by omega) (by omega) ?_ | refine z_irem (pc := 28) C dX12_seekRests_28 (by decide) ?_
          refine z_iconst (pc := 29) C dX12_seekRests_29 (nI 1) (by decide) ?_
          first | refine z_icmpneN (pc := 30) C 37 dX12_seekRests_30 (by decide) (by omega) (by omega) (fun hc30 => ?_) (fun hc30 => ?_) | refine z_icmp_ne (pc := 30) C 37 dX12_seekRests_30 (by decide) (fun hc30 => ?_) (fun hc30 => ?_)
          · skip
            have a2 : decide (k % 2 = 1) = false := decide_eq_false hc30
            refine z_iconst (pc := 37) C dX12_seekRests_37 (zb false) (by decide) ?_
            refine z_cS1 (pc := 38) mX12_isRest C [_, _, _] dX12_seekRests_38 lX12_380 mtX12_isRest tX12_isRest rfl rfl (by decide) (Nat.le_of_ble_eq_true rfl) (Nat.zero_le _) (Nat.zero_le _) ?_
            first | refine z_ifneB (pc := 41) C 47 dX12_seekRests_41 (by decide) (fun hc41 => ?_) (fun hc41 => ?_) | refine z_ifneN (pc := 41) C 47 dX12_seekRests_41 (by decide) (by omega) (fun hc41 => ?_) (fun hc41 => ?_) | refine z_if_ne (pc := 41) C 47 dX12_seekRests_41 (by decide) (fun hc41 => ?_) (fun hc41 => ?_)
            · skip
              refine z_iload_n (pc := 47) C dX12_seekRests_47 2 rfl ?_
              first | refine z_ifneB (pc := 48) C 65 dX12_seekRests_48 (by decide) (fun hc48 => ?_) (fun hc48 => ?_) | refine z_ifneN (pc := 48) C 65 dX12_seekRests_48 (by decide) (by omega) (fun hc48 => ?_) (fun hc48 => ?_) | refine z_if_ne (pc := 48) C 65 dX12_seekRests_48 (by decide) (fun hc48 => ?_) (fun hc48 => ?_)
              · skip
                have e5 := ih (f - 1) (by omega) (k + 1) (acc + 1) g ⟨by omega, by rw [he, srn, a1, a2, hc41]; rfl, by
                  rw [srf, ← hg]
                  cases g with
                  | none => exact absurd (hz.mpr rfl) (by omega)
                  | some x => rfl, by
                  constructor
                  · intro z; omega
                  · intro z; have := hz.mpr z; omega⟩
                first | refine z_iincN (pc := 65) (lv' := [(2, _), (0, _), (1, _), (3, _)]) C 1 dX12_seekRests_65 2 rfl (by decide) (by decide) rfl ?_ | refine z_iinc (pc := 65) (lv' := [(2, _), (0, _), (1, _), (3, _)]) C dX12_seekRests_65 2 rfl _ rfl (by decide) rfl ?_
                first | refine z_iincN (pc := 68) (lv' := [(3, _), (2, _), (0, _), (1, _)]) C 1 dX12_seekRests_68 3 rfl (by decide) (by decide) rfl ?_ | refine z_iinc (pc := 68) (lv' := [(3, _), (2, _), (0, _), (1, _)]) C dX12_seekRests_68 3 rfl _ rfl (by decide) rfl ?_
                refine z_goto (pc := 71) C 10 dX12_seekRests_71 (by decide) ?_
                refine z_sub (lv' := [(0, _), (1, _), (2, _), (3, _)]) [2, 3, 1, 0] rfl ?_
                exact e5
              · skip
                have e5 := ih (f - 1) (by omega) (k + 1) (acc + 1) (some (10 * (k / 2) + k % 2)) ⟨by omega, by rw [he, srn, a1, a2, hc41]; rfl, by rw [srf, ← hg, hz.mp hc48, a1, a2, hc41]; rfl, by simp⟩
                refine z_aload_n (pc := 51) C dX12_seekRests_51 0 rfl ?_
                refine z_bipush (pc := 52) C dX12_seekRests_52 (nI 10) (by decide) ?_
                refine z_iload_n (pc := 54) C dX12_seekRests_54 3 rfl ?_
                refine z_iconst (pc := 55) C dX12_seekRests_55 (nI 2) (by decide) ?_
                first | refine z_idivN (pc := 56) C dX12_seekRests_56 (by omega) (by omega) (by omega) ?_ | refine z_idiv (pc := 56) C dX12_seekRests_56 (by decide) ?_
                first | refine z_imulN (pc := 57) C dX12_seekRests_57 ?_ | refine z_imul (pc := 57) C dX12_seekRests_57 ?_
                refine z_iload_n (pc := 58) C dX12_seekRests_58 3 rfl ?_
                refine z_iconst (pc := 59) C dX12_seekRests_59 (nI 2) (by decide) ?_
                first | refine z_iremN (pc := 60) C dX12_seekRests_60 (by omega) (by omega) (by omega) ?_ | refine z_irem (pc := 60) C dX12_seekRests_60 (by decide) ?_
                first | refine z_iaddN (pc := 61) C dX12_seekRests_61 ?_ | refine z_iadd (pc := 61) C dX12_seekRests_61 ?_
                refine z_top (show nI (10 * (k / 2) + k % 2) = zo (some (10 * (k / 2) + k % 2)) from rfl) ?_
                refine z_putf (pc := 62) (fs' := mfs (upd _ 31 _)) C dX12_seekRests_62 gX12_377 (zup_same _ _ _) (fun _ => ⟨rfl, rfl⟩) (by exact Nat.le_of_ble_eq_true rfl) (mfs_set _ 31 _ (by decide)) ?_
                rw [zup_zup, upd_upd]
                first | refine z_iincN (pc := 65) (lv' := [(2, _), (0, _), (1, _), (3, _)]) C 1 dX12_seekRests_65 2 rfl (by decide) (by decide) rfl ?_ | refine z_iinc (pc := 65) (lv' := [(2, _), (0, _), (1, _), (3, _)]) C dX12_seekRests_65 2 rfl _ rfl (by decide) rfl ?_
                first | refine z_iincN (pc := 68) (lv' := [(3, _), (2, _), (0, _), (1, _)]) C 1 dX12_seekRests_68 3 rfl (by decide) (by decide) rfl ?_ | refine z_iinc (pc := 68) (lv' := [(3, _), (2, _), (0, _), (1, _)]) C dX12_seekRests_68 3 rfl _ rfl (by decide) rfl ?_
                refine z_goto (pc := 71) C 10 dX12_seekRests_71 (by decide) ?_
                refine z_sub (lv' := [(0, _), (1, _), (2, _), (3, _)]) [2, 3, 1, 0] rfl ?_
                exact e5
            · skip
              have e5 := ih (f - 1) (by omega) (k + 1) acc g ⟨by omega, by rw [he, srn, a1, a2, hc41]; rfl, by rw [srf, ← hg, a1, a2, hc41]; cases g <;> rfl, hz⟩
              refine z_goto (pc := 44) C 68 dX12_seekRests_44 (by decide) ?_
              first | refine z_iincN (pc := 68) (lv' := [(3, _), (0, _), (1, _), (2, _)]) C 1 dX12_seekRests_68 3 rfl (by decide) (by decide) rfl ?_ | refine z_iinc (pc := 68) (lv' := [(3, _), (0, _), (1, _), (2, _)]) C dX12_seekRests_68 3 rfl _ rfl (by decide) rfl ?_
              refine z_goto (pc := 71) C 10 dX12_seekRests_71 (by decide) ?_
              refine z_sub (lv' := [(0, _), (1, _), (2, _), (3, _)]) [1, 2, 3, 0] rfl ?_
              exact e5
          · skip
            have a2 : decide (k % 2 = 1) = true := decide_eq_true hc30
            refine z_iconst (pc := 33) C dX12_seekRests_33 (zb true) (by decide) ?_
            refine z_goto (pc := 34) C 38 dX12_seekRests_34 (by decide) ?_
            refine z_cS1 (pc := 38) mX12_isRest C [_, _, _] dX12_seekRests_38 lX12_380 mtX12_isRest tX12_isRest rfl rfl (by decide) (Nat.le_of_ble_eq_true rfl) (Nat.zero_le _) (Nat.zero_le _) ?_
            first | refine z_ifneB (pc := 41) C 47 dX12_seekRests_41 (by decide) (fun hc41 => ?_) (fun hc41 => ?_) | refine z_ifneN (pc := 41) C 47 dX12_seekRests_41 (by decide) (by omega) (fun hc41 => ?_) (fun hc41 => ?_) | refine z_if_ne (pc := 41) C 47 dX12_seekRests_41 (by decide) (fun hc41 => ?_) (fun hc41 => ?_)
            · skip
              refine z_iload_n (pc := 47) C dX12_seekRests_47 2 rfl ?_
              first | refine z_ifneB (pc := 48) C 65 dX12_seekRests_48 (by decide) (fun hc48 => ?_) (fun hc48 => ?_) | refine z_ifneN (pc := 48) C 65 dX12_seekRests_48 (by decide) (by omega) (fun hc48 => ?_) (fun hc48 => ?_) | refine z_if_ne (pc := 48) C 65 dX12_seekRests_48 (by decide) (fun hc48 => ?_) (fun hc48 => ?_)
              · skip
                have e5 := ih (f - 1) (by omega) (k + 1) (acc + 1) g ⟨by omega, by rw [he, srn, a1, a2, hc41]; rfl, by
                  rw [srf, ← hg]
                  cases g with
                  | none => exact absurd (hz.mpr rfl) (by omega)
                  | some x => rfl, by
                  constructor
                  · intro z; omega
                  · intro z; have := hz.mpr z; omega⟩
                first | refine z_iincN (pc := 65) (lv' := [(2, _), (0, _), (1, _), (3, _)]) C 1 dX12_seekRests_65 2 rfl (by decide) (by decide) rfl ?_ | refine z_iinc (pc := 65) (lv' := [(2, _), (0, _), (1, _), (3, _)]) C dX12_seekRests_65 2 rfl _ rfl (by decide) rfl ?_
                first | refine z_iincN (pc := 68) (lv' := [(3, _), (2, _), (0, _), (1, _)]) C 1 dX12_seekRests_68 3 rfl (by decide) (by decide) rfl ?_ | refine z_iinc (pc := 68) (lv' := [(3, _), (2, _), (0, _), (1, _)]) C dX12_seekRests_68 3 rfl _ rfl (by decide) rfl ?_
                refine z_goto (pc := 71) C 10 dX12_seekRests_71 (by decide) ?_
                refine z_sub (lv' := [(0, _), (1, _), (2, _), (3, _)]) [2, 3, 1, 0] rfl ?_
                exact e5
              · skip
                have e5 := ih (f - 1) (by omega) (k + 1) (acc + 1) (some (10 * (k / 2) + k % 2)) ⟨by omega, by rw [he, srn, a1, a2, hc41]; rfl, by rw [srf, ← hg, hz.mp hc48, a1, a2, hc41]; rfl, by simp⟩
                refine z_aload_n (pc := 51) C dX12_seekRests_51 0 rfl ?_
                refine z_bipush (pc := 52) C dX12_seekRests_52 (nI 10) (by decide) ?_
                refine z_iload_n (pc := 54) C dX12_seekRests_54 3 rfl ?_
                refine z_iconst (pc := 55) C dX12_seekRests_55 (nI 2) (by decide) ?_
                first | refine z_idivN (pc := 56) C dX12_seekRests_56 (by omega) (by omega) (by omega) ?_ | refine z_idiv (pc := 56) C dX12_seekRests_56 (by decide) ?_
                first | refine z_imulN (pc := 57) C dX12_seekRests_57 ?_ | refine z_imul (pc := 57) C dX12_seekRests_57 ?_
                refine z_iload_n (pc := 58) C dX12_seekRests_58 3 rfl ?_
                refine z_iconst (pc := 59) C dX12_seekRests_59 (nI 2) (by decide) ?_
                first | refine z_iremN (pc := 60) C dX12_seekRests_60 (by omega) (by omega) (by omega) ?_ | refine z_irem (pc := 60) C dX12_seekRests_60 (by decide) ?_
                first | refine z_iaddN (pc := 61) C dX12_seekRests_61 ?_ | refine z_iadd (pc := 61) C dX12_seekRests_61 ?_
                refine z_top (show nI (10 * (k / 2) + k % 2) = zo (some (10 * (k / 2) + k % 2)) from rfl) ?_
                refine z_putf (pc := 62) (fs' := mfs (upd _ 31 _)) C dX12_seekRests_62 gX12_377 (zup_same _ _ _) (fun _ => ⟨rfl, rfl⟩) (by exact Nat.le_of_ble_eq_true rfl) (mfs_set _ 31 _ (by decide)) ?_
                rw [zup_zup, upd_upd]
                first | refine z_iincN (pc := 65) (lv' := [(2, _), (0, _), (1, _), (3, _)]) C 1 dX12_seekRests_65 2 rfl (by decide) (by decide) rfl ?_ | refine z_iinc (pc := 65) (lv' := [(2, _), (0, _), (1, _), (3, _)]) C dX12_seekRests_65 2 rfl _ rfl (by decide) rfl ?_
                first | refine z_iincN (pc := 68) (lv' := [(3, _), (2, _), (0, _), (1, _)]) C 1 dX12_seekRests_68 3 rfl (by decide) (by decide) rfl ?_ | refine z_iinc (pc := 68) (lv' := [(3, _), (2, _), (0, _), (1, _)]) C dX12_seekRests_68 3 rfl _ rfl (by decide) rfl ?_
                refine z_goto (pc := 71) C 10 dX12_seekRests_71 (by decide) ?_
                refine z_sub (lv' := [(0, _), (1, _), (2, _), (3, _)]) [2, 3, 1, 0] rfl ?_
                exact e5
            · skip
              have e5 := ih (f - 1) (by omega) (k + 1) acc g ⟨by omega, by rw [he, srn, a1, a2, hc41]; rfl, by rw [srf, ← hg, a1, a2, hc41]; cases g <;> rfl, hz⟩
              refine z_goto (pc := 44) C 68 dX12_seekRests_44 (by decide) ?_
              first | refine z_iincN (pc := 68) (lv' := [(3, _), (0, _), (1, _), (2, _)]) C 1 dX12_seekRests_68 3 rfl (by decide) (by decide) rfl ?_ | refine z_iinc (pc := 68) (lv' := [(3, _), (0, _), (1, _), (2, _)]) C dX12_seekRests_68 3 rfl _ rfl (by decide) rfl ?_
              refine z_goto (pc := 71) C 10 dX12_seekRests_71 (by decide) ?_
              refine z_sub (lv' := [(0, _), (1, _), (2, _), (3, _)]) [1, 2, 3, 0] rfl ?_
              exact e5
  exact lp10 4 0 0 none ⟨by omega, rfl, rfl, by simp⟩

set_option maxRecDepth 20000 in
set_option maxHeartbeats 1000000 in
theorem tX12_edge {h : ZH} {v : Nat → Int32} {R S : Nat → Nat} {b : Bool} {w : Int32} {k p q9 : Bool} (hM : h 1063 = some (zO 8 (mfs v))) (hA : h 1066 = some (zI 241 R)) (hB : h 1070 = some (zI 40 S)) (hR : wfR R) (hS : wfS R S) (hF : v 14 = zb b) (hb : wfB b R) : ZD mX12_edge 1 [.ref 1063, .int w, .int (zb k), .int (zb p), .int (zb q9)] h (some (.int (aEdge R w k p q9).1)) (zup h 1063 (zO 8 (mfs (mv v (aEdge R w k p q9).2)))) := by
  intro n
  obtain ⟨w1, w3, w4, w5, w0, wP, wM, wK, wX⟩ := id hR
  obtain ⟨wT, wL, wB⟩ := id hS
  refine z_enter (lv := [(0, _), (1, _), (2, _), (3, _), (4, _)]) (by decide) (Nat.le_of_ble_eq_true rfl) rfl (fun X C => ?_)
  refine z_aload_n (pc := 0) C dX12_edge_0 0 rfl ?_
  refine z_cV0 (pc := 1) mX12_good C [] dX12_edge_1 lX12_167 mtX12_good (tX12_good (by first | assumption | omega)) (by assumption) rfl rfl (by decide) (Nat.le_of_ble_eq_true rfl) (Nat.zero_le _) (Nat.zero_le _) ?_
  have hM1 : zup h 1063 (zO 8 (mfs (upd (upd v 0 0) 11 0))) 1063 = some (zO 8 (mfs (upd (upd v 0 0) 11 0))) := zup_same _ _ _
  have hA1 : zup h 1063 (zO 8 (mfs (upd (upd v 0 0) 11 0))) 1066 = some (zI 241 R) := (zup_ne (by decide)).trans hA
  have hB1 : zup h 1063 (zO 8 (mfs (upd (upd v 0 0) 11 0))) 1070 = some (zI 40 S) := (zup_ne (by decide)).trans hB
  have hF1 : upd (upd v 0 0) 11 0 14 = zb b := hF
  generalize hg : zup h 1063 (zO 8 (mfs (upd (upd v 0 0) 11 0))) = h1 at hM1 hA1 hB1 ⊢
  refine z_aload_n (pc := 4) C dX12_edge_4 0 rfl ?_
  refine z_aload_n (pc := 5) C dX12_edge_5 0 rfl ?_
  refine z_getf (pc := 6) C dX12_edge_6 fX12_180 (by assumption) (by first | rfl | assumption) ?_
  rw [hF1, hb.1]
  refine z_iload_n (pc := 9) C dX12_edge_9 1 rfl ?_
  refine z_iconst (pc := 10) C dX12_edge_10 (nI 0) (by decide) ?_
  refine z_bipush (pc := 11) C dX12_edge_11 (nI 20) (by decide) ?_
  refine z_cS1 (pc := 13) mX12_in C [_, _, _] dX12_edge_13 lX12_146 mtX12_in tX12_in rfl rfl (by decide) (Nat.le_of_ble_eq_true rfl) (Nat.zero_le _) (Nat.zero_le _) ?_
  rw [show decide (nI 0 ≤ w ∧ w ≤ nI 20) = zlt w 21 from zlt_le2 w (by omega)]
  refine z_cV1 (pc := 16) mX12_why C [_, _] dX12_edge_16 lX12_303 mtX12_why tX12_why (by assumption) rfl rfl (by decide) (Nat.le_of_ble_eq_true rfl) (Nat.zero_le _) (Nat.zero_le _) ?_
  have e9 := swhy_le (decide (0 < R 1)) (zlt w 21)
  refine z_istore (pc := 19) (lv' := [(5, _), (0, _), (1, _), (2, _), (3, _), (4, _)]) C dX12_edge_19 (by decide) rfl ?_
  refine z_iload (pc := 21) C dX12_edge_21 0 rfl ?_
  first | refine z_ifneB (pc := 23) C 47 dX12_edge_23 (by decide) (fun hc23 => ?_) (fun hc23 => ?_) | refine z_ifneN (pc := 23) C 47 dX12_edge_23 (by decide) (by omega) (fun hc23 => ?_) (fun hc23 => ?_) | refine z_if_ne (pc := 23) C 47 dX12_edge_23 (by decide) (fun hc23 => ?_) (fun hc23 => ?_)
  · skip
    have e5 := Nat.ne_of_gt hc23
    refine z_aload_n (pc := 47) C dX12_edge_47 1 rfl ?_
    refine z_iload (pc := 48) C dX12_edge_48 0 rfl ?_
    refine z_putf (pc := 50) (fs' := mfs (upd _ 11 _)) C dX12_edge_50 gX12_59 hM1 (fun _ => ⟨rfl, rfl⟩) (by exact Nat.le_of_ble_eq_true rfl) (mfs_set _ 11 _ (by decide)) ?_
    refine z_bipush (pc := 53) C dX12_edge_53 (-100) (by decide) ?_
    refine z_iret (pc := 55) C dX12_edge_55 rfl (Nat.zero_le _) (Nat.zero_le _) ⟨?_, ?_, rfl⟩
    · simp [aEdge, swhy_tt, *]
    · first | exact mz0 hg (by simp [aEdge, swhy_tt, *]) | exact mz1 hg (by simp [aEdge, swhy_tt, *] <;> rfl)
  · skip
    obtain ⟨e6, e7⟩ := swhy_0.mp hc23
    obtain ⟨q, hq, rfl⟩ := zlt_of (by omega) e7
    have pq := pn_nI (j := q) (by omega)
    refine z_iload (pc := 26) C dX12_edge_26 5 rfl ?_
    first | refine z_ifeqB (pc := 28) C 40 dX12_edge_28 (by decide) (fun hc28 => ?_) (fun hc28 => ?_) | refine z_ifeqN (pc := 28) C 40 dX12_edge_28 (by decide) (by omega) (fun hc28 => ?_) (fun hc28 => ?_) | refine z_if_eq (pc := 28) C 40 dX12_edge_28 (by decide) (fun hc28 => ?_) (fun hc28 => ?_)
    · skip
      refine z_iload_n (pc := 40) C dX12_edge_40 2 rfl ?_
      refine z_iload_n (pc := 41) C dX12_edge_41 3 rfl ?_
      refine z_iload_n (pc := 42) C dX12_edge_42 4 rfl ?_
      refine z_cS1 (pc := 43) mX12_keepers C [_, _, _] dX12_edge_43 lX12_374 mtX12_keepers tX12_keepers rfl rfl (by decide) (Nat.le_of_ble_eq_true rfl) (Nat.zero_le _) (Nat.zero_le _) ?_
      refine z_iret (pc := 46) C dX12_edge_46 rfl (Nat.zero_le _) (Nat.zero_le _) ⟨?_, ?_, rfl⟩
      · simp [aEdge, swhy_tt, *]
      · first | exact mz0 hg (by simp [aEdge, swhy_tt, *]) | exact mz1 hg (by simp [aEdge, swhy_tt, *] <;> rfl)
    · skip
      refine z_iload_n (pc := 31) C dX12_edge_31 2 rfl ?_
      refine z_iload_n (pc := 32) C dX12_edge_32 3 rfl ?_
      refine z_iload_n (pc := 33) C dX12_edge_33 4 rfl ?_
      refine z_cS1 (pc := 34) mX12_poachers C [_, _, _] dX12_edge_34 lX12_370 mtX12_poachers tX12_poachers rfl rfl (by decide) (Nat.le_of_ble_eq_true rfl) (Nat.zero_le _) (Nat.zero_le _) ?_
      refine z_goto (pc := 37) C 46 dX12_edge_37 (by decide) ?_
      refine z_iret (pc := 46) C dX12_edge_46 rfl (Nat.zero_le _) (Nat.zero_le _) ⟨?_, ?_, rfl⟩
      · simp [aEdge, swhy_tt, *]
      · first | exact mz0 hg (by simp [aEdge, swhy_tt, *]) | exact mz1 hg (by simp [aEdge, swhy_tt, *] <;> rfl)

set_option maxRecDepth 20000 in
set_option maxHeartbeats 1000000 in
theorem tX12_rests {h : ZH} {v : Nat → Int32} {R S : Nat → Nat} {b : Bool} {w : Int32} (hM : h 1063 = some (zO 8 (mfs v))) (hA : h 1066 = some (zI 241 R)) (hB : h 1070 = some (zI 40 S)) (hR : wfR R) (hS : wfS R S) (hF : v 14 = zb b) (hb : wfB b R) : ZD mX12_rests 3 [.ref 1063, .int w] h (some (.int (aRests R w).1)) (if (aRests R w).2 = 0 then zup h 1063 (zO 8 (mfs (upd (mv v 0) 31 (zo (srf (pn w) 4))))) else zup h 1063 (zO 8 (mfs (mv v (aRests R w).2)))) := by
  intro n
  obtain ⟨w1, w3, w4, w5, w0, wP, wM, wK, wX⟩ := id hR
  obtain ⟨wT, wL, wB⟩ := id hS
  refine z_enter (lv := [(0, _), (1, _)]) (by decide) (Nat.le_of_ble_eq_true rfl) rfl (fun X C => ?_)
  refine z_aload_n (pc := 0) C dX12_rests_0 0 rfl ?_
  refine z_cV0 (pc := 1) mX12_good C [] dX12_rests_1 lX12_167 mtX12_good (tX12_good (by first | assumption | omega)) (by assumption) rfl rfl (by decide) (Nat.le_of_ble_eq_true rfl) (Nat.zero_le _) (Nat.zero_le _) ?_
  have hM1 : zup h 1063 (zO 8 (mfs (upd (upd v 0 0) 11 0))) 1063 = some (zO 8 (mfs (upd (upd v 0 0) 11 0))) := zup_same _ _ _
  have hA1 : zup h 1063 (zO 8 (mfs (upd (upd v 0 0) 11 0))) 1066 = some (zI 241 R) := (zup_ne (by decide)).trans hA
  have hB1 : zup h 1063 (zO 8 (mfs (upd (upd v 0 0) 11 0))) 1070 = some (zI 40 S) := (zup_ne (by decide)).trans hB
  have hF1 : upd (upd v 0 0) 11 0 14 = zb b := hF
  generalize hg : zup h 1063 (zO 8 (mfs (upd (upd v 0 0) 11 0))) = h1 at hM1 hA1 hB1 ⊢
  refine z_aload_n (pc := 4) C dX12_rests_4 0 rfl ?_
  refine z_aload_n (pc := 5) C dX12_rests_5 0 rfl ?_
  refine z_getf (pc := 6) C dX12_rests_6 fX12_180 (by assumption) (by first | rfl | assumption) ?_
  rw [hF1, hb.1]
  refine z_iload_n (pc := 9) C dX12_rests_9 1 rfl ?_
  refine z_iconst (pc := 10) C dX12_rests_10 (nI 0) (by decide) ?_
  refine z_bipush (pc := 11) C dX12_rests_11 (nI 20) (by decide) ?_
  refine z_cS1 (pc := 13) mX12_in C [_, _, _] dX12_rests_13 lX12_146 mtX12_in tX12_in rfl rfl (by decide) (Nat.le_of_ble_eq_true rfl) (Nat.zero_le _) (Nat.zero_le _) ?_
  rw [show decide (nI 0 ≤ w ∧ w ≤ nI 20) = zlt w 21 from zlt_le2 w (by omega)]
  refine z_cV1 (pc := 16) mX12_why C [_, _] dX12_rests_16 lX12_303 mtX12_why tX12_why (by assumption) rfl rfl (by decide) (Nat.le_of_ble_eq_true rfl) (Nat.zero_le _) (Nat.zero_le _) ?_
  have e9 := swhy_le (decide (0 < R 1)) (zlt w 21)
  refine z_istore_n (pc := 19) (lv' := [(2, _), (0, _), (1, _)]) C dX12_rests_19 (by decide) rfl ?_
  refine z_iload_n (pc := 20) C dX12_rests_20 0 rfl ?_
  first | refine z_ifeqB (pc := 21) C 32 dX12_rests_21 (by decide) (fun hc21 => ?_) (fun hc21 => ?_) | refine z_ifeqN (pc := 21) C 32 dX12_rests_21 (by decide) (by omega) (fun hc21 => ?_) (fun hc21 => ?_) | refine z_if_eq (pc := 21) C 32 dX12_rests_21 (by decide) (fun hc21 => ?_) (fun hc21 => ?_)
  · skip
    obtain ⟨e6, e7⟩ := swhy_0.mp hc21
    obtain ⟨q, hq, rfl⟩ := zlt_of (by omega) e7
    have pq := pn_nI (j := q) (by omega)
    refine z_aload_n (pc := 32) C dX12_rests_32 1 rfl ?_
    refine z_iload_n (pc := 33) C dX12_rests_33 2 rfl ?_
    refine z_cV1 (pc := 34) mX12_seekRests C [_] dX12_rests_34 lX12_384 mtX12_seekRests (tX12_seekRests (by first | assumption | omega)) (by assumption) rfl rfl (by decide) (Nat.le_of_ble_eq_true rfl) (Nat.zero_le _) (Nat.zero_le _) ?_
    refine z_iret (pc := 37) C dX12_rests_37 rfl (Nat.zero_le _) (Nat.zero_le _) ⟨?_, ?_, rfl⟩
    · simp [aRests, aW, swhy_tt, pk_us, *]
    · first | (rw [if_pos (by simp [aRests, aW, swhy_tt, pk_us, *]), ← hg, zup_zup, pq]; rfl) | (rw [if_neg (by simp [aRests, aW, swhy_tt, pk_us, *]; exact (fun z => e5 ((nI_eqI (b := 0) (by omega) (by decide)).mp z)))]; exact mz1 hg (by simp [aRests, aW, swhy_tt, pk_us, *] <;> rfl))
  · skip
    have e5 := Nat.ne_of_gt hc21
    refine z_aload_n (pc := 24) C dX12_rests_24 1 rfl ?_
    refine z_iload_n (pc := 25) C dX12_rests_25 0 rfl ?_
    refine z_cV1 (pc := 26) mX12_no C [_] dX12_rests_26 lX12_170 mtX12_no (tX12_no (by first | assumption | omega)) (by assumption) rfl rfl (by decide) (Nat.le_of_ble_eq_true rfl) (Nat.zero_le _) (Nat.zero_le _) ?_
    refine z_goto (pc := 29) C 37 dX12_rests_29 (by decide) ?_
    refine z_iret (pc := 37) C dX12_rests_37 rfl (Nat.zero_le _) (Nat.zero_le _) ⟨?_, ?_, rfl⟩
    · simp [aRests, aW, swhy_tt, pk_us, *]
    · first | (rw [if_pos (by simp [aRests, aW, swhy_tt, pk_us, *]), ← hg, zup_zup, pq]; rfl) | (rw [if_neg (by simp [aRests, aW, swhy_tt, pk_us, *]; exact (fun z => e5 ((nI_eqI (b := 0) (by omega) (by decide)).mp z)))]; exact mz1 hg (by simp [aRests, aW, swhy_tt, pk_us, *] <;> rfl))

set_option maxRecDepth 20000 in
set_option maxHeartbeats 1000000 in
theorem tX12_rest {h : ZH} {v : Nat → Int32} {R S : Nat → Nat} {b : Bool} {w : Int32} (hM : h 1063 = some (zO 8 (mfs v))) (hA : h 1066 = some (zI 241 R)) (hB : h 1070 = some (zI 40 S)) (hR : wfR R) (hS : wfS R S) (hF : v 14 = zb b) (hb : wfB b R) : ZD mX12_rest 3 [.ref 1063, .int w] h (some (.int (aRest R w).1)) (if (aRest R w).2 = 0 then zup h 1063 (zO 8 (mfs (upd (mv v 0) 31 (zo (srf (pn w) 4))))) else zup h 1063 (zO 8 (mfs (mv v (aRest R w).2)))) := by
  intro n
  obtain ⟨w1, w3, w4, w5, w0, wP, wM, wK, wX⟩ := id hR
  obtain ⟨wT, wL, wB⟩ := id hS
  refine z_enter (lv := [(0, _), (1, _)]) (by decide) (Nat.le_of_ble_eq_true rfl) rfl (fun X C => ?_)
  refine z_aload_n (pc := 0) C dX12_rest_0 0 rfl ?_
  refine z_cV0 (pc := 1) mX12_good C [] dX12_rest_1 lX12_167 mtX12_good (tX12_good (by first | assumption | omega)) (by assumption) rfl rfl (by decide) (Nat.le_of_ble_eq_true rfl) (Nat.zero_le _) (Nat.zero_le _) ?_
  have hM1 : zup h 1063 (zO 8 (mfs (upd (upd v 0 0) 11 0))) 1063 = some (zO 8 (mfs (upd (upd v 0 0) 11 0))) := zup_same _ _ _
  have hA1 : zup h 1063 (zO 8 (mfs (upd (upd v 0 0) 11 0))) 1066 = some (zI 241 R) := (zup_ne (by decide)).trans hA
  have hB1 : zup h 1063 (zO 8 (mfs (upd (upd v 0 0) 11 0))) 1070 = some (zI 40 S) := (zup_ne (by decide)).trans hB
  have hF1 : upd (upd v 0 0) 11 0 14 = zb b := hF
  generalize hg : zup h 1063 (zO 8 (mfs (upd (upd v 0 0) 11 0))) = h1 at hM1 hA1 hB1 ⊢
  refine z_aload_n (pc := 4) C dX12_rest_4 0 rfl ?_
  refine z_aload_n (pc := 5) C dX12_rest_5 0 rfl ?_
  refine z_getf (pc := 6) C dX12_rest_6 fX12_180 (by assumption) (by first | rfl | assumption) ?_
  rw [hF1, hb.1]
  refine z_iload_n (pc := 9) C dX12_rest_9 1 rfl ?_
  refine z_iconst (pc := 10) C dX12_rest_10 (nI 0) (by decide) ?_
  refine z_bipush (pc := 11) C dX12_rest_11 (nI 20) (by decide) ?_
  refine z_cS1 (pc := 13) mX12_in C [_, _, _] dX12_rest_13 lX12_146 mtX12_in tX12_in rfl rfl (by decide) (Nat.le_of_ble_eq_true rfl) (Nat.zero_le _) (Nat.zero_le _) ?_
  rw [show decide (nI 0 ≤ w ∧ w ≤ nI 20) = zlt w 21 from zlt_le2 w (by omega)]
  refine z_cV1 (pc := 16) mX12_why C [_, _] dX12_rest_16 lX12_303 mtX12_why tX12_why (by assumption) rfl rfl (by decide) (Nat.le_of_ble_eq_true rfl) (Nat.zero_le _) (Nat.zero_le _) ?_
  have e9 := swhy_le (decide (0 < R 1)) (zlt w 21)
  refine z_istore_n (pc := 19) (lv' := [(2, _), (0, _), (1, _)]) C dX12_rest_19 (by decide) rfl ?_
  refine z_iload_n (pc := 20) C dX12_rest_20 0 rfl ?_
  first | refine z_ifeqB (pc := 21) C 30 dX12_rest_21 (by decide) (fun hc21 => ?_) (fun hc21 => ?_) | refine z_ifeqN (pc := 21) C 30 dX12_rest_21 (by decide) (by omega) (fun hc21 => ?_) (fun hc21 => ?_) | refine z_if_eq (pc := 21) C 30 dX12_rest_21 (by decide) (fun hc21 => ?_) (fun hc21 => ?_)
  · skip
    obtain ⟨e6, e7⟩ := swhy_0.mp hc21
    obtain ⟨q, hq, rfl⟩ := zlt_of (by omega) e7
    have pq := pn_nI (j := q) (by omega)
    refine z_aload_n (pc := 30) C dX12_rest_30 1 rfl ?_
    refine z_iload_n (pc := 31) C dX12_rest_31 2 rfl ?_
    refine z_cV1 (pc := 32) mX12_seekRests C [_] dX12_rest_32 lX12_384 mtX12_seekRests (tX12_seekRests (by first | assumption | omega)) (by assumption) rfl rfl (by decide) (Nat.le_of_ble_eq_true rfl) (Nat.zero_le _) (Nat.zero_le _) ?_
    refine z_pop (pc := 35) C dX12_rest_35 rfl ?_
    refine z_aload_n (pc := 36) C dX12_rest_36 1 rfl ?_
    refine z_getf (pc := 37) C dX12_rest_37 fX12_377 (zup_same _ _ _) (by first | rfl | assumption) ?_
    refine z_iret (pc := 40) C dX12_rest_40 rfl (Nat.zero_le _) (Nat.zero_le _) ⟨?_, ?_, rfl⟩
    · simp [aRest, aW, swhy_tt, pk_us, *]
    · first | (rw [if_pos (by simp [aRest, aW, swhy_tt, pk_us, *]), ← hg, zup_zup, pq]; rfl) | (rw [if_neg (by simp [aRest, aW, swhy_tt, pk_us, *]; exact (fun z => e5 ((nI_eqI (b := 0) (by omega) (by decide)).mp z)))]; exact mz1 hg (by simp [aRest, aW, swhy_tt, pk_us, *] <;> rfl))
  · skip
    have e5 := Nat.ne_of_gt hc21
    refine z_aload_n (pc := 24) C dX12_rest_24 1 rfl ?_
    refine z_iload_n (pc := 25) C dX12_rest_25 0 rfl ?_
    refine z_cV1 (pc := 26) mX12_no C [_] dX12_rest_26 lX12_170 mtX12_no (tX12_no (by first | assumption | omega)) (by assumption) rfl rfl (by decide) (Nat.le_of_ble_eq_true rfl) (Nat.zero_le _) (Nat.zero_le _) ?_
    refine z_iret (pc := 29) C dX12_rest_29 rfl (Nat.zero_le _) (Nat.zero_le _) ⟨?_, ?_, rfl⟩
    · simp [aRest, aW, swhy_tt, pk_us, *]
    · first | (rw [if_pos (by simp [aRest, aW, swhy_tt, pk_us, *]), ← hg, zup_zup, pq]; rfl) | (rw [if_neg (by simp [aRest, aW, swhy_tt, pk_us, *]; exact (fun z => e5 ((nI_eqI (b := 0) (by omega) (by decide)).mp z)))]; exact mz1 hg (by simp [aRest, aW, swhy_tt, pk_us, *] <;> rfl))

set_option maxRecDepth 20000 in
set_option maxHeartbeats 1000000 in
theorem tX12_where {h : ZH} {v : Nat → Int32} (hM : h 1063 = some (zO 8 (mfs v))) : ZD mX12_where 0 [.ref 1063] h (some (.int (if v 11 = nI 4 then v 10 else -1))) (zup h 1063 (zO 8 (mfs (upd v 0 0)))) := by
  intro n
  refine z_enter (lv := [(0, _)]) (by decide) (Nat.le_of_ble_eq_true rfl) rfl (fun X C => ?_)
  refine z_aload_n (pc := 0) C dX12_where_0 0 rfl ?_
  refine z_iconst (pc := 1) C dX12_where_1 (nI 0) (by decide) ?_
  refine z_putf (pc := 2) (fs' := mfs (upd _ 0 _)) C dX12_where_2 gX12_56 (by assumption) (fun _ => ⟨rfl, rfl⟩) (by exact Nat.le_of_ble_eq_true rfl) (mfs_set _ 0 _ (by decide)) ?_
  refine z_aload_n (pc := 5) C dX12_where_5 0 rfl ?_
  refine z_getf (pc := 6) C dX12_where_6 fX12_59 (zup_same _ _ _) (by first | rfl | assumption) ?_
  refine z_iconst (pc := 9) C dX12_where_9 (nI 4) (by decide) ?_
  refine z_icmp_ne (pc := 10) C 20 dX12_where_10 (by decide) (fun hc10 => ?_) (fun hc10 => ?_)
  · skip
    have e1 : ¬ v 11 = nI 4 := hc10
    refine z_iconst (pc := 20) C dX12_where_20 (-1) (by decide) ?_
    refine z_iret (pc := 21) C dX12_where_21 rfl (Nat.zero_le _) (Nat.zero_le _) ⟨?_, ?_, rfl⟩
    · simp [*] <;> rfl
    · rfl
  · skip
    have e2 : v 11 = nI 4 := hc10
    refine z_aload_n (pc := 13) C dX12_where_13 0 rfl ?_
    refine z_getf (pc := 14) C dX12_where_14 fX12_13 (zup_same _ _ _) (by first | rfl | assumption) ?_
    refine z_goto (pc := 17) C 21 dX12_where_17 (by decide) ?_
    refine z_iret (pc := 21) C dX12_where_21 rfl (Nat.zero_le _) (Nat.zero_le _) ⟨?_, ?_, rfl⟩
    · simp [*] <;> rfl
    · rfl

set_option maxRecDepth 20000 in
set_option maxHeartbeats 1000000 in
theorem tX11_where {h : ZH} {st : Nat} {ic tb fa pl : Int32} (hK : h 1000 = some (zO 7 (kfs st ic tb fa pl))) : ZD mX11_where 0 [.ref 1000] h (some (.int (if tb = nI 4 then pl else -1))) h := by
  intro n
  refine z_enter (lv := [(0, _)]) (by decide) (Nat.le_of_ble_eq_true rfl) rfl (fun X C => ?_)
  refine z_aload_n (pc := 0) C dX11_where_0 0 rfl ?_
  refine z_getf (pc := 1) C dX11_where_1 fX11_111 (by assumption) (by first | rfl | assumption) ?_
  refine z_iconst (pc := 4) C dX11_where_4 (nI 4) (by decide) ?_
  refine z_icmp_ne (pc := 5) C 15 dX11_where_5 (by decide) (fun hc5 => ?_) (fun hc5 => ?_)
  · skip
    refine z_iconst (pc := 15) C dX11_where_15 (-1) (by decide) ?_
    refine z_iret (pc := 16) C dX11_where_16 rfl (Nat.zero_le _) (Nat.zero_le _) ⟨?_, ?_, rfl⟩
    · first | rw [if_pos hc5] | rw [if_neg hc5]
    · rfl
  · skip
    refine z_aload_n (pc := 8) C dX11_where_8 0 rfl ?_
    refine z_getf (pc := 9) C dX11_where_9 fX11_87 (by assumption) (by first | rfl | assumption) ?_
    refine z_goto (pc := 12) C 16 dX11_where_12 (by decide) ?_
    refine z_iret (pc := 16) C dX11_where_16 rfl (Nat.zero_le _) (Nat.zero_le _) ⟨?_, ?_, rfl⟩
    · first | rw [if_pos hc5] | rw [if_neg hc5]
    · rfl

set_option maxRecDepth 20000 in
set_option maxHeartbeats 1000000 in
theorem tX12_robbed {h : ZH} {v : Nat → Int32} {R S : Nat → Nat} {b : Bool}  (hM : h 1063 = some (zO 8 (mfs v))) (hA : h 1066 = some (zI 241 R)) (hB : h 1070 = some (zI 40 S)) (hR : wfR R) (hS : wfS R S) (hF : v 14 = zb b) (hb : wfB b R) : ZD mX12_robbed 2 [.ref 1063] h (some (.int (aRob R S).1)) (zup h 1063 (zO 8 (mfs (mv v (aRob R S).2)))) := by
  intro n
  obtain ⟨w1, w3, w4, w5, w0, wP, wM, wK, wX⟩ := id hR
  obtain ⟨wT, wL, wB⟩ := id hS
  refine z_enter (lv := [(0, _)]) (by decide) (Nat.le_of_ble_eq_true rfl) rfl (fun X C => ?_)
  refine z_aload_n (pc := 0) C dX12_robbed_0 0 rfl ?_
  refine z_cV0 (pc := 1) mX12_good C [] dX12_robbed_1 lX12_167 mtX12_good (tX12_good (by first | assumption | omega)) (by assumption) rfl rfl (by decide) (Nat.le_of_ble_eq_true rfl) (Nat.zero_le _) (Nat.zero_le _) ?_
  have hM1 : zup h 1063 (zO 8 (mfs (upd (upd v 0 0) 11 0))) 1063 = some (zO 8 (mfs (upd (upd v 0 0) 11 0))) := zup_same _ _ _
  have hA1 : zup h 1063 (zO 8 (mfs (upd (upd v 0 0) 11 0))) 1066 = some (zI 241 R) := (zup_ne (by decide)).trans hA
  have hB1 : zup h 1063 (zO 8 (mfs (upd (upd v 0 0) 11 0))) 1070 = some (zI 40 S) := (zup_ne (by decide)).trans hB
  have hF1 : upd (upd v 0 0) 11 0 14 = zb b := hF
  generalize hg : zup h 1063 (zO 8 (mfs (upd (upd v 0 0) 11 0))) = h1 at hM1 hA1 hB1 ⊢
  refine z_aload_n (pc := 4) C dX12_robbed_4 0 rfl ?_
  refine z_getf (pc := 5) C dX12_robbed_5 fX12_180 (by assumption) (by first | rfl | assumption) ?_
  rw [hF1, hb.1]
  first | refine z_ifneB (pc := 8) C 17 dX12_robbed_8 (by decide) (fun hc8 => ?_) (fun hc8 => ?_) | refine z_ifneN (pc := 8) C 17 dX12_robbed_8 (by decide) (by omega) (fun hc8 => ?_) (fun hc8 => ?_) | refine z_if_ne (pc := 8) C 17 dX12_robbed_8 (by decide) (fun hc8 => ?_) (fun hc8 => ?_)
  · skip
    have e0 : 0 < R 1 := of_decide_eq_true hc8
    refine z_bipush (pc := 17) C dX12_robbed_17 (zo none) (by decide) ?_
    refine z_istore_n (pc := 19) (lv' := [(1, _), (0, _)]) C dX12_robbed_19 (by decide) rfl ?_
    refine z_iconst (pc := 20) C dX12_robbed_20 (zm none) (by decide) ?_
    refine z_istore_n (pc := 21) (lv' := [(2, _), (1, _), (0, _)]) C dX12_robbed_21 (by decide) rfl ?_
    refine z_iconst (pc := 22) C dX12_robbed_22 (nI 0) (by decide) ?_
    refine z_istore_n (pc := 23) (lv' := [(3, _), (2, _), (1, _), (0, _)]) C dX12_robbed_23 (by decide) rfl ?_
    refine z_sub (lv' := [(0, _), (1, _), (2, _), (3, _)]) [3, 2, 1, 0] rfl ?_
    have lp24 : ∀ (f : Nat) (k : Nat) (t u : Option Nat), (k + f = R 3 ∧ (t, u) = srob R S k) → Zc X mX12_robbed (zEnd X (fun r hh n' => r = (some (.int (aRob R S).1)) ∧ hh = (zup h 1063 (zO 8 (mfs (mv v (aRob R S).2)))) ∧ n' = n) 0 0) 24 [(0, .ref 1063), (1, .int (zo t)), (2, .int (zm u)), (3, .int (nI k))] [] h1 n 0 0 := by
      intro f
      induction f using Nat.strongRecOn with
      | _ f ih =>
        intro k t u hk
        obtain ⟨hk, he⟩ := hk
        have e1 : ∀ w, u = some w → w < 2147483648 := fun w hw => by have := srob_lt hR S k w (by rw [← he]; exact hw); omega
        have e3 : sSho R k < 128 := sbits_lt7 _ (by omega)
        have e4 : sFol R S k < 128 := sbits_lt7 _ (by omega)
        have e7 : sSho R k &&& (sFol R S k ^^^ 127) < 128 := Nat.lt_of_le_of_lt Nat.and_le_left e3
        have e8 := sWor_le hR (sSho R k &&& (sFol R S k ^^^ 127))
        refine z_iload_n (pc := 24) C dX12_robbed_24 3 rfl ?_
        refine z_aload_n (pc := 25) C dX12_robbed_25 0 rfl ?_
        refine z_getf (pc := 26) C dX12_robbed_26 fX12_20 (by assumption) (by first | rfl | assumption) ?_
        refine z_iconst (pc := 29) C dX12_robbed_29 (nI 3) (by decide) ?_
        first | refine z_ialdN (pc := 30) C dX12_robbed_30 (by assumption) (by omega) (by decide) ?_ | refine z_ialdI (pc := 30) C dX12_robbed_30 (by assumption) (by omega) (by decide) ?_
        first | refine z_icmpgeN (pc := 31) C 82 dX12_robbed_31 (by decide) (by omega) (by omega) (fun hc31 => ?_) (fun hc31 => ?_) | refine z_icmp_ge (pc := 31) C 82 dX12_robbed_31 (by decide) (fun hc31 => ?_) (fun hc31 => ?_)
        · skip
          refine z_iload_n (pc := 82) C dX12_robbed_82 1 rfl ?_
          refine z_iret (pc := 83) C dX12_robbed_83 rfl (Nat.zero_le _) (Nat.zero_le _) ⟨?_, ?_, rfl⟩
          · obtain rfl : f = 0 := (by omega); obtain rfl : k = R 3 := (by omega); simp [aRob, aF, e0, ← he]
          · first | exact mz0 hg (by simp [aRob, aF, *]) | exact mz1 hg (by simp [aRob, aF, *] <;> rfl)
        · skip
          refine z_aload_n (pc := 34) C dX12_robbed_34 0 rfl ?_
          refine z_iload_n (pc := 35) C dX12_robbed_35 3 rfl ?_
          refine z_cV1 (pc := 36) mX12_shotBy C [_] dX12_robbed_36 lX12_297 mtX12_shotBy (tX12_shotBy (by first | assumption | omega) (by first | assumption | omega) (by first | assumption | omega) (by first | assumption | omega)) (by assumption) rfl rfl (by decide) (Nat.le_of_ble_eq_true rfl) (Nat.zero_le _) (Nat.zero_le _) ?_
          refine z_aload_n (pc := 39) C dX12_robbed_39 0 rfl ?_
          refine z_iload_n (pc := 40) C dX12_robbed_40 3 rfl ?_
          refine z_cV1 (pc := 41) mX12_followersOf C [_] dX12_robbed_41 lX12_291 mtX12_followersOf (tX12_followersOf (by first | assumption | omega) (by first | assumption | omega) (by first | assumption | omega) (by first | assumption | omega) (by first | assumption | omega) (by first | assumption | omega)) (by assumption) rfl rfl (by decide) (Nat.le_of_ble_eq_true rfl) (Nat.zero_le _) (Nat.zero_le _) ?_
          refine z_iconst (pc := 44) C dX12_robbed_44 (-1) (by decide) ?_
          refine z_ixor (pc := 45) C dX12_robbed_45 ?_
          refine z_iand (pc := 46) C dX12_robbed_46 ?_
          refine z_top (nI_andn e3 e4) ?_
          refine z_istore (pc := 47) (lv' := [(4, _), (0, _), (1, _), (2, _), (3, _)]) C dX12_robbed_47 (by decide) rfl ?_
          refine z_iload (pc := 49) C dX12_robbed_49 0 rfl ?_
          first | refine z_ifeqB (pc := 51) C 76 dX12_robbed_51 (by decide) (fun hc51 => ?_) (fun hc51 => ?_) | refine z_ifeqN (pc := 51) C 76 dX12_robbed_51 (by decide) (by omega) (fun hc51 => ?_) (fun hc51 => ?_) | refine z_if_eq (pc := 51) C 76 dX12_robbed_51 (by decide) (fun hc51 => ?_) (fun hc51 => ?_)
          · skip
            have e5 := ih (f - 1) (by omega) (k + 1) t u ⟨by omega, by rw [srob, if_pos hc51]; exact he⟩
            first | refine z_iincN (pc := 76) (lv' := [(3, _), (4, _), (0, _), (1, _), (2, _)]) C 1 dX12_robbed_76 4 rfl (by decide) (by decide) rfl ?_ | refine z_iinc (pc := 76) (lv' := [(3, _), (4, _), (0, _), (1, _), (2, _)]) C dX12_robbed_76 4 rfl _ rfl (by decide) rfl ?_
            refine z_goto (pc := 79) C 24 dX12_robbed_79 (by decide) ?_
            refine z_sub (lv' := [(0, _), (1, _), (2, _), (3, _)]) [2, 3, 4, 0] rfl ?_
            exact e5
          · skip
            refine z_aload_n (pc := 54) C dX12_robbed_54 1 rfl ?_
            refine z_iload (pc := 55) C dX12_robbed_55 0 rfl ?_
            refine z_cV1 (pc := 57) mX12_worthOf C [_] dX12_robbed_57 lX12_294 mtX12_worthOf (tX12_worthOf (by first | assumption | omega) (by first | assumption | omega) (by first | assumption | omega) (by first | assumption | omega)) (by assumption) rfl rfl (by decide) (Nat.le_of_ble_eq_true rfl) (Nat.zero_le _) (Nat.zero_le _) ?_
            refine z_iload_n (pc := 60) C dX12_robbed_60 3 rfl ?_
            refine z_icmp_gt (pc := 61) C 67 dX12_robbed_61 (by decide) (fun hc61 => ?_) (fun hc61 => ?_)
            · skip
              have e5 := ih (f - 1) (by omega) (k + 1) (some k) (some (sWor R (sSho R k &&& (sFol R S k ^^^ 127)))) ⟨by omega, by
                rw [srob, if_neg (by omega), ← he]
                cases u with
                | none => rfl
                | some w =>
                  show _ = if _ ≤ w then _ else _
                  rw [if_neg (fun z => Int32.not_le.mpr hc61 ((zm_le (by omega) e1).mpr ⟨w, rfl, z⟩))]⟩
              refine z_iload_n (pc := 67) C dX12_robbed_67 4 rfl ?_
              refine z_top (show nI k = zo (some k) from rfl) ?_
              refine z_istore_n (pc := 68) (lv' := [(1, _), (4, _), (0, _), (2, _), (3, _)]) C dX12_robbed_68 (by decide) rfl ?_
              refine z_aload_n (pc := 69) C dX12_robbed_69 2 rfl ?_
              refine z_iload (pc := 70) C dX12_robbed_70 1 rfl ?_
              refine z_cV1 (pc := 72) mX12_worthOf C [_] dX12_robbed_72 lX12_294 mtX12_worthOf (tX12_worthOf (by first | assumption | omega) (by first | assumption | omega) (by first | assumption | omega) (by first | assumption | omega)) (by assumption) rfl rfl (by decide) (Nat.le_of_ble_eq_true rfl) (Nat.zero_le _) (Nat.zero_le _) ?_
              refine z_top (show nI (sWor R (sSho R k &&& (sFol R S k ^^^ 127))) = zm (some (sWor R (sSho R k &&& (sFol R S k ^^^ 127)))) from rfl) ?_
              refine z_istore_n (pc := 75) (lv' := [(2, _), (1, _), (4, _), (0, _), (3, _)]) C dX12_robbed_75 (by decide) rfl ?_
              first | refine z_iincN (pc := 76) (lv' := [(3, _), (2, _), (1, _), (4, _), (0, _)]) C 1 dX12_robbed_76 4 rfl (by decide) (by decide) rfl ?_ | refine z_iinc (pc := 76) (lv' := [(3, _), (2, _), (1, _), (4, _), (0, _)]) C dX12_robbed_76 4 rfl _ rfl (by decide) rfl ?_
              refine z_goto (pc := 79) C 24 dX12_robbed_79 (by decide) ?_
              refine z_sub (lv' := [(0, _), (1, _), (2, _), (3, _)]) [4, 2, 1, 0] rfl ?_
              exact e5
            · skip
              obtain ⟨w, hw, hw2⟩ := (zm_le (by omega) e1).mp (Int32.not_lt.mp hc61)
              have e5 := ih (f - 1) (by omega) (k + 1) t u ⟨by omega, by
                rw [srob, if_neg (by omega), ← he, hw]
                show _ = if _ ≤ w then _ else _
                rw [if_pos hw2]⟩
              refine z_goto (pc := 64) C 76 dX12_robbed_64 (by decide) ?_
              first | refine z_iincN (pc := 76) (lv' := [(3, _), (4, _), (0, _), (1, _), (2, _)]) C 1 dX12_robbed_76 4 rfl (by decide) (by decide) rfl ?_ | refine z_iinc (pc := 76) (lv' := [(3, _), (4, _), (0, _), (1, _), (2, _)]) C dX12_robbed_76 4 rfl _ rfl (by decide) rfl ?_
              refine z_goto (pc := 79) C 24 dX12_robbed_79 (by decide) ?_
              refine z_sub (lv' := [(0, _), (1, _), (2, _), (3, _)]) [2, 3, 4, 0] rfl ?_
              exact e5
    exact lp24 (R 3) 0 none none ⟨by omega, rfl⟩
  · skip
    have e0 : ¬ 0 < R 1 := of_decide_eq_false hc8
    refine z_aload_n (pc := 11) C dX12_robbed_11 0 rfl ?_
    refine z_iconst (pc := 12) C dX12_robbed_12 (nI 1) (by decide) ?_
    refine z_cV1 (pc := 13) mX12_no C [_] dX12_robbed_13 lX12_170 mtX12_no (tX12_no (by first | assumption | omega)) (by assumption) rfl rfl (by decide) (Nat.le_of_ble_eq_true rfl) (Nat.zero_le _) (Nat.zero_le _) ?_
    refine z_iret (pc := 16) C dX12_robbed_16 rfl (Nat.zero_le _) (Nat.zero_le _) ⟨?_, ?_, rfl⟩
    · simp [aRob, aF, e0]
    · first | exact mz0 hg (by simp [aRob, aF, *]) | exact mz1 hg (by simp [aRob, aF, *] <;> rfl)

set_option maxRecDepth 20000 in
set_option maxHeartbeats 1000000 in
theorem tX1_mostRobbed {h : ZH} {s le tr t : Nat} {R S : Nat → Nat} (hC : Scn h s le tr t R S) (hR : wfR R) (hS : wfS R S) : ZD mX1_mostRobbed 2 [.ref s] h (some (.int (zo (srob R S (R 3)).1))) h := by
  intro n
  obtain ⟨w1, w3, w4, w5, w0, wP, wM, wK, wX⟩ := id hR
  obtain ⟨wT, wL, wB⟩ := id hS
  obtain ⟨hT, fl, ft, s0, s1, s2, rl, rt⟩ := id hC
  obtain ⟨fc, fh, fn, fk, fs, ff, fw, fe, t0, t1, t2, t3, t4, t5, t6, t7, t8, rc, rh, rn, rk, rs, rf, rv, re⟩ := id hT
  refine z_enter (lv := [(0, _)]) (by decide) (Nat.le_of_ble_eq_true rfl) rfl (fun X C => ?_)
  refine z_bipush (pc := 0) C dX1_mostRobbed_0 (zo none) (by decide) ?_
  refine z_istore_n (pc := 2) (lv' := [(1, _), (0, _)]) C dX1_mostRobbed_2 (by decide) rfl ?_
  refine z_iconst (pc := 3) C dX1_mostRobbed_3 (zm none) (by decide) ?_
  refine z_istore_n (pc := 4) (lv' := [(2, _), (1, _), (0, _)]) C dX1_mostRobbed_4 (by decide) rfl ?_
  refine z_iconst (pc := 5) C dX1_mostRobbed_5 (nI 0) (by decide) ?_
  refine z_istore_n (pc := 6) (lv' := [(3, _), (2, _), (1, _), (0, _)]) C dX1_mostRobbed_6 (by decide) rfl ?_
  refine z_sub (lv' := [(0, _), (1, _), (2, _), (3, _)]) [3, 2, 1, 0] rfl ?_
  have lp7 : ∀ (f : Nat) (k : Nat) (t1 u : Option Nat), (k + f = R 3 ∧ (t1, u) = srob R S k) → Zc X mX1_mostRobbed (zEnd X (fun r hh n' => r = (some (.int (zo (srob R S (R 3)).1))) ∧ hh = h ∧ n' = n) 0 0) 7 [(0, .ref s), (1, .int (zo t1)), (2, .int (zm u)), (3, .int (nI k))] [] h n 0 0 := by
    intro f
    induction f using Nat.strongRecOn with
    | _ f ih =>
      intro k t1 u hk
      obtain ⟨hk, he⟩ := hk
      have e1 : ∀ w, u = some w → w < 2147483648 := fun w hw => by have := srob_lt hR S k w (by rw [← he]; exact hw); omega
      have e3 : sSho R k < 128 := sbits_lt7 _ (by omega)
      have e4 : sFol R S k < 128 := sbits_lt7 _ (by omega)
      have e7 : sSho R k &&& (sFol R S k ^^^ 127) < 128 := Nat.lt_of_le_of_lt Nat.and_le_left e3
      have e8 := sWor_le hR (sSho R k &&& (sFol R S k ^^^ 127))
      refine z_iload_n (pc := 7) C dX1_mostRobbed_7 3 rfl ?_
      refine z_aload_n (pc := 8) C dX1_mostRobbed_8 0 rfl ?_
      refine z_getf (pc := 9) C dX1_mostRobbed_9 fX1_21 (by assumption) (by first | rfl | assumption) ?_
      refine z_getf (pc := 12) C dX1_mostRobbed_12 fX1_38 (by assumption) (by first | rfl | assumption) ?_
      refine z_iconst (pc := 15) C dX1_mostRobbed_15 (nI 3) (by decide) ?_
      refine z_ialdE (pc := 16) C dX1_mostRobbed_16 (by assumption) (by omega) (by decide) (rc 3 (by decide) (by decide)) ?_
      first | refine z_icmpgeN (pc := 17) C 71 dX1_mostRobbed_17 (by decide) (by omega) (by omega) (fun hc17 => ?_) (fun hc17 => ?_) | refine z_icmp_ge (pc := 17) C 71 dX1_mostRobbed_17 (by decide) (fun hc17 => ?_) (fun hc17 => ?_)
      · skip
        refine z_iload_n (pc := 71) C dX1_mostRobbed_71 1 rfl ?_
        refine z_iret (pc := 72) C dX1_mostRobbed_72 rfl (Nat.zero_le _) (Nat.zero_le _) ⟨?_, ?_, rfl⟩
        · obtain rfl : f = 0 := (by omega); obtain rfl : k = R 3 := (by omega); rw [← he]
        · rfl
      · skip
        refine z_aload_n (pc := 20) C dX1_mostRobbed_20 0 rfl ?_
        refine z_getf (pc := 21) C dX1_mostRobbed_21 fX1_21 (by assumption) (by first | rfl | assumption) ?_
        refine z_iload_n (pc := 24) C dX1_mostRobbed_24 3 rfl ?_
        refine z_cV1 (pc := 25) mX8_killsShotBy C [_] dX1_mostRobbed_25 lX1_89 mtX8_killsShotBy (tX8_killsShotBy hT hR (by omega)) (by assumption) rfl rfl (by decide) (Nat.le_of_ble_eq_true rfl) (Nat.zero_le _) (Nat.zero_le _) ?_
        refine z_aload_n (pc := 28) C dX1_mostRobbed_28 0 rfl ?_
        refine z_iload_n (pc := 29) C dX1_mostRobbed_29 3 rfl ?_
        refine z_cV1 (pc := 30) mX5_killsBehind C [_] dX1_mostRobbed_30 lX1_92 mtX5_killsBehind (tX5_killsBehind hC hR hS (by omega)) (by assumption) rfl rfl (by decide) (Nat.le_of_ble_eq_true rfl) (Nat.zero_le _) (Nat.zero_le _) ?_
        refine z_iconst (pc := 33) C dX1_mostRobbed_33 (-1) (by decide) ?_
        refine z_ixor (pc := 34) C dX1_mostRobbed_34 ?_
        refine z_iand (pc := 35) C dX1_mostRobbed_35 ?_
        refine z_top (nI_andn e3 e4) ?_
        refine z_istore (pc := 36) (lv' := [(4, _), (0, _), (1, _), (2, _), (3, _)]) C dX1_mostRobbed_36 (by decide) rfl ?_
        refine z_aload_n (pc := 38) C dX1_mostRobbed_38 1 rfl ?_
        refine z_getf (pc := 39) C dX1_mostRobbed_39 fX1_21 (by assumption) (by first | rfl | assumption) ?_
        refine z_iload (pc := 42) C dX1_mostRobbed_42 0 rfl ?_
        refine z_cV1 (pc := 44) mX8_worthOf C [_] dX1_mostRobbed_44 lX1_95 mtX8_worthOf (tX8_worthOf hT hR (by omega)) (by assumption) rfl rfl (by decide) (Nat.le_of_ble_eq_true rfl) (Nat.zero_le _) (Nat.zero_le _) ?_
        refine z_istore (pc := 47) (lv' := [(5, _), (4, _), (0, _), (1, _), (2, _), (3, _)]) C dX1_mostRobbed_47 (by decide) rfl ?_
        refine z_iload (pc := 49) C dX1_mostRobbed_49 1 rfl ?_
        first | refine z_ifeqB (pc := 51) C 65 dX1_mostRobbed_51 (by decide) (fun hc51 => ?_) (fun hc51 => ?_) | refine z_ifeqN (pc := 51) C 65 dX1_mostRobbed_51 (by decide) (by omega) (fun hc51 => ?_) (fun hc51 => ?_) | refine z_if_eq (pc := 51) C 65 dX1_mostRobbed_51 (by decide) (fun hc51 => ?_) (fun hc51 => ?_)
        · skip
          have e5 := ih (f - 1) (by omega) (k + 1) t1 u ⟨by omega, by rw [srob, if_pos hc51]; exact he⟩
          first | refine z_iincN (pc := 65) (lv' := [(3, _), (5, _), (4, _), (0, _), (1, _), (2, _)]) C 1 dX1_mostRobbed_65 5 rfl (by decide) (by decide) rfl ?_ | refine z_iinc (pc := 65) (lv' := [(3, _), (5, _), (4, _), (0, _), (1, _), (2, _)]) C dX1_mostRobbed_65 5 rfl _ rfl (by decide) rfl ?_
          refine z_goto (pc := 68) C 7 dX1_mostRobbed_68 (by decide) ?_
          refine z_sub (lv' := [(0, _), (1, _), (2, _), (3, _)]) [3, 4, 5, 0] rfl ?_
          exact e5
        · skip
          refine z_iload (pc := 54) C dX1_mostRobbed_54 0 rfl ?_
          refine z_iload_n (pc := 56) C dX1_mostRobbed_56 4 rfl ?_
          refine z_icmp_le (pc := 57) C 65 dX1_mostRobbed_57 (by decide) (fun hc57 => ?_) (fun hc57 => ?_)
          · skip
            obtain ⟨w, hw, hw2⟩ := (zm_le (by omega) e1).mp hc57
            have e5 := ih (f - 1) (by omega) (k + 1) t1 u ⟨by omega, by
              rw [srob, if_neg (by omega), ← he, hw]
              show _ = if _ ≤ w then _ else _
              rw [if_pos hw2]⟩
            first | refine z_iincN (pc := 65) (lv' := [(3, _), (5, _), (4, _), (0, _), (1, _), (2, _)]) C 1 dX1_mostRobbed_65 5 rfl (by decide) (by decide) rfl ?_ | refine z_iinc (pc := 65) (lv' := [(3, _), (5, _), (4, _), (0, _), (1, _), (2, _)]) C dX1_mostRobbed_65 5 rfl _ rfl (by decide) rfl ?_
            refine z_goto (pc := 68) C 7 dX1_mostRobbed_68 (by decide) ?_
            refine z_sub (lv' := [(0, _), (1, _), (2, _), (3, _)]) [3, 4, 5, 0] rfl ?_
            exact e5
          · skip
            have e5 := ih (f - 1) (by omega) (k + 1) (some k) (some (sWor R (sSho R k &&& (sFol R S k ^^^ 127)))) ⟨by omega, by
              rw [srob, if_neg (by omega), ← he]
              cases u with
              | none => rfl
              | some w =>
                show _ = if _ ≤ w then _ else _
                rw [if_neg (fun z => hc57 ((zm_le (by omega) e1).mpr ⟨w, rfl, z⟩))]⟩
            refine z_iload (pc := 60) C dX1_mostRobbed_60 0 rfl ?_
            refine z_top (show nI (sWor R (sSho R k &&& (sFol R S k ^^^ 127))) = zm (some (sWor R (sSho R k &&& (sFol R S k ^^^ 127)))) from rfl) ?_
            refine z_istore_n (pc := 62) (lv' := [(2, _), (5, _), (4, _), (0, _), (1, _), (3, _)]) C dX1_mostRobbed_62 (by decide) rfl ?_
            refine z_iload_n (pc := 63) C dX1_mostRobbed_63 5 rfl ?_
            refine z_top (show nI k = zo (some k) from rfl) ?_
            refine z_istore_n (pc := 64) (lv' := [(1, _), (2, _), (5, _), (4, _), (0, _), (3, _)]) C dX1_mostRobbed_64 (by decide) rfl ?_
            first | refine z_iincN (pc := 65) (lv' := [(3, _), (1, _), (2, _), (5, _), (4, _), (0, _)]) C 1 dX1_mostRobbed_65 5 rfl (by decide) (by decide) rfl ?_ | refine z_iinc (pc := 65) (lv' := [(3, _), (1, _), (2, _), (5, _), (4, _), (0, _)]) C dX1_mostRobbed_65 5 rfl _ rfl (by decide) rfl ?_
            refine z_goto (pc := 68) C 7 dX1_mostRobbed_68 (by decide) ?_
            refine z_sub (lv' := [(0, _), (1, _), (2, _), (3, _)]) [5, 1, 2, 0] rfl ?_
            exact e5
  exact lp7 (R 3) 0 none none ⟨by omega, rfl⟩

set_option maxRecDepth 20000 in
set_option maxHeartbeats 1000000 in
theorem tX11_robbed {h : ZH} {st : Nat} {ic tb fa pl : Int32} {t : Nat} {R S : Nat → Nat}  (hK : h 1000 = some (zO 7 (kfs st ic tb fa pl))) (hC : Scn h 1051 1052 1053 t R S) (hR : wfR R) (hS : wfS R S) : ZD mX11_robbed 3 [.ref 1000] h (some (.int (aRob R S).1)) (zup h 1000 (zO 7 (kfs st ic (aRob R S).2 fa pl))) := by
  intro n
  obtain ⟨w1, w3, w4, w5, w0, wP, wM, wK, wX⟩ := id hR
  obtain ⟨wT, wL, wB⟩ := id hS
  obtain ⟨hT, fl, ft, s0, s1, s2, rl, rt⟩ := id hC
  obtain ⟨fc, fh, fn, fk, fs, ff, fw, fe, t0, t1, t2, t3, t4, t5, t6, t7, t8, rc, rh, rn, rk, rs, rf, rv, re⟩ := id hT
  refine z_enter (lv := [(0, _)]) (by decide) (Nat.le_of_ble_eq_true rfl) rfl (fun X C => ?_)
  refine z_aload_n (pc := 0) C dX11_robbed_0 0 rfl ?_
  refine z_cV1 (pc := 1) mX11_isForest C [] dX11_robbed_1 lX11_183 mtX11_isForest (tX11_isForest (by first | assumption | omega) (by first | assumption | omega) (by first | assumption | omega)) (by assumption) rfl rfl (by decide) (Nat.le_of_ble_eq_true rfl) (Nat.zero_le _) (Nat.zero_le _) ?_
  first | refine z_ifneB (pc := 4) C 13 dX11_robbed_4 (by decide) (fun hc4 => ?_) (fun hc4 => ?_) | refine z_ifneN (pc := 4) C 13 dX11_robbed_4 (by decide) (by omega) (fun hc4 => ?_) (fun hc4 => ?_) | refine z_if_ne (pc := 4) C 13 dX11_robbed_4 (by decide) (fun hc4 => ?_) (fun hc4 => ?_)
  · skip
    have e0 := of_decide_eq_true hc4
    refine z_aload_n (pc := 13) C dX11_robbed_13 0 rfl ?_
    refine z_aload_n (pc := 14) C dX11_robbed_14 0 rfl ?_
    refine z_getf (pc := 15) C dX11_robbed_15 fX11_53 (by assumption) (by first | rfl | assumption) ?_
    refine z_cS1 (pc := 18) mX1_mostRobbed C [_] dX11_robbed_18 lX11_272 mtX1_mostRobbed (tX1_mostRobbed (by first | assumption | omega) (by first | assumption | omega) (by first | assumption | omega)) rfl rfl (by decide) (Nat.le_of_ble_eq_true rfl) (Nat.zero_le _) (Nat.zero_le _) ?_
    refine z_cV1 (pc := 21) mX11_answer C [_] dX11_robbed_21 lX11_108 mtX11_answer (tX11_answer (by first | assumption | omega)) (by assumption) rfl rfl (by decide) (Nat.le_of_ble_eq_true rfl) (Nat.zero_le _) (Nat.zero_le _) ?_
    refine z_iret (pc := 24) C dX11_robbed_24 rfl (Nat.zero_le _) (Nat.zero_le _) ⟨?_, ?_, rfl⟩
    · simp [aRob, aF, *]
    · simp [aRob, aF, *] <;> rfl
  · skip
    have e0 := of_decide_eq_false hc4
    refine z_aload_n (pc := 7) C dX11_robbed_7 0 rfl ?_
    refine z_iconst (pc := 8) C dX11_robbed_8 (nI 1) (by decide) ?_
    refine z_cV1 (pc := 9) mX11_refuse C [_] dX11_robbed_9 lX11_70 mtX11_refuse (tX11_refuse (by first | assumption | omega)) (by assumption) rfl rfl (by decide) (Nat.le_of_ble_eq_true rfl) (Nat.zero_le _) (Nat.zero_le _) ?_
    refine z_iret (pc := 12) C dX11_robbed_12 rfl (Nat.zero_le _) (Nat.zero_le _) ⟨?_, ?_, rfl⟩
    · simp [aRob, aF, *]
    · simp [aRob, aF, *] <;> rfl
