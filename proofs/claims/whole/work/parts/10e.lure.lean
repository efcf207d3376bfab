theorem sgo_congr40 {S T : Nat → Nat} {m p : Nat} (hm : m < 4) (h : ∀ j, j < 40 → T j = S j) : ∀ j, j < 40 → sgo T m p j = sgo S m p j := by
  intro j hj
  unfold sgo
  split
  · rfl
  · split
    · exact h _ (by omega)
    · exact h _ hj
def LuQ (R : Nat → Nat) (S : Nat → Nat) (k p at0 l : Nat) (T L : Nat → Nat) (h : ZH) (w : Value) (hh : ZH) : Prop := w = .int (zo (slu R k p (S (32 + k)) l T)) ∧ (∃ L' V' : Nat → Nat, hh 1074 = some (zI 240 L') ∧ (∀ j, j < 40 * (at0 + 1) → L' j = L j) ∧ hh 1075 = some (zI 40 V')) ∧ ∀ a, a ≠ 1074 → a ≠ 1075 → hh a = h a
def LuF (R S : Nat → Nat) (v : Nat → Int32) (k p l : Nat) : Prop := ∀ (at0 : Nat) (h : ZH) (L V T : Nat → Nat), at0 + l ≤ 5 → h 1063 = some (zO 8 (mfs v)) → h 1066 = some (zI 241 R) → h 1070 = some (zI 40 S) → h 1074 = some (zI 240 L) → h 1075 = some (zI 40 V) → wfS R T → T (32 + k) = S (32 + k) → (∀ j, j < 40 → L (40 * at0 + j) = T j) → ZQ1 mX12_lureFrom (3 + l) [.ref 1063, .int (nI k), .int (nI p), .int (nI at0), .int (nI l)] h (fun w hh => LuQ R S k p at0 l T L h w hh)

set_option maxRecDepth 20000 in
set_option maxHeartbeats 1000000 in
theorem tX12_lureFrom0 {h : ZH} {v : Nat → Int32} {R S L V T : Nat → Nat} {k p at0 : Nat} (hM : h 1063 = some (zO 8 (mfs v))) (hA : h 1066 = some (zI 241 R)) (hB : h 1070 = some (zI 40 S)) (hL : h 1074 = some (zI 240 L)) (hV : h 1075 = some (zI 40 V)) (hR : wfR R) (hS : wfS R S) (hTS : wfS R T) (hTk : T (32 + k) = S (32 + k)) (hE : ∀ j, j < 40 → L (40 * at0 + j) = T j) (hk : k < R 4) (hp : p < R 1) (ha : at0 + 0 ≤ 5) : ZQ1 mX12_lureFrom 3 [.ref 1063, .int (nI k), .int (nI p), .int (nI at0), .int (nI 0)] h (fun w hh => LuQ R S k p at0 0 T L h w hh) := by
  intro n
  obtain ⟨w1, w3, w4, w5, w0, wP, wM, wK, wX⟩ := id hR
  obtain ⟨wT, wL, wB⟩ := id hS
  refine z_enter (lv := [(0, _), (1, _), (2, _), (3, _), (4, _)]) (by decide) (Nat.le_of_ble_eq_true rfl) rfl (fun X C => ?_)
  refine z_aload_n (pc := 0) C dX12_lureFrom_0 0 rfl ?_
  refine z_getf (pc := 1) C dX12_lureFrom_1 fX12_44 (by assumption) (by first | rfl | assumption) ?_
  refine z_bipush (pc := 4) C dX12_lureFrom_4 (nI 40) (by decide) ?_
  refine z_iload_n (pc := 6) C dX12_lureFrom_6 3 rfl ?_
  first | refine z_imulN (pc := 7) C dX12_lureFrom_7 ?_ | refine z_imul (pc := 7) C dX12_lureFrom_7 ?_
  refine z_aload_n (pc := 8) C dX12_lureFrom_8 0 rfl ?_
  refine z_getf (pc := 9) C dX12_lureFrom_9 fX12_47 (by assumption) (by first | rfl | assumption) ?_
  refine z_iconst (pc := 12) C dX12_lureFrom_12 (nI 0) (by decide) ?_
  refine z_bipush (pc := 13) C dX12_lureFrom_13 (nI 40) (by decide) ?_
  refine z_cS0 (pc := 15) mX12_copy C [_, _, _, _, _] dX12_lureFrom_15 lX12_176 mtX12_copy (tX12_copy hL hV (by decide) (by omega) (by decide) (by decide) (by decide)) rfl rfl (by decide) (Nat.le_of_ble_eq_true rfl) (Nat.zero_le _) (Nat.zero_le _) ?_
  have hV1 : ∀ j, j < 40 → ncpy L V (40 * at0) 0 40 j = T j := fun j hj => (ncpy_in0 _ _ hj).trans (hE j hj)
  generalize ncpy L V (40 * at0) 0 40 = V1 at hV1 ⊢
  have F1 : ∀ a, a ≠ 1074 → a ≠ 1075 → zup h 1075 (zI 40 V1) a = h a := fun a _ q => zup_ne q
  have hM1 : zup h 1075 (zI 40 V1) 1063 = _ := (zup_ne (by decide)).trans hM
  have hA1 : zup h 1075 (zI 40 V1) 1066 = _ := (zup_ne (by decide)).trans hA
  have hB1 : zup h 1075 (zI 40 V1) 1070 = _ := (zup_ne (by decide)).trans hB
  have hL1 : zup h 1075 (zI 40 V1) 1074 = _ := (zup_ne (by decide)).trans hL
  have hW1 := zup_same h 1075 (zI 40 V1)
  generalize zup h 1075 (zI 40 V1) = h1 at F1 hM1 hA1 hB1 hL1 hW1 ⊢
  refine z_iload (pc := 18) C dX12_lureFrom_18 4 rfl ?_
  first | refine z_ifneB (pc := 20) C 43 dX12_lureFrom_20 (by decide) (fun hc20 => ?_) (fun hc20 => ?_) | refine z_ifneN (pc := 20) C 43 dX12_lureFrom_20 (by decide) (by omega) (fun hc20 => ?_) (fun hc20 => ?_) | refine z_if_ne (pc := 20) C 43 dX12_lureFrom_20 (by decide) (fun hc20 => ?_) (fun hc20 => ?_)
  · exact absurd hc20 (by decide)
  · skip
    refine z_aload_n (pc := 23) C dX12_lureFrom_23 0 rfl ?_
    refine z_aload_n (pc := 24) C dX12_lureFrom_24 0 rfl ?_
    refine z_getf (pc := 25) C dX12_lureFrom_25 fX12_47 (by assumption) (by first | rfl | assumption) ?_
    refine z_iload_n (pc := 28) C dX12_lureFrom_28 1 rfl ?_
    refine z_cV1 (pc := 29) mX12_standsOf C [_, _] dX12_lureFrom_29 lX12_269 mtX12_standsOf (tX12_standsOf hM1 hA1 hW1 hR (wfS_congr hR hTS (fun x hx => hV1 x (by omega))) hk) hM1 rfl rfl (by decide) (Nat.le_of_ble_eq_true rfl) (Nat.zero_le _) (Nat.zero_le _) ?_
    rw [sstd_congr hR hTS (T := V1) (fun x hx => hV1 x (by omega)) hk]
    have e1 : ∀ q, sstd R T k = some q → q < 2147483648 := fun q hq => by have := sstd_lt hR hTS hk hq; omega
    refine z_iload_n (pc := 32) C dX12_lureFrom_32 2 rfl ?_
    refine z_icmp_ne (pc := 33) C 40 dX12_lureFrom_33 (by decide) (fun hc33 => ?_) (fun hc33 => ?_)
    · skip
      refine z_bipush (pc := 40) C dX12_lureFrom_40 (zo none) (by decide) ?_
      refine z_iret (pc := 42) C dX12_lureFrom_42 rfl (Nat.zero_le _) (Nat.zero_le _) ⟨_, rfl, ?_, rfl⟩
      first | exact ⟨by rw [slu, if_neg (fun z => hc33 ((zo_eq (by omega) e1).mpr z))], ⟨L, V1, hL1, fun _ _ => rfl, hW1⟩, F1⟩ | exact ⟨by rw [slu, if_pos ((zo_eq (by omega) e1).mp hc33)], ⟨L, V1, hL1, fun _ _ => rfl, hW1⟩, F1⟩
    · skip
      refine z_iconst (pc := 36) C dX12_lureFrom_36 (zo (some 0)) (by decide) ?_
      refine z_goto (pc := 37) C 42 dX12_lureFrom_37 (by decide) ?_
      refine z_iret (pc := 42) C dX12_lureFrom_42 rfl (Nat.zero_le _) (Nat.zero_le _) ⟨_, rfl, ?_, rfl⟩
      first | exact ⟨by rw [slu, if_neg (fun z => hc33 ((zo_eq (by omega) e1).mpr z))], ⟨L, V1, hL1, fun _ _ => rfl, hW1⟩, F1⟩ | exact ⟨by rw [slu, if_pos ((zo_eq (by omega) e1).mp hc33)], ⟨L, V1, hL1, fun _ _ => rfl, hW1⟩, F1⟩

set_option maxRecDepth 20000 in
set_option maxHeartbeats 1000000 in
theorem tX12_lureFromS {h : ZH} {v : Nat → Int32} {R S L V T : Nat → Nat} {k p at0 : Nat} {l : Nat} (hM : h 1063 = some (zO 8 (mfs v))) (hA : h 1066 = some (zI 241 R)) (hB : h 1070 = some (zI 40 S)) (hL : h 1074 = some (zI 240 L)) (hV : h 1075 = some (zI 40 V)) (hR : wfR R) (hS : wfS R S) (hTS : wfS R T) (hTk : T (32 + k) = S (32 + k)) (hE : ∀ j, j < 40 → L (40 * at0 + j) = T j) (hk : k < R 4) (hp : p < R 1) (ha : at0 + (l + 1) ≤ 5) (IH : LuF R S v k p l) : ZQ1 mX12_lureFrom (3 + (l + 1)) [.ref 1063, .int (nI k), .int (nI p), .int (nI at0), .int (nI (l + 1))] h (fun w hh => LuQ R S k p at0 (l + 1) T L h w hh) := by
  intro n
  obtain ⟨w1, w3, w4, w5, w0, wP, wM, wK, wX⟩ := id hR
  obtain ⟨wT, wL, wB⟩ := id hS
  have hm3 : (S (32 + k)) < R 3 := wL k hk
  have b1 : T (8 * (S (32 + k))) < R 1 := hTS.1 _ hm3 0 (by omega)
  have b2 := (wP _ b1).2.1
  refine z_enter (lv := [(0, _), (1, _), (2, _), (3, _), (4, _)]) (by decide) (Nat.le_of_ble_eq_true rfl) rfl (fun X C => ?_)
  refine z_aload_n (pc := 0) C dX12_lureFrom_0 0 rfl ?_
  refine z_getf (pc := 1) C dX12_lureFrom_1 fX12_44 hM (by first | rfl | assumption) ?_
  refine z_bipush (pc := 4) C dX12_lureFrom_4 (nI 40) (by decide) ?_
  refine z_iload_n (pc := 6) C dX12_lureFrom_6 3 rfl ?_
  first | refine z_imulN (pc := 7) C dX12_lureFrom_7 ?_ | refine z_imul (pc := 7) C dX12_lureFrom_7 ?_
  refine z_aload_n (pc := 8) C dX12_lureFrom_8 0 rfl ?_
  refine z_getf (pc := 9) C dX12_lureFrom_9 fX12_47 hM (by first | rfl | assumption) ?_
  refine z_iconst (pc := 12) C dX12_lureFrom_12 (nI 0) (by decide) ?_
  refine z_bipush (pc := 13) C dX12_lureFrom_13 (nI 40) (by decide) ?_
  refine z_cS0 (pc := 15) mX12_copy C [_, _, _, _, _] dX12_lureFrom_15 lX12_176 mtX12_copy (tX12_copy hL hV (by decide) (by omega) (by decide) (by decide) (by decide)) rfl rfl (by omega) (Nat.le_of_ble_eq_true rfl) (Nat.zero_le _) (Nat.zero_le _) ?_
  have hV1 : ∀ j, j < 40 → ncpy L V (40 * at0) 0 40 j = T j := fun j hj => (ncpy_in0 _ _ hj).trans (hE j hj)
  generalize ncpy L V (40 * at0) 0 40 = V1 at hV1 ⊢
  have F1 : ∀ a, a ≠ 1074 → a ≠ 1075 → zup h 1075 (zI 40 V1) a = h a := fun a _ q => zup_ne q
  have hM1 : zup h 1075 (zI 40 V1) 1063 = _ := (zup_ne (by decide)).trans hM
  have hA1 : zup h 1075 (zI 40 V1) 1066 = _ := (zup_ne (by decide)).trans hA
  have hB1 : zup h 1075 (zI 40 V1) 1070 = _ := (zup_ne (by decide)).trans hB
  have hL1 : zup h 1075 (zI 40 V1) 1074 = _ := (zup_ne (by decide)).trans hL
  have hW1 := zup_same h 1075 (zI 40 V1)
  generalize zup h 1075 (zI 40 V1) = h1 at F1 hM1 hA1 hB1 hL1 hW1 ⊢
  refine z_iload (pc := 18) C dX12_lureFrom_18 4 rfl ?_
  first | refine z_ifneB (pc := 20) C 43 dX12_lureFrom_20 (by decide) (fun hc20 => ?_) (fun hc20 => ?_) | refine z_ifneN (pc := 20) C 43 dX12_lureFrom_20 (by decide) (by omega) (fun hc20 => ?_) (fun hc20 => ?_) | refine z_if_ne (pc := 20) C 43 dX12_lureFrom_20 (by decide) (fun hc20 => ?_) (fun hc20 => ?_)
  · skip
    refine z_aload_n (pc := 43) C dX12_lureFrom_43 0 rfl ?_
    refine z_getf (pc := 44) C dX12_lureFrom_44 fX12_32 hM1 (by first | rfl | assumption) ?_
    refine z_bipush (pc := 47) C dX12_lureFrom_47 (nI 32) (by decide) ?_
    refine z_iload_n (pc := 49) C dX12_lureFrom_49 1 rfl ?_
    first | refine z_iaddN (pc := 50) C dX12_lureFrom_50 ?_ | refine z_iadd (pc := 50) C dX12_lureFrom_50 ?_
    first | refine z_ialdN (pc := 51) C dX12_lureFrom_51 (by assumption) (by omega) (by decide) ?_ | refine z_ialdI (pc := 51) C dX12_lureFrom_51 (by assumption) (by omega) (by decide) ?_
    refine z_istore (pc := 52) (lv' := [(5, _), (0, _), (1, _), (2, _), (3, _), (4, _)]) C dX12_lureFrom_52 (by decide) rfl ?_
    refine z_aload_n (pc := 54) C dX12_lureFrom_54 1 rfl ?_
    refine z_getf (pc := 55) C dX12_lureFrom_55 fX12_47 hM1 (by first | rfl | assumption) ?_
    refine z_bipush (pc := 58) C dX12_lureFrom_58 (nI 8) (by decide) ?_
    refine z_iload (pc := 60) C dX12_lureFrom_60 0 rfl ?_
    first | refine z_imulN (pc := 62) C dX12_lureFrom_62 ?_ | refine z_imul (pc := 62) C dX12_lureFrom_62 ?_
    refine z_ialdE (pc := 63) C dX12_lureFrom_63 (by assumption) (by omega) (by decide) (hV1 _ (by omega)) ?_
    refine z_istore (pc := 64) (lv' := [(6, _), (5, _), (0, _), (1, _), (2, _), (3, _), (4, _)]) C dX12_lureFrom_64 (by decide) rfl ?_
    refine z_iconst (pc := 66) C dX12_lureFrom_66 (nI 1) (by decide) ?_
    refine z_istore (pc := 67) (lv' := [(7, _), (6, _), (5, _), (0, _), (1, _), (2, _), (3, _), (4, _)]) C dX12_lureFrom_67 (by decide) rfl ?_
    refine z_iconst (pc := 69) C dX12_lureFrom_69 (nI 1) (by decide) ?_
    refine z_istore (pc := 70) (lv' := [(8, _), (7, _), (6, _), (5, _), (0, _), (1, _), (2, _), (3, _), (4, _)]) C dX12_lureFrom_70 (by decide) rfl ?_
    refine z_sub (lv' := [(0, _), (1, _), (2, _), (3, _), (4, _), (5, _), (6, _), (7, _), (8, _)]) [4, 5, 6, 7, 8, 3, 2, 1, 0] rfl ?_
    have lp72 : ∀ (f : Nat) (g : Nat), (g + f = l) → Zc X mX12_lureFrom (zEnd X (fun r hh n' => ∃ w, r = some w ∧ (LuQ R S k p at0 (l + 1) T L h w hh) ∧ n' = n) 0 0) 72 [(0, .ref 1063), (1, .int (nI k)), (2, .int (nI p)), (3, .int (nI at0)), (4, .int (nI (l + 1))), (5, .int (nI (S (32 + k)))), (6, .int (nI (T (8 * (S (32 + k)))))), (7, .int (nI (10 ^ g))), (8, .int (nI (g + 1)))] [] h1 n 0 0 := by
      intro f
      induction f using Nat.strongRecOn with
      | _ f ih =>
        intro g hg
        refine z_iload (pc := 72) C dX12_lureFrom_72 8 rfl ?_
        refine z_iload (pc := 74) C dX12_lureFrom_74 4 rfl ?_
        first | refine z_icmpgeN (pc := 76) C 92 dX12_lureFrom_76 (by decide) (by omega) (by omega) (fun hc76 => ?_) (fun hc76 => ?_) | refine z_icmp_ge (pc := 76) C 92 dX12_lureFrom_76 (by decide) (fun hc76 => ?_) (fun hc76 => ?_)
        · skip
          refine z_iconst (pc := 92) C dX12_lureFrom_92 (nI 0) (by decide) ?_
          refine z_istore (pc := 93) (lv' := [(8, _), (0, _), (1, _), (2, _), (3, _), (4, _), (5, _), (6, _), (7, _)]) C dX12_lureFrom_93 (by decide) rfl ?_
          refine z_sub (lv' := [(0, _), (1, _), (2, _), (3, _), (4, _), (5, _), (6, _), (7, _), (8, _)]) [1, 2, 3, 4, 5, 6, 7, 8, 0] rfl ?_
          have lp95 : ∀ (f2 : Nat) (g : Nat) (h2 : ZH) (L2 V2 : Nat → Nat), (g + f2 = R 1 + 1 ∧ sdl (fun d => slu R k p (S (32 + k)) l (sgo T (S (32 + k)) (sgl T (S (32 + k)) d))) (sOk R T (S (32 + k))) (10 ^ l) (R 1 + 1) 0 = sdl (fun d => slu R k p (S (32 + k)) l (sgo T (S (32 + k)) (sgl T (S (32 + k)) d))) (sOk R T (S (32 + k))) (10 ^ l) f2 g ∧ h2 1074 = some (zI 240 L2) ∧ (∀ j, j < 40 * (at0 + 1) → L2 j = L j) ∧ h2 1075 = some (zI 40 V2) ∧ ∀ a, a ≠ 1074 → a ≠ 1075 → h2 a = h a) → Zc X mX12_lureFrom (zEnd X (fun r hh n' => ∃ w, r = some w ∧ (LuQ R S k p at0 (l + 1) T L h w hh) ∧ n' = n) 0 0) 95 [(0, .ref 1063), (1, .int (nI k)), (2, .int (nI p)), (3, .int (nI at0)), (4, .int (nI (l + 1))), (5, .int (nI (S (32 + k)))), (6, .int (nI (T (8 * (S (32 + k)))))), (7, .int (nI (10 ^ l))), (8, .int (nI g))] [] h2 n 0 0 := by
            intro f2
            induction f2 using Nat.strongRecOn with
            | _ f2 ih2 =>
              intro g h2 L2 V2 hk2
              obtain ⟨hk2, he, hL2, hE2, hV2, F2⟩ := hk2
              have hM2 : h2 1063 = _ := (F2 _ (by decide) (by decide)).trans hM
              have hA2 : h2 1066 = _ := (F2 _ (by decide) (by decide)).trans hA
              have hB2 : h2 1070 = _ := (F2 _ (by decide) (by decide)).trans hB
              refine z_iload (pc := 95) C dX12_lureFrom_95 8 rfl ?_
              refine z_aload_n (pc := 97) C dX12_lureFrom_97 0 rfl ?_
              refine z_getf (pc := 98) C dX12_lureFrom_98 fX12_20 hM2 (by first | rfl | assumption) ?_
              refine z_iconst (pc := 101) C dX12_lureFrom_101 (nI 1) (by decide) ?_
              first | refine z_ialdN (pc := 102) C dX12_lureFrom_102 (by assumption) (by omega) (by decide) ?_ | refine z_ialdI (pc := 102) C dX12_lureFrom_102 (by assumption) (by omega) (by decide) ?_
              first | refine z_icmpgtN (pc := 103) C 230 dX12_lureFrom_103 (by decide) (by omega) (by omega) (fun hc103 => ?_) (fun hc103 => ?_) | refine z_icmp_gt (pc := 103) C 230 dX12_lureFrom_103 (by decide) (fun hc103 => ?_) (fun hc103 => ?_)
              · skip
                refine z_bipush (pc := 230) C dX12_lureFrom_230 (zo none) (by decide) ?_
                refine z_iret (pc := 232) C dX12_lureFrom_232 rfl (Nat.zero_le _) (Nat.zero_le _) ⟨_, rfl, ?_, rfl⟩
                exact ⟨by rw [show slu R k p (S (32 + k)) (l + 1) T = none from by rw [slu, he, show f2 = 0 by omega]; rfl], ⟨L2, V2, hL2, hE2, hV2⟩, F2⟩
              · skip
                refine z_iload (pc := 106) C dX12_lureFrom_106 8 rfl ?_
                first | refine z_ifleN (pc := 108) C 134 dX12_lureFrom_108 (by decide) (by omega) (fun hc108 => ?_) (fun hc108 => ?_) | refine z_if_le (pc := 108) C 134 dX12_lureFrom_108 (by decide) (fun hc108 => ?_) (fun hc108 => ?_)
                · skip
                  have hok : sOk R T (S (32 + k)) g = true := by unfold sOk; rw [decide_eq_true hc108]; rfl
                  refine z_aload_n (pc := 134) C dX12_lureFrom_134 0 rfl ?_
                  refine z_getf (pc := 135) C dX12_lureFrom_135 fX12_44 hM2 (by first | rfl | assumption) ?_
                  refine z_bipush (pc := 138) C dX12_lureFrom_138 (nI 40) (by decide) ?_
                  refine z_iload_n (pc := 140) C dX12_lureFrom_140 3 rfl ?_
                  first | refine z_imulN (pc := 141) C dX12_lureFrom_141 ?_ | refine z_imul (pc := 141) C dX12_lureFrom_141 ?_
                  refine z_aload_n (pc := 142) C dX12_lureFrom_142 0 rfl ?_
                  refine z_getf (pc := 143) C dX12_lureFrom_143 fX12_47 hM2 (by first | rfl | assumption) ?_
                  refine z_iconst (pc := 146) C dX12_lureFrom_146 (nI 0) (by decide) ?_
                  refine z_bipush (pc := 147) C dX12_lureFrom_147 (nI 40) (by decide) ?_
                  refine z_cS0 (pc := 149) mX12_copy C [_, _, _, _, _] dX12_lureFrom_149 lX12_176 mtX12_copy (tX12_copy hL2 hV2 (by decide) (by omega) (by decide) (by decide) (by decide)) rfl rfl (by omega) (Nat.le_of_ble_eq_true rfl) (Nat.zero_le _) (Nat.zero_le _) ?_
                  have hV3 : ∀ j, j < 40 → ncpy L2 V2 (40 * at0) 0 40 j = T j := fun j hj => (ncpy_in0 _ _ hj).trans ((hE2 _ (by omega)).trans (hE j hj))
                  generalize ncpy L2 V2 (40 * at0) 0 40 = V3 at hV3 ⊢
                  have hW3 := zup_same h2 1075 (zI 40 V3)
                  have F3 : ∀ a, a ≠ 1075 → zup h2 1075 (zI 40 V3) a = h2 a := fun a q => zup_ne q
                  generalize zup h2 1075 (zI 40 V3) = h3 at hW3 F3 ⊢
                  have hM3 : h3 1063 = _ := (F3 _ (by decide)).trans hM2
                  refine z_aload_n (pc := 152) C dX12_lureFrom_152 0 rfl ?_
                  refine z_getf (pc := 153) C dX12_lureFrom_153 fX12_47 hM3 (by first | rfl | assumption) ?_
                  refine z_iload (pc := 156) C dX12_lureFrom_156 5 rfl ?_
                  refine z_iload (pc := 158) C dX12_lureFrom_158 8 rfl ?_
                  first | refine z_ifneB (pc := 160) C 168 dX12_lureFrom_160 (by decide) (fun hc160 => ?_) (fun hc160 => ?_) | refine z_ifneN (pc := 160) C 168 dX12_lureFrom_160 (by decide) (by omega) (fun hc160 => ?_) (fun hc160 => ?_) | refine z_if_ne (pc := 160) C 168 dX12_lureFrom_160 (by decide) (fun hc160 => ?_) (fun hc160 => ?_)
                  · skip
                    refine z_iload (pc := 168) C dX12_lureFrom_168 8 rfl ?_
                    refine z_iconst (pc := 170) C dX12_lureFrom_170 (nI 1) (by decide) ?_
                    first | refine z_isubN (pc := 171) C dX12_lureFrom_171 (by omega) ?_ | refine z_isub (pc := 171) C dX12_lureFrom_171 ?_
                    refine z_top (show nI (g - 1) = nI (sgl T (S (32 + k)) g) from by unfold sgl; rw [if_neg (by omega)]) ?_
                    refine z_cS0 (pc := 172) mX12_stepOf C [_, _, _] dX12_lureFrom_172 lX12_252 mtX12_stepOf (tX12_stepOf hW3 (by omega)) rfl rfl (by omega) (Nat.le_of_ble_eq_true rfl) (Nat.zero_le _) (Nat.zero_le _) ?_
                    have hW4 := zup_same h3 1075 (zI 40 (sgo V3 (S (32 + k)) (sgl T (S (32 + k)) g)))
                    have F4 : ∀ a, a ≠ 1075 → zup h3 1075 (zI 40 (sgo V3 (S (32 + k)) (sgl T (S (32 + k)) g))) a = h2 a := fun a q => (zup_ne q).trans (F3 a q)
                    generalize zup h3 1075 (zI 40 (sgo V3 (S (32 + k)) (sgl T (S (32 + k)) g))) = h4 at hW4 F4 ⊢
                    have hM4 : h4 1063 = _ := (F4 _ (by decide)).trans hM2
                    have hL4 : h4 1074 = _ := (F4 _ (by decide)).trans hL2
                    refine z_aload_n (pc := 175) C dX12_lureFrom_175 0 rfl ?_
                    refine z_getf (pc := 176) C dX12_lureFrom_176 fX12_47 hM4 (by first | rfl | assumption) ?_
                    refine z_iconst (pc := 179) C dX12_lureFrom_179 (nI 0) (by decide) ?_
                    refine z_aload_n (pc := 180) C dX12_lureFrom_180 0 rfl ?_
                    refine z_getf (pc := 181) C dX12_lureFrom_181 fX12_44 hM4 (by first | rfl | assumption) ?_
                    refine z_bipush (pc := 184) C dX12_lureFrom_184 (nI 40) (by decide) ?_
                    refine z_iload_n (pc := 186) C dX12_lureFrom_186 3 rfl ?_
                    refine z_iconst (pc := 187) C dX12_lureFrom_187 (nI 1) (by decide) ?_
                    first | refine z_iaddN (pc := 188) C dX12_lureFrom_188 ?_ | refine z_iadd (pc := 188) C dX12_lureFrom_188 ?_
                    first | refine z_imulN (pc := 189) C dX12_lureFrom_189 ?_ | refine z_imul (pc := 189) C dX12_lureFrom_189 ?_
                    refine z_bipush (pc := 190) C dX12_lureFrom_190 (nI 40) (by decide) ?_
                    refine z_cS0 (pc := 192) mX12_copy C [_, _, _, _, _] dX12_lureFrom_192 lX12_176 mtX12_copy (tX12_copy hW4 hL4 (by decide) (by decide) (by omega) (by decide) (by decide)) rfl rfl (by omega) (Nat.le_of_ble_eq_true rfl) (Nat.zero_le _) (Nat.zero_le _) ?_
                    have hE5 : ∀ j, j < 40 → ncpy (sgo V3 (S (32 + k)) (sgl T (S (32 + k)) g)) L2 0 (40 * (at0 + 1)) 40 (40 * (at0 + 1) + j) = sgo T (S (32 + k)) (sgl T (S (32 + k)) g) j := fun j hj => (ncpy_in _ _ hj).trans (by rw [Nat.zero_add]; exact sgo_congr40 (by omega) hV3 j hj)
                    have hO5 : ∀ j, j < 40 * (at0 + 1) → ncpy (sgo V3 (S (32 + k)) (sgl T (S (32 + k)) g)) L2 0 (40 * (at0 + 1)) 40 j = L j := fun j hj => (ncpy_out _ _ (by omega)).trans (hE2 j hj)
                    generalize ncpy (sgo V3 (S (32 + k)) (sgl T (S (32 + k)) g)) L2 0 (40 * (at0 + 1)) 40 = L5 at hE5 hO5 ⊢
                    have hL5 := zup_same h4 1074 (zI 240 L5)
                    have F5 : ∀ a, a ≠ 1074 → zup h4 1074 (zI 240 L5) a = h4 a := fun a q => zup_ne q
                    generalize zup h4 1074 (zI 240 L5) = h5 at hL5 F5 ⊢
                    have hM5 : h5 1063 = _ := (F5 _ (by decide)).trans hM4
                    have hA5 : h5 1066 = some (zI 241 R) := (F5 _ (by decide)).trans ((F4 _ (by decide)).trans hA2)
                    have hB5 : h5 1070 = some (zI 40 S) := (F5 _ (by decide)).trans ((F4 _ (by decide)).trans hB2)
                    have hW5 := (F5 1075 (by decide)).trans hW4
                    refine z_aload_n (pc := 195) C dX12_lureFrom_195 0 rfl ?_
                    refine z_iload_n (pc := 196) C dX12_lureFrom_196 1 rfl ?_
                    refine z_iload_n (pc := 197) C dX12_lureFrom_197 2 rfl ?_
                    refine z_iload_n (pc := 198) C dX12_lureFrom_198 3 rfl ?_
                    refine z_iconst (pc := 199) C dX12_lureFrom_199 (nI 1) (by decide) ?_
                    first | refine z_iaddN (pc := 200) C dX12_lureFrom_200 ?_ | refine z_iadd (pc := 200) C dX12_lureFrom_200 ?_
                    refine z_iload (pc := 201) C dX12_lureFrom_201 4 rfl ?_
                    refine z_iconst (pc := 203) C dX12_lureFrom_203 (nI 1) (by decide) ?_
                    first | refine z_isubN (pc := 204) C dX12_lureFrom_204 (by omega) ?_ | refine z_isub (pc := 204) C dX12_lureFrom_204 ?_
                    refine z_top (show nI (l + 1 - 1) = nI l from rfl) ?_
                    refine z_cV1Q (pc := 205) mX12_lureFrom C [_, _, _, _] dX12_lureFrom_205 lX12_323 mtX12_lureFrom (IH (at0 + 1) h5 L5 _ (sgo T (S (32 + k)) (sgl T (S (32 + k)) g)) (by omega) hM5 hA5 hB5 hL5 hW5 (wfS_go hR hTS hm3 (sOk_lt hR hTS hm3 hok).1) (by rw [sgo_k (by omega) (by omega)]; exact hTk) hE5) hM5 rfl rfl (by omega) (Nat.le_of_ble_eq_true rfl) (Nat.zero_le _) (Nat.zero_le _) ?_
                    rintro _ h6 ⟨rfl, ⟨L6, V6, hL6, hE6, hV6⟩, F6⟩
                    have FF : ∀ a, a ≠ 1074 → a ≠ 1075 → h6 a = h a := fun a q1 q2 => (F6 a q1 q2).trans ((F5 a q1).trans ((F4 a q2).trans (F2 a q1 q2)))
                    have EE : ∀ j, j < 40 * (at0 + 1) → L6 j = L j := fun j hj => (hE6 j (by omega)).trans (hO5 j hj)
                    refine z_istore (pc := 208) (lv' := [(9, _), (0, _), (1, _), (2, _), (3, _), (4, _), (5, _), (6, _), (7, _), (8, _)]) C dX12_lureFrom_208 (by decide) rfl ?_
                    refine z_iload (pc := 210) C dX12_lureFrom_210 0 rfl ?_
                    first | refine z_ifltO (pc := 212) C 224 dX12_lureFrom_212 (by decide) (fun r hr => by have := slu_lt w1 l _ r hr; have := (p10 (n := l) (by omega)).1; omega) (fun hc212 => ?_) (fun hc212 => ?_) | refine z_ifltN (pc := 212) C 224 dX12_lureFrom_212 (by decide) (by omega) (fun hc212 => ?_) (fun hc212 => ?_) | refine z_if_lt (pc := 212) C 224 dX12_lureFrom_212 (by decide) (fun hc212 => ?_) (fun hc212 => ?_)
                    · skip
                      have e9 := ih2 (f2 - 1) (by omega) (g + 1) h6 L6 V6 ⟨by omega, by rw [he]; obtain ⟨f2, rfl⟩ : ∃ y, f2 = y + 1 := ⟨f2 - 1, by omega⟩; rw [sdl_no hok hc212]; rfl, hL6, EE, hV6, FF⟩
                      first | refine z_iincN (pc := 224) (lv' := [(8, _), (9, _), (0, _), (1, _), (2, _), (3, _), (4, _), (5, _), (6, _), (7, _)]) C 1 dX12_lureFrom_224 9 rfl (by decide) (by decide) rfl ?_ | refine z_iinc (pc := 224) (lv' := [(8, _), (9, _), (0, _), (1, _), (2, _), (3, _), (4, _), (5, _), (6, _), (7, _)]) C dX12_lureFrom_224 9 rfl _ rfl (by decide) rfl ?_
                      refine z_goto (pc := 227) C 95 dX12_lureFrom_227 (by decide) ?_
                      refine z_sub (lv' := [(0, _), (1, _), (2, _), (3, _), (4, _), (5, _), (6, _), (7, _), (8, _)]) [2, 3, 4, 5, 6, 7, 8, 9, 0] rfl ?_
                      exact e9
                    · skip
                      obtain ⟨r, hr⟩ := hc212
                      rw [hr]
                      have e7 : slu R k p (S (32 + k)) (l + 1) T = some (10 ^ l * g + r) := by rw [slu, he]; obtain ⟨f2, rfl⟩ : ∃ y, f2 = y + 1 := ⟨f2 - 1, by omega⟩; exact sdl_ok hok hr
                      refine z_iload (pc := 215) C dX12_lureFrom_215 8 rfl ?_
                      refine z_iload (pc := 217) C dX12_lureFrom_217 9 rfl ?_
                      first | refine z_imulN (pc := 219) C dX12_lureFrom_219 ?_ | refine z_imul (pc := 219) C dX12_lureFrom_219 ?_
                      refine z_iload (pc := 220) C dX12_lureFrom_220 0 rfl ?_
                      refine z_top (show zo (some r) = nI r from rfl) ?_
                      first | refine z_iaddN (pc := 222) C dX12_lureFrom_222 ?_ | refine z_iadd (pc := 222) C dX12_lureFrom_222 ?_
                      refine z_iret (pc := 223) C dX12_lureFrom_223 rfl (Nat.zero_le _) (Nat.zero_le _) ⟨_, rfl, ?_, rfl⟩
                      exact ⟨by rw [e7]; rfl, ⟨L6, V6, hL6, EE, hV6⟩, FF⟩
                  · skip
                    refine z_iload (pc := 163) C dX12_lureFrom_163 6 rfl ?_
                    refine z_top (show nI (T (8 * (S (32 + k)))) = nI (sgl T (S (32 + k)) g) from by unfold sgl; rw [if_pos hc160]) ?_
                    refine z_goto (pc := 165) C 172 dX12_lureFrom_165 (by decide) ?_
                    refine z_cS0 (pc := 172) mX12_stepOf C [_, _, _] dX12_lureFrom_172 lX12_252 mtX12_stepOf (tX12_stepOf hW3 (by omega)) rfl rfl (by omega) (Nat.le_of_ble_eq_true rfl) (Nat.zero_le _) (Nat.zero_le _) ?_
                    have hW4 := zup_same h3 1075 (zI 40 (sgo V3 (S (32 + k)) (sgl T (S (32 + k)) g)))
                    have F4 : ∀ a, a ≠ 1075 → zup h3 1075 (zI 40 (sgo V3 (S (32 + k)) (sgl T (S (32 + k)) g))) a = h2 a := fun a q => (zup_ne q).trans (F3 a q)
                    generalize zup h3 1075 (zI 40 (sgo V3 (S (32 + k)) (sgl T (S (32 + k)) g))) = h4 at hW4 F4 ⊢
                    have hM4 : h4 1063 = _ := (F4 _ (by decide)).trans hM2
                    have hL4 : h4 1074 = _ := (F4 _ (by decide)).trans hL2
                    refine z_aload_n (pc := 175) C dX12_lureFrom_175 0 rfl ?_
                    refine z_getf (pc := 176) C dX12_lureFrom_176 fX12_47 hM4 (by first | rfl | assumption) ?_
                    refine z_iconst (pc := 179) C dX12_lureFrom_179 (nI 0) (by decide) ?_
                    refine z_aload_n (pc := 180) C dX12_lureFrom_180 0 rfl ?_
                    refine z_getf (pc := 181) C dX12_lureFrom_181 fX12_44 hM4 (by first | rfl | assumption) ?_
                    refine z_bipush (pc := 184) C dX12_lureFrom_184 (nI 40) (by decide) ?_
                    refine z_iload_n (pc := 186) C dX12_lureFrom_186 3 rfl ?_
                    refine z_iconst (pc := 187) C dX12_lureFrom_187 (nI 1) (by decide) ?_
                    first | refine z_iaddN (pc := 188) C dX12_lureFrom_188 ?_ | refine z_iadd (pc := 188) C dX12_lureFrom_188 ?_
                    first | refine z_imulN (pc := 189) C dX12_lureFrom_189 ?_ | refine z_imul (pc := 189) C dX12_lureFrom_189 ?_
                    refine z_bipush (pc := 190) C dX12_lureFrom_190 (nI 40) (by decide) ?_
                    refine z_cS0 (pc := 192) mX12_copy C [_, _, _, _, _] dX12_lureFrom_192 lX12_176 mtX12_copy (tX12_copy hW4 hL4 (by decide) (by decide) (by omega) (by decide) (by decide)) rfl rfl (by omega) (Nat.le_of_ble_eq_true rfl) (Nat.zero_le _) (Nat.zero_le _) ?_
                    have hE5 : ∀ j, j < 40 → ncpy (sgo V3 (S (32 + k)) (sgl T (S (32 + k)) g)) L2 0 (40 * (at0 + 1)) 40 (40 * (at0 + 1) + j) = sgo T (S (32 + k)) (sgl T (S (32 + k)) g) j := fun j hj => (ncpy_in _ _ hj).trans (by rw [Nat.zero_add]; exact sgo_congr40 (by omega) hV3 j hj)
                    have hO5 : ∀ j, j < 40 * (at0 + 1) → ncpy (sgo V3 (S (32 + k)) (sgl T (S (32 + k)) g)) L2 0 (40 * (at0 + 1)) 40 j = L j := fun j hj => (ncpy_out _ _ (by omega)).trans (hE2 j hj)
                    generalize ncpy (sgo V3 (S (32 + k)) (sgl T (S (32 + k)) g)) L2 0 (40 * (at0 + 1)) 40 = L5 at hE5 hO5 ⊢
                    have hL5 := zup_same h4 1074 (zI 240 L5)
                    have F5 : ∀ a, a ≠ 1074 → zup h4 1074 (zI 240 L5) a = h4 a := fun a q => zup_ne q
                    generalize zup h4 1074 (zI 240 L5) = h5 at hL5 F5 ⊢
                    have hM5 : h5 1063 = _ := (F5 _ (by decide)).trans hM4
                    have hA5 : h5 1066 = some (zI 241 R) := (F5 _ (by decide)).trans ((F4 _ (by decide)).trans hA2)
                    have hB5 : h5 1070 = some (zI 40 S) := (F5 _ (by decide)).trans ((F4 _ (by decide)).trans hB2)
                    have hW5 := (F5 1075 (by decide)).trans hW4
                    refine z_aload_n (pc := 195) C dX12_lureFrom_195 0 rfl ?_
                    refine z_iload_n (pc := 196) C dX12_lureFrom_196 1 rfl ?_
                    refine z_iload_n (pc := 197) C dX12_lureFrom_197 2 rfl ?_
                    refine z_iload_n (pc := 198) C dX12_lureFrom_198 3 rfl ?_
                    refine z_iconst (pc := 199) C dX12_lureFrom_199 (nI 1) (by decide) ?_
                    first | refine z_iaddN (pc := 200) C dX12_lureFrom_200 ?_ | refine z_iadd (pc := 200) C dX12_lureFrom_200 ?_
                    refine z_iload (pc := 201) C dX12_lureFrom_201 4 rfl ?_
                    refine z_iconst (pc := 203) C dX12_lureFrom_203 (nI 1) (by decide) ?_
                    first | refine z_isubN (pc := 204) C dX12_lureFrom_204 (by omega) ?_ | refine z_isub (pc := 204) C dX12_lureFrom_204 ?_
                    refine z_top (show nI (l + 1 - 1) = nI l from rfl) ?_
                    refine z_cV1Q (pc := 205) mX12_lureFrom C [_, _, _, _] dX12_lureFrom_205 lX12_323 mtX12_lureFrom (IH (at0 + 1) h5 L5 _ (sgo T (S (32 + k)) (sgl T (S (32 + k)) g)) (by omega) hM5 hA5 hB5 hL5 hW5 (wfS_go hR hTS hm3 (sOk_lt hR hTS hm3 hok).1) (by rw [sgo_k (by omega) (by omega)]; exact hTk) hE5) hM5 rfl rfl (by omega) (Nat.le_of_ble_eq_true rfl) (Nat.zero_le _) (Nat.zero_le _) ?_
                    rintro _ h6 ⟨rfl, ⟨L6, V6, hL6, hE6, hV6⟩, F6⟩
                    have FF : ∀ a, a ≠ 1074 → a ≠ 1075 → h6 a = h a := fun a q1 q2 => (F6 a q1 q2).trans ((F5 a q1).trans ((F4 a q2).trans (F2 a q1 q2)))
                    have EE : ∀ j, j < 40 * (at0 + 1) → L6 j = L j := fun j hj => (hE6 j (by omega)).trans (hO5 j hj)
                    refine z_istore (pc := 208) (lv' := [(9, _), (0, _), (1, _), (2, _), (3, _), (4, _), (5, _), (6, _), (7, _), (8, _)]) C dX12_lureFrom_208 (by decide) rfl ?_
                    refine z_iload (pc := 210) C dX12_lureFrom_210 0 rfl ?_
                    first | refine z_ifltO (pc := 212) C 224 dX12_lureFrom_212 (by decide) (fun r hr => by have := slu_lt w1 l _ r hr; have := (p10 (n := l) (by omega)).1; omega) (fun hc212 => ?_) (fun hc212 => ?_) | refine z_ifltN (pc := 212) C 224 dX12_lureFrom_212 (by decide) (by omega) (fun hc212 => ?_) (fun hc212 => ?_) | refine z_if_lt (pc := 212) C 224 dX12_lureFrom_212 (by decide) (fun hc212 => ?_) (fun hc212 => ?_)
                    · skip
                      have e9 := ih2 (f2 - 1) (by omega) (g + 1) h6 L6 V6 ⟨by omega, by rw [he]; obtain ⟨f2, rfl⟩ : ∃ y, f2 = y + 1 := ⟨f2 - 1, by omega⟩; rw [sdl_no hok hc212]; rfl, hL6, EE, hV6, FF⟩
                      first | refine z_iincN (pc := 224) (lv' := [(8, _), (9, _), (0, _), (1, _), (2, _), (3, _), (4, _), (5, _), (6, _), (7, _)]) C 1 dX12_lureFrom_224 9 rfl (by decide) (by decide) rfl ?_ | refine z_iinc (pc := 224) (lv' := [(8, _), (9, _), (0, _), (1, _), (2, _), (3, _), (4, _), (5, _), (6, _), (7, _)]) C dX12_lureFrom_224 9 rfl _ rfl (by decide) rfl ?_
                      refine z_goto (pc := 227) C 95 dX12_lureFrom_227 (by decide) ?_
                      refine z_sub (lv' := [(0, _), (1, _), (2, _), (3, _), (4, _), (5, _), (6, _), (7, _), (8, _)]) [2, 3, 4, 5, 6, 7, 8, 9, 0] rfl ?_
                      exact e9
                    · skip
                      obtain ⟨r, hr⟩ := hc212
                      rw [hr]
                      have e7 : slu R k p (S (32 + k)) (l + 1) T = some (10 ^ l * g + r) := by rw [slu, he]; obtain ⟨f2, rfl⟩ : ∃ y, f2 = y + 1 := ⟨f2 - 1, by omega⟩; exact sdl_ok hok hr
                      refine z_iload (pc := 215) C dX12_lureFrom_215 8 rfl ?_
                      refine z_iload (pc := 217) C dX12_lureFrom_217 9 rfl ?_
                      first | refine z_imulN (pc := 219) C dX12_lureFrom_219 ?_ | refine z_imul (pc := 219) C dX12_lureFrom_219 ?_
                      refine z_iload (pc := 220) C dX12_lureFrom_220 0 rfl ?_
                      refine z_top (show zo (some r) = nI r from rfl) ?_
                      first | refine z_iaddN (pc := 222) C dX12_lureFrom_222 ?_ | refine z_iadd (pc := 222) C dX12_lureFrom_222 ?_
                      refine z_iret (pc := 223) C dX12_lureFrom_223 rfl (Nat.zero_le _) (Nat.zero_le _) ⟨_, rfl, ?_, rfl⟩
                      exact ⟨by rw [e7]; rfl, ⟨L6, V6, hL6, EE, hV6⟩, FF⟩
                · skip
                  refine z_aload_n (pc := 111) C dX12_lureFrom_111 0 rfl ?_
                  refine z_getf (pc := 112) C dX12_lureFrom_112 fX12_20 hM2 (by first | rfl | assumption) ?_
                  refine z_bipush (pc := 115) C dX12_lureFrom_115 (nI 23) (by decide) ?_
                  refine z_iload (pc := 117) C dX12_lureFrom_117 6 rfl ?_
                  first | refine z_iaddN (pc := 119) C dX12_lureFrom_119 ?_ | refine z_iadd (pc := 119) C dX12_lureFrom_119 ?_
                  first | refine z_ialdN (pc := 120) C dX12_lureFrom_120 (by assumption) (by omega) (by decide) ?_ | refine z_ialdI (pc := 120) C dX12_lureFrom_120 (by assumption) (by omega) (by decide) ?_
                  refine z_iload (pc := 121) C dX12_lureFrom_121 8 rfl ?_
                  refine z_iconst (pc := 123) C dX12_lureFrom_123 (nI 1) (by decide) ?_
                  first | refine z_isubN (pc := 124) C dX12_lureFrom_124 (by omega) ?_ | refine z_isub (pc := 124) C dX12_lureFrom_124 ?_
                  refine z_cS1 (pc := 125) mX12_hasBit C [_, _] dX12_lureFrom_125 lX12_236 mtX12_hasBit (tX12_hasBit (by omega) (by omega)) rfl rfl (by omega) (Nat.le_of_ble_eq_true rfl) (Nat.zero_le _) (Nat.zero_le _) ?_
                  first | refine z_ifneB (pc := 128) C 134 dX12_lureFrom_128 (by decide) (fun hc128 => ?_) (fun hc128 => ?_) | refine z_ifneN (pc := 128) C 134 dX12_lureFrom_128 (by decide) (by omega) (fun hc128 => ?_) (fun hc128 => ?_) | refine z_if_ne (pc := 128) C 134 dX12_lureFrom_128 (by decide) (fun hc128 => ?_) (fun hc128 => ?_)
                  · skip
                    have hok : sOk R T (S (32 + k)) g = true := by unfold sOk; rw [hc128, Bool.or_true]
                    refine z_aload_n (pc := 134) C dX12_lureFrom_134 0 rfl ?_
                    refine z_getf (pc := 135) C dX12_lureFrom_135 fX12_44 hM2 (by first | rfl | assumption) ?_
                    refine z_bipush (pc := 138) C dX12_lureFrom_138 (nI 40) (by decide) ?_
                    refine z_iload_n (pc := 140) C dX12_lureFrom_140 3 rfl ?_
                    first | refine z_imulN (pc := 141) C dX12_lureFrom_141 ?_ | refine z_imul (pc := 141) C dX12_lureFrom_141 ?_
                    refine z_aload_n (pc := 142) C dX12_lureFrom_142 0 rfl ?_
                    refine z_getf (pc := 143) C dX12_lureFrom_143 fX12_47 hM2 (by first | rfl | assumption) ?_
                    refine z_iconst (pc := 146) C dX12_lureFrom_146 (nI 0) (by decide) ?_
                    refine z_bipush (pc := 147) C dX12_lureFrom_147 (nI 40) (by decide) ?_
                    refine z_cS0 (pc := 149) mX12_copy C [_, _, _, _, _] dX12_lureFrom_149 lX12_176 mtX12_copy (tX12_copy hL2 hV2 (by decide) (by omega) (by decide) (by decide) (by decide)) rfl rfl (by omega) (Nat.le_of_ble_eq_true rfl) (Nat.zero_le _) (Nat.zero_le _) ?_
                    have hV3 : ∀ j, j < 40 → ncpy L2 V2 (40 * at0) 0 40 j = T j := fun j hj => (ncpy_in0 _ _ hj).trans ((hE2 _ (by omega)).trans (hE j hj))
                    generalize ncpy L2 V2 (40 * at0) 0 40 = V3 at hV3 ⊢
                    have hW3 := zup_same h2 1075 (zI 40 V3)
                    have F3 : ∀ a, a ≠ 1075 → zup h2 1075 (zI 40 V3) a = h2 a := fun a q => zup_ne q
                    generalize zup h2 1075 (zI 40 V3) = h3 at hW3 F3 ⊢
                    have hM3 : h3 1063 = _ := (F3 _ (by decide)).trans hM2
                    refine z_aload_n (pc := 152) C dX12_lureFrom_152 0 rfl ?_
                    refine z_getf (pc := 153) C dX12_lureFrom_153 fX12_47 hM3 (by first | rfl | assumption) ?_
                    refine z_iload (pc := 156) C dX12_lureFrom_156 5 rfl ?_
                    refine z_iload (pc := 158) C dX12_lureFrom_158 8 rfl ?_
                    first | refine z_ifneB (pc := 160) C 168 dX12_lureFrom_160 (by decide) (fun hc160 => ?_) (fun hc160 => ?_) | refine z_ifneN (pc := 160) C 168 dX12_lureFrom_160 (by decide) (by omega) (fun hc160 => ?_) (fun hc160 => ?_) | refine z_if_ne (pc := 160) C 168 dX12_lureFrom_160 (by decide) (fun hc160 => ?_) (fun hc160 => ?_)
                    · skip
                      refine z_iload (pc := 168) C dX12_lureFrom_168 8 rfl ?_
                      refine z_iconst (pc := 170) C dX12_lureFrom_170 (nI 1) (by decide) ?_
                      first | refine z_isubN (pc := 171) C dX12_lureFrom_171 (by omega) ?_ | refine z_isub (pc := 171) C dX12_lureFrom_171 ?_
                      refine z_top (show nI (g - 1) = nI (sgl T (S (32 + k)) g) from by unfold sgl; rw [if_neg (by omega)]) ?_
                      refine z_cS0 (pc := 172) mX12_stepOf C [_, _, _] dX12_lureFrom_172 lX12_252 mtX12_stepOf (tX12_stepOf hW3 (by omega)) rfl rfl (by omega) (Nat.le_of_ble_eq_true rfl) (Nat.zero_le _) (Nat.zero_le _) ?_
                      have hW4 := zup_same h3 1075 (zI 40 (sgo V3 (S (32 + k)) (sgl T (S (32 + k)) g)))
                      have F4 : ∀ a, a ≠ 1075 → zup h3 1075 (zI 40 (sgo V3 (S (32 + k)) (sgl T (S (32 + k)) g))) a = h2 a := fun a q => (zup_ne q).trans (F3 a q)
                      generalize zup h3 1075 (zI 40 (sgo V3 (S (32 + k)) (sgl T (S (32 + k)) g))) = h4 at hW4 F4 ⊢
                      have hM4 : h4 1063 = _ := (F4 _ (by decide)).trans hM2
                      have hL4 : h4 1074 = _ := (F4 _ (by decide)).trans hL2
                      refine z_aload_n (pc := 175) C dX12_lureFrom_175 0 rfl ?_
                      refine z_getf (pc := 176) C dX12_lureFrom_176 fX12_47 hM4 (by first | rfl | assumption) ?_
                      refine z_iconst (pc := 179) C dX12_lureFrom_179 (nI 0) (by decide) ?_
                      refine z_aload_n (pc := 180) C dX12_lureFrom_180 0 rfl ?_
                      refine z_getf (pc := 181) C dX12_lureFrom_181 fX12_44 hM4 (by first | rfl | assumption) ?_
                      refine z_bipush (pc := 184) C dX12_lureFrom_184 (nI 40) (by decide) ?_
                      refine z_iload_n (pc := 186) C dX12_lureFrom_186 3 rfl ?_
                      refine z_iconst (pc := 187) C dX12_lureFrom_187 (nI 1) (by decide) ?_
                      first | refine z_iaddN (pc := 188) C dX12_lureFrom_188 ?_ | refine z_iadd (pc := 188) C dX12_lureFrom_188 ?_
                      first | refine z_imulN (pc := 189) C dX12_lureFrom_189 ?_ | refine z_imul (pc := 189) C dX12_lureFrom_189 ?_
                      refine z_bipush (pc := 190) C dX12_lureFrom_190 (nI 40) (by decide) ?_
                      refine z_cS0 (pc := 192) mX12_copy C [_, _, _, _, _] dX12_lureFrom_192 lX12_176 mtX12_copy (tX12_copy hW4 hL4 (by decide) (by decide) (by omega) (by decide) (by decide)) rfl rfl (by omega) (Nat.le_of_ble_eq_true rfl) (Nat.zero_le _) (Nat.zero_le _) ?_
                      have hE5 : ∀ j, j < 40 → ncpy (sgo V3 (S (32 + k)) (sgl T (S (32 + k)) g)) L2 0 (40 * (at0 + 1)) 40 (40 * (at0 + 1) + j) = sgo T (S (32 + k)) (sgl T (S (32 + k)) g) j := fun j hj => (ncpy_in _ _ hj).trans (by rw [Nat.zero_add]; exact sgo_congr40 (by omega) hV3 j hj)
                      have hO5 : ∀ j, j < 40 * (at0 + 1) → ncpy (sgo V3 (S (32 + k)) (sgl T (S (32 + k)) g)) L2 0 (40 * (at0 + 1)) 40 j = L j := fun j hj => (ncpy_out _ _ (by omega)).trans (hE2 j hj)
                      generalize ncpy (sgo V3 (S (32 + k)) (sgl T (S (32 + k)) g)) L2 0 (40 * (at0 + 1)) 40 = L5 at hE5 hO5 ⊢
                      have hL5 := zup_same h4 1074 (zI 240 L5)
                      have F5 : ∀ a, a ≠ 1074 → zup h4 1074 (zI 240 L5) a = h4 a := fun a q => zup_ne q
                      generalize zup h4 1074 (zI 240 L5) = h5 at hL5 F5 ⊢
                      have hM5 : h5 1063 = _ := (F5 _ (by decide)).trans hM4
                      have hA5 : h5 1066 = some (zI 241 R) := (F5 _ (by decide)).trans ((F4 _ (by decide)).trans hA2)
                      have hB5 : h5 1070 = some (zI 40 S) := (F5 _ (by decide)).trans ((F4 _ (by decide)).trans hB2)
                      have hW5 := (F5 1075 (by decide)).trans hW4
                      refine z_aload_n (pc := 195) C dX12_lureFrom_195 0 rfl ?_
                      refine z_iload_n (pc := 196) C dX12_lureFrom_196 1 rfl ?_
                      refine z_iload_n (pc := 197) C dX12_lureFrom_197 2 rfl ?_
                      refine z_iload_n (pc := 198) C dX12_lureFrom_198 3 rfl ?_
                      refine z_iconst (pc := 199) C dX12_lureFrom_199 (nI 1) (by decide) ?_
                      first | refine z_iaddN (pc := 200) C dX12_lureFrom_200 ?_ | refine z_iadd (pc := 200) C dX12_lureFrom_200 ?_
                      refine z_iload (pc := 201) C dX12_lureFrom_201 4 rfl ?_
                      refine z_iconst (pc := 203) C dX12_lureFrom_203 (nI 1) (by decide) ?_
                      first | refine z_isubN (pc := 204) C dX12_lureFrom_204 (by omega) ?_ | refine z_isub (pc := 204) C dX12_lureFrom_204 ?_
                      refine z_top (show nI (l + 1 - 1) = nI l from rfl) ?_
                      refine z_cV1Q (pc := 205) mX12_lureFrom C [_, _, _, _] dX12_lureFrom_205 lX12_323 mtX12_lureFrom (IH (at0 + 1) h5 L5 _ (sgo T (S (32 + k)) (sgl T (S (32 + k)) g)) (by omega) hM5 hA5 hB5 hL5 hW5 (wfS_go hR hTS hm3 (sOk_lt hR hTS hm3 hok).1) (by rw [sgo_k (by omega) (by omega)]; exact hTk) hE5) hM5 rfl rfl (by omega) (Nat.le_of_ble_eq_true rfl) (Nat.zero_le _) (Nat.zero_le _) ?_
                      rintro _ h6 ⟨rfl, ⟨L6, V6, hL6, hE6, hV6⟩, F6⟩
                      have FF : ∀ a, a ≠ 1074 → a ≠ 1075 → h6 a = h a := fun a q1 q2 => (F6 a q1 q2).trans ((F5 a q1).trans ((F4 a q2).trans (F2 a q1 q2)))
                      have EE : ∀ j, j < 40 * (at0 + 1) → L6 j = L j := fun j hj => (hE6 j (by omega)).trans (hO5 j hj)
                      refine z_istore (pc := 208) (lv' := [(9, _), (0, _), (1, _), (2, _), (3, _), (4, _), (5, _), (6, _), (7, _), (8, _)]) C dX12_lureFrom_208 (by decide) rfl ?_
                      refine z_iload (pc := 210) C dX12_lureFrom_210 0 rfl ?_
                      first | refine z_ifltO (pc := 212) C 224 dX12_lureFrom_212 (by decide) (fun r hr => by have := slu_lt w1 l _ r hr; have := (p10 (n := l) (by omega)).1; omega) (fun hc212 => ?_) (fun hc212 => ?_) | refine z_ifltN (pc := 212) C 224 dX12_lureFrom_212 (by decide) (by omega) (fun hc212 => ?_) (fun hc212 => ?_) | refine z_if_lt (pc := 212) C 224 dX12_lureFrom_212 (by decide) (fun hc212 => ?_) (fun hc212 => ?_)
                      · skip
                        have e9 := ih2 (f2 - 1) (by omega) (g + 1) h6 L6 V6 ⟨by omega, by rw [he]; obtain ⟨f2, rfl⟩ : ∃ y, f2 = y + 1 := ⟨f2 - 1, by omega⟩; rw [sdl_no hok hc212]; rfl, hL6, EE, hV6, FF⟩
                        first | refine z_iincN (pc := 224) (lv' := [(8, _), (9, _), (0, _), (1, _), (2, _), (3, _), (4, _), (5, _), (6, _), (7, _)]) C 1 dX12_lureFrom_224 9 rfl (by decide) (by decide) rfl ?_ | refine z_iinc (pc := 224) (lv' := [(8, _), (9, _), (0, _), (1, _), (2, _), (3, _), (4, _), (5, _), (6, _), (7, _)]) C dX12_lureFrom_224 9 rfl _ rfl (by decide) rfl ?_
                        refine z_goto (pc := 227) C 95 dX12_lureFrom_227 (by decide) ?_
                        refine z_sub (lv' := [(0, _), (1, _), (2, _), (3, _), (4, _), (5, _), (6, _), (7, _), (8, _)]) [2, 3, 4, 5, 6, 7, 8, 9, 0] rfl ?_
                        exact e9
                      · skip
                        obtain ⟨r, hr⟩ := hc212
                        rw [hr]
                        have e7 : slu R k p (S (32 + k)) (l + 1) T = some (10 ^ l * g + r) := by rw [slu, he]; obtain ⟨f2, rfl⟩ : ∃ y, f2 = y + 1 := ⟨f2 - 1, by omega⟩; exact sdl_ok hok hr
                        refine z_iload (pc := 215) C dX12_lureFrom_215 8 rfl ?_
                        refine z_iload (pc := 217) C dX12_lureFrom_217 9 rfl ?_
                        first | refine z_imulN (pc := 219) C dX12_lureFrom_219 ?_ | refine z_imul (pc := 219) C dX12_lureFrom_219 ?_
                        refine z_iload (pc := 220) C dX12_lureFrom_220 0 rfl ?_
                        refine z_top (show zo (some r) = nI r from rfl) ?_
                        first | refine z_iaddN (pc := 222) C dX12_lureFrom_222 ?_ | refine z_iadd (pc := 222) C dX12_lureFrom_222 ?_
                        refine z_iret (pc := 223) C dX12_lureFrom_223 rfl (Nat.zero_le _) (Nat.zero_le _) ⟨_, rfl, ?_, rfl⟩
                        exact ⟨by rw [e7]; rfl, ⟨L6, V6, hL6, EE, hV6⟩, FF⟩
                    · skip
                      refine z_iload (pc := 163) C dX12_lureFrom_163 6 rfl ?_
                      refine z_top (show nI (T (8 * (S (32 + k)))) = nI (sgl T (S (32 + k)) g) from by unfold sgl; rw [if_pos hc160]) ?_
                      refine z_goto (pc := 165) C 172 dX12_lureFrom_165 (by decide) ?_
                      refine z_cS0 (pc := 172) mX12_stepOf C [_, _, _] dX12_lureFrom_172 lX12_252 mtX12_stepOf (tX12_stepOf hW3 (by omega)) rfl rfl (by omega) (Nat.le_of_ble_eq_true rfl) (Nat.zero_le _) (Nat.zero_le _) ?_
                      have hW4 := zup_same h3 1075 (zI 40 (sgo V3 (S (32 + k)) (sgl T (S (32 + k)) g)))
                      have F4 : ∀ a, a ≠ 1075 → zup h3 1075 (zI 40 (sgo V3 (S (32 + k)) (sgl T (S (32 + k)) g))) a = h2 a := fun a q => (zup_ne q).trans (F3 a q)
                      generalize zup h3 1075 (zI 40 (sgo V3 (S (32 + k)) (sgl T (S (32 + k)) g))) = h4 at hW4 F4 ⊢
                      have hM4 : h4 1063 = _ := (F4 _ (by decide)).trans hM2
                      have hL4 : h4 1074 = _ := (F4 _ (by decide)).trans hL2
                      refine z_aload_n (pc := 175) C dX12_lureFrom_175 0 rfl ?_
                      refine z_getf (pc := 176) C dX12_lureFrom_176 fX12_47 hM4 (by first | rfl | assumption) ?_
                      refine z_iconst (pc := 179) C dX12_lureFrom_179 (nI 0) (by decide) ?_
                      refine z_aload_n (pc := 180) C dX12_lureFrom_180 0 rfl ?_
                      refine z_getf (pc := 181) C dX12_lureFrom_181 fX12_44 hM4 (by first | rfl | assumption) ?_
                      refine z_bipush (pc := 184) C dX12_lureFrom_184 (nI 40) (by decide) ?_
                      refine z_iload_n (pc := 186) C dX12_lureFrom_186 3 rfl ?_
                      refine z_iconst (pc := 187) C dX12_lureFrom_187 (nI 1) (by decide) ?_
                      first | refine z_iaddN (pc := 188) C dX12_lureFrom_188 ?_ | refine z_iadd (pc := 188) C dX12_lureFrom_188 ?_
                      first | refine z_imulN (pc := 189) C dX12_lureFrom_189 ?_ | refine z_imul (pc := 189) C dX12_lureFrom_189 ?_
                      refine z_bipush (pc := 190) C dX12_lureFrom_190 (nI 40) (by decide) ?_
                      refine z_cS0 (pc := 192) mX12_copy C [_, _, _, _, _] dX12_lureFrom_192 lX12_176 mtX12_copy (tX12_copy hW4 hL4 (by decide) (by decide) (by omega) (by decide) (by decide)) rfl rfl (by omega) (Nat.le_of_ble_eq_true rfl) (Nat.zero_le _) (Nat.zero_le _) ?_
                      have hE5 : ∀ j, j < 40 → ncpy (sgo V3 (S (32 + k)) (sgl T (S (32 + k)) g)) L2 0 (40 * (at0 + 1)) 40 (40 * (at0 + 1) + j) = sgo T (S (32 + k)) (sgl T (S (32 + k)) g) j := fun j hj => (ncpy_in _ _ hj).trans (by rw [Nat.zero_add]; exact sgo_congr40 (by omega) hV3 j hj)
                      have hO5 : ∀ j, j < 40 * (at0 + 1) → ncpy (sgo V3 (S (32 + k)) (sgl T (S (32 + k)) g)) L2 0 (40 * (at0 + 1)) 40 j = L j := fun j hj => (ncpy_out _ _ (by omega)).trans (hE2 j hj)
                      generalize ncpy (sgo V3 (S (32 + k)) (sgl T (S (32 + k)) g)) L2 0 (40 * (at0 + 1)) 40 = L5 at hE5 hO5 ⊢
                      have hL5 := zup_same h4 1074 (zI 240 L5)
                      have F5 : ∀ a, a ≠ 1074 → zup h4 1074 (zI 240 L5) a = h4 a := fun a q => zup_ne q
                      generalize zup h4 1074 (zI 240 L5) = h5 at hL5 F5 ⊢
                      have hM5 : h5 1063 = _ := (F5 _ (by decide)).trans hM4
                      have hA5 : h5 1066 = some (zI 241 R) := (F5 _ (by decide)).trans ((F4 _ (by decide)).trans hA2)
                      have hB5 : h5 1070 = some (zI 40 S) := (F5 _ (by decide)).trans ((F4 _ (by decide)).trans hB2)
                      have hW5 := (F5 1075 (by decide)).trans hW4
                      refine z_aload_n (pc := 195) C dX12_lureFrom_195 0 rfl ?_
                      refine z_iload_n (pc := 196) C dX12_lureFrom_196 1 rfl ?_
                      refine z_iload_n (pc := 197) C dX12_lureFrom_197 2 rfl ?_
                      refine z_iload_n (pc := 198) C dX12_lureFrom_198 3 rfl ?_
                      refine z_iconst (pc := 199) C dX12_lureFrom_199 (nI 1) (by decide) ?_
                      first | refine z_iaddN (pc := 200) C dX12_lureFrom_200 ?_ | refine z_iadd (pc := 200) C dX12_lureFrom_200 ?_
                      refine z_iload (pc := 201) C dX12_lureFrom_201 4 rfl ?_
                      refine z_iconst (pc := 203) C dX12_lureFrom_203 (nI 1) (by decide) ?_
                      first | refine z_isubN (pc := 204) C dX12_lureFrom_204 (by omega) ?_ | refine z_isub (pc := 204) C dX12_lureFrom_204 ?_
                      refine z_top (show nI (l + 1 - 1) = nI l from rfl) ?_
                      refine z_cV1Q (pc := 205) mX12_lureFrom C [_, _, _, _] dX12_lureFrom_205 lX12_323 mtX12_lureFrom (IH (at0 + 1) h5 L5 _ (sgo T (S (32 + k)) (sgl T (S (32 + k)) g)) (by omega) hM5 hA5 hB5 hL5 hW5 (wfS_go hR hTS hm3 (sOk_lt hR hTS hm3 hok).1) (by rw [sgo_k (by omega) (by omega)]; exact hTk) hE5) hM5 rfl rfl (by omega) (Nat.le_of_ble_eq_true rfl) (Nat.zero_le _) (Nat.zero_le _) ?_
                      rintro _ h6 ⟨rfl, ⟨L6, V6, hL6, hE6, hV6⟩, F6⟩
                      have FF : ∀ a, a ≠ 1074 → a ≠ 1075 → h6 a = h a := fun a q1 q2 => (F6 a q1 q2).trans ((F5 a q1).trans ((F4 a q2).trans (F2 a q1 q2)))
                      have EE : ∀ j, j < 40 * (at0 + 1) → L6 j = L j := fun j hj => (hE6 j (by omega)).trans (hO5 j hj)
                      refine z_istore (pc := 208) (lv' := [(9, _), (0, _), (1, _), (2, _), (3, _), (4, _), (5, _), (6, _), (7, _), (8, _)]) C dX12_lureFrom_208 (by decide) rfl ?_
                      refine z_iload (pc := 210) C dX12_lureFrom_210 0 rfl ?_
                      first | refine z_ifltO (pc := 212) C 224 dX12_lureFrom_212 (by decide) (fun r hr => by have := slu_lt w1 l _ r hr; have := (p10 (n := l) (by omega)).1; omega) (fun hc212 => ?_) (fun hc212 => ?_) | refine z_ifltN (pc := 212) C 224 dX12_lureFrom_212 (by decide) (by omega) (fun hc212 => ?_) (fun hc212 => ?_) | refine z_if_lt (pc := 212) C 224 dX12_lureFrom_212 (by decide) (fun hc212 => ?_) (fun hc212 => ?_)
                      · skip
                        have e9 := ih2 (f2 - 1) (by omega) (g + 1) h6 L6 V6 ⟨by omega, by rw [he]; obtain ⟨f2, rfl⟩ : ∃ y, f2 = y + 1 := ⟨f2 - 1, by omega⟩; rw [sdl_no hok hc212]; rfl, hL6, EE, hV6, FF⟩
                        first | refine z_iincN (pc := 224) (lv' := [(8, _), (9, _), (0, _), (1, _), (2, _), (3, _), (4, _), (5, _), (6, _), (7, _)]) C 1 dX12_lureFrom_224 9 rfl (by decide) (by decide) rfl ?_ | refine z_iinc (pc := 224) (lv' := [(8, _), (9, _), (0, _), (1, _), (2, _), (3, _), (4, _), (5, _), (6, _), (7, _)]) C dX12_lureFrom_224 9 rfl _ rfl (by decide) rfl ?_
                        refine z_goto (pc := 227) C 95 dX12_lureFrom_227 (by decide) ?_
                        refine z_sub (lv' := [(0, _), (1, _), (2, _), (3, _), (4, _), (5, _), (6, _), (7, _), (8, _)]) [2, 3, 4, 5, 6, 7, 8, 9, 0] rfl ?_
                        exact e9
                      · skip
                        obtain ⟨r, hr⟩ := hc212
                        rw [hr]
                        have e7 : slu R k p (S (32 + k)) (l + 1) T = some (10 ^ l * g + r) := by rw [slu, he]; obtain ⟨f2, rfl⟩ : ∃ y, f2 = y + 1 := ⟨f2 - 1, by omega⟩; exact sdl_ok hok hr
                        refine z_iload (pc := 215) C dX12_lureFrom_215 8 rfl ?_
                        refine z_iload (pc := 217) C dX12_lureFrom_217 9 rfl ?_
                        first | refine z_imulN (pc := 219) C dX12_lureFrom_219 ?_ | refine z_imul (pc := 219) C dX12_lureFrom_219 ?_
                        refine z_iload (pc := 220) C dX12_lureFrom_220 0 rfl ?_
                        refine z_top (show zo (some r) = nI r from rfl) ?_
                        first | refine z_iaddN (pc := 222) C dX12_lureFrom_222 ?_ | refine z_iadd (pc := 222) C dX12_lureFrom_222 ?_
                        refine z_iret (pc := 223) C dX12_lureFrom_223 rfl (Nat.zero_le _) (Nat.zero_le _) ⟨_, rfl, ?_, rfl⟩
                        exact ⟨by rw [e7]; rfl, ⟨L6, V6, hL6, EE, hV6⟩, FF⟩
                  · skip
                    have hno : sOk R T (S (32 + k)) g = false := by unfold sOk; rw [hc128, decide_eq_false (by omega)]; rfl
                    have e9 := ih2 (f2 - 1) (by omega) (g + 1) h2 L2 V2 ⟨by omega, by rw [he]; obtain ⟨f2, rfl⟩ : ∃ y, f2 = y + 1 := ⟨f2 - 1, by omega⟩; rw [sdl_sk hno]; rfl, hL2, hE2, hV2, F2⟩
                    refine z_goto (pc := 131) C 224 dX12_lureFrom_131 (by decide) ?_
                    first | refine z_iincN (pc := 224) (lv' := [(8, _), (0, _), (1, _), (2, _), (3, _), (4, _), (5, _), (6, _), (7, _)]) C 1 dX12_lureFrom_224 8 rfl (by decide) (by decide) rfl ?_ | refine z_iinc (pc := 224) (lv' := [(8, _), (0, _), (1, _), (2, _), (3, _), (4, _), (5, _), (6, _), (7, _)]) C dX12_lureFrom_224 8 rfl _ rfl (by decide) rfl ?_
                    refine z_goto (pc := 227) C 95 dX12_lureFrom_227 (by decide) ?_
                    refine z_sub (lv' := [(0, _), (1, _), (2, _), (3, _), (4, _), (5, _), (6, _), (7, _), (8, _)]) [1, 2, 3, 4, 5, 6, 7, 8, 0] rfl ?_
                    exact e9
          (obtain rfl : g = l := (by omega); exact lp95 (R 1 + 1) 0 h1 L V1 ⟨by omega, rfl, hL1, fun _ _ => rfl, hW1, F1⟩)
        · skip
          refine z_iload (pc := 79) C dX12_lureFrom_79 7 rfl ?_
          refine z_bipush (pc := 81) C dX12_lureFrom_81 (nI 10) (by decide) ?_
          first | refine z_imulN (pc := 83) C dX12_lureFrom_83 ?_ | refine z_imul (pc := 83) C dX12_lureFrom_83 ?_
          refine z_istore (pc := 84) (lv' := [(7, _), (0, _), (1, _), (2, _), (3, _), (4, _), (5, _), (6, _), (8, _)]) C dX12_lureFrom_84 (by decide) rfl ?_
          first | refine z_iincN (pc := 86) (lv' := [(8, _), (7, _), (0, _), (1, _), (2, _), (3, _), (4, _), (5, _), (6, _)]) C 1 dX12_lureFrom_86 8 rfl (by decide) (by decide) rfl ?_ | refine z_iinc (pc := 86) (lv' := [(8, _), (7, _), (0, _), (1, _), (2, _), (3, _), (4, _), (5, _), (6, _)]) C dX12_lureFrom_86 8 rfl _ rfl (by decide) rfl ?_
          refine z_goto (pc := 89) C 72 dX12_lureFrom_89 (by decide) ?_
          refine z_sub (lv' := [(0, _), (1, _), (2, _), (3, _), (4, _), (5, _), (6, _), (7, _), (8, _)]) [2, 3, 4, 5, 6, 7, 8, 1, 0] rfl ?_
          exact ih (f - 1) (by omega) (g + 1) (by omega)
    exact lp72 l 0 (by omega)
  · exact absurd hc20 (by omega)

theorem tX12_lureFrom {R S : Nat → Nat} {v : Nat → Int32} {k p : Nat} (hR : wfR R) (hS : wfS R S) (hk : k < R 4) (hp : p < R 1) : ∀ l, LuF R S v k p l := by
  intro l
  induction l with
  | zero => intro at0 h L V T ha hM hA hB hL hV hTS hTk hE; exact tX12_lureFrom0 hM hA hB hL hV hR hS hTS hTk hE hk hp ha
  | succ l ih => intro at0 h L V T ha hM hA hB hL hV hTS hTk hE; exact tX12_lureFromS hM hA hB hL hV hR hS hTS hTk hE hk hp ha ih
theorem mQ.mv {h hh : ZH} {v v' : Nat → Int32} (h1 : hh 1063 = some (zO 8 (mfs v'))) (hV : mV v v') (hJ : mJ h) {L V : Nat → Nat} (h2 : hh 1074 = some (zI 240 L)) (h3 : hh 1075 = some (zI 40 V)) (hF : ∀ a, a ≠ 1063 → a ≠ 1074 → a ≠ 1075 → hh a = h a) : mQ h hh v := by
  obtain ⟨⟨T1, e1⟩, -, -, ⟨T4, e4⟩, T5, e5⟩ := hJ
  exact ⟨⟨v', h1, hV⟩, ⟨⟨T1, (hF _ (by decide) (by decide) (by decide)).trans e1⟩, ⟨L, h2⟩, ⟨V, h3⟩, ⟨T4, (hF _ (by decide) (by decide) (by decide)).trans e4⟩, T5, (hF _ (by decide) (by decide) (by decide)).trans e5⟩, fun a q1 q2 => hF a q1 (by omega) (by omega)⟩

set_option maxRecDepth 20000 in
set_option maxHeartbeats 1000000 in
theorem tX12_lureOf {h : ZH} {v : Nat → Int32} {R S : Nat → Nat} {k p : Nat} (hM : h 1063 = some (zO 8 (mfs v))) (hA : h 1066 = some (zI 241 R)) (hB : h 1070 = some (zI 40 S)) (hJ : mJ h) (hR : wfR R) (hS : wfS R S) (hk : k < R 4) (hp : p < R 1) : ZQ1 mX12_lureOf 9 [.ref 1063, .int (nI k), .int (nI p)] h (fun w hh => w = .int (zo ((sLur R S k p).map Prod.snd)) ∧ mQ h hh v ∧ ∃ v', hh 1063 = some (zO 8 (mfs v')) ∧ ∀ x, sLur R S k p = some x → v' 27 = nI x.1) := by
  intro n
  obtain ⟨w1, w3, w4, w5, w0, wP, wM, wK, wX⟩ := id hR
  obtain ⟨wT, wL, wB⟩ := id hS
  obtain ⟨L0, hL0⟩ := id hJ.2.1
  obtain ⟨V0, hV0⟩ := id hJ.2.2.1
  refine z_enter (lv := [(0, _), (1, _), (2, _)]) (by decide) (Nat.le_of_ble_eq_true rfl) rfl (fun X C => ?_)
  refine z_aload_n (pc := 0) C dX12_lureOf_0 0 rfl ?_
  refine z_getf (pc := 1) C dX12_lureOf_1 fX12_32 (by assumption) (by first | rfl | assumption) ?_
  refine z_iconst (pc := 4) C dX12_lureOf_4 (nI 0) (by decide) ?_
  refine z_aload_n (pc := 5) C dX12_lureOf_5 0 rfl ?_
  refine z_getf (pc := 6) C dX12_lureOf_6 fX12_44 (by assumption) (by first | rfl | assumption) ?_
  refine z_iconst (pc := 9) C dX12_lureOf_9 (nI 0) (by decide) ?_
  refine z_bipush (pc := 10) C dX12_lureOf_10 (nI 40) (by decide) ?_
  refine z_cS0 (pc := 12) mX12_copy C [_, _, _, _, _] dX12_lureOf_12 lX12_176 mtX12_copy (tX12_copy hB hL0 (by decide) (by decide) (by decide) (by decide) (by decide)) rfl rfl (by omega) (Nat.le_of_ble_eq_true rfl) (Nat.zero_le _) (Nat.zero_le _) ?_
  have hE0 : ∀ j, j < 40 → ncpy S L0 0 0 40 j = S j := fun j hj => ncpy_00 _ _ hj
  generalize ncpy S L0 0 0 40 = L1 at hE0 ⊢
  refine z_aload_n (pc := 15) C dX12_lureOf_15 0 rfl ?_
  refine z_iconst (pc := 16) C dX12_lureOf_16 (nI 0) (by decide) ?_
  refine z_putf (pc := 17) (fs' := mfs (upd _ 27 _)) C dX12_lureOf_17 gX12_327 ((zup_ne (by decide)).trans hM) (fun _ => ⟨rfl, rfl⟩) (by exact Nat.le_of_ble_eq_true rfl) (mfs_set _ 27 _ (by decide)) ?_
  have hM0 := zup_same (zup h 1074 (zI 240 L1)) 1063 (zO 8 (mfs (upd v 27 (nI 0))))
  have hL1 : zup (zup h 1074 (zI 240 L1)) 1063 (zO 8 (mfs (upd v 27 (nI 0)))) 1074 = _ := (zup_ne (by decide)).trans (zup_same _ _ _)
  have F0 : ∀ a, a ≠ 1063 → a ≠ 1074 → a ≠ 1075 → zup (zup h 1074 (zI 240 L1)) 1063 (zO 8 (mfs (upd v 27 (nI 0)))) a = h a := fun a q1 q2 _ => (zup_ne q1).trans (zup_ne q2)
  have hV1 : zup (zup h 1074 (zI 240 L1)) 1063 (zO 8 (mfs (upd v 27 (nI 0)))) 1075 = _ := (zup_ne (by decide)).trans ((zup_ne (by decide)).trans hV0)
  generalize zup (zup h 1074 (zI 240 L1)) 1063 (zO 8 (mfs (upd v 27 (nI 0)))) = h0 at hM0 hL1 F0 hV1 ⊢
  have lp20 : ∀ (f : Nat) (g : Nat) (h1 : ZH) (L3 V3 : Nat → Nat), (g + f = 6 ∧ sLur R S k p = slo (fun l => slu R k p (S (32 + k)) l S) f g ∧ h1 1063 = some (zO 8 (mfs (upd v 27 (nI g)))) ∧ h1 1074 = some (zI 240 L3) ∧ (∀ j, j < 40 → L3 j = S j) ∧ h1 1075 = some (zI 40 V3) ∧ ∀ a, a ≠ 1063 → a ≠ 1074 → a ≠ 1075 → h1 a = h a) → Zc X mX12_lureOf (zEnd X (fun r hh n' => ∃ w, r = some w ∧ (w = .int (zo ((sLur R S k p).map Prod.snd)) ∧ mQ h hh v ∧ ∃ v', hh 1063 = some (zO 8 (mfs v')) ∧ ∀ x, sLur R S k p = some x → v' 27 = nI x.1) ∧ n' = n) 0 0) 20 [(0, .ref 1063), (1, .int (nI k)), (2, .int (nI p))] [] h1 n 0 0 := by
    intro f
    induction f using Nat.strongRecOn with
    | _ f ih =>
      intro g h1 L3 V3 hk2
      obtain ⟨hk2, he, hM1, hL3, hE1, hV3, F1⟩ := hk2
      have hA1 : h1 1066 = _ := (F1 _ (by decide) (by decide) (by decide)).trans hA
      have hB1 : h1 1070 = _ := (F1 _ (by decide) (by decide) (by decide)).trans hB
      refine z_aload_n (pc := 20) C dX12_lureOf_20 0 rfl ?_
      refine z_getf (pc := 21) C dX12_lureOf_21 fX12_327 (by assumption) (by first | rfl | assumption) ?_
      refine z_top (show upd v 27 (nI g) 27 = nI g from rfl) ?_
      refine z_iconst (pc := 24) C dX12_lureOf_24 (nI 5) (by decide) ?_
      first | refine z_icmpgtN (pc := 25) C 59 dX12_lureOf_25 (by decide) (by omega) (by omega) (fun hc25 => ?_) (fun hc25 => ?_) | refine z_icmp_gt (pc := 25) C 59 dX12_lureOf_25 (by decide) (fun hc25 => ?_) (fun hc25 => ?_)
      · skip
        refine z_bipush (pc := 59) C dX12_lureOf_59 (zo none) (by decide) ?_
        refine z_iret (pc := 61) C dX12_lureOf_61 rfl (Nat.zero_le _) (Nat.zero_le _) ⟨_, rfl, ?_, rfl⟩
        rw [show sLur R S k p = none from by rw [he, show f = 0 by omega]; rfl]; exact ⟨rfl, mQ.mv hM1 ((mV.rf v).up _ (by decide)) hJ hL3 hV3 F1, _, hM1, fun x hx => by cases hx⟩
      · skip
        refine z_aload_n (pc := 28) C dX12_lureOf_28 0 rfl ?_
        refine z_iload_n (pc := 29) C dX12_lureOf_29 1 rfl ?_
        refine z_iload_n (pc := 30) C dX12_lureOf_30 2 rfl ?_
        refine z_iconst (pc := 31) C dX12_lureOf_31 (nI 0) (by decide) ?_
        refine z_aload_n (pc := 32) C dX12_lureOf_32 0 rfl ?_
        refine z_getf (pc := 33) C dX12_lureOf_33 fX12_327 (by assumption) (by first | rfl | assumption) ?_
        refine z_top (show upd v 27 (nI g) 27 = nI g from rfl) ?_
        refine z_cV1Q (pc := 36) mX12_lureFrom C [_, _, _, _] dX12_lureOf_36 lX12_323 mtX12_lureFrom (tX12_lureFrom hR hS hk hp g 0 h1 L3 V3 S (by omega) hM1 hA1 hB1 hL3 hV3 hS rfl (fun j hj => by rw [Nat.mul_zero, Nat.zero_add]; exact hE1 j hj)) hM1 rfl rfl (by omega) (Nat.le_of_ble_eq_true rfl) (Nat.zero_le _) (Nat.zero_le _) ?_
        rintro _ h2 ⟨rfl, ⟨L2, V2, hL2, hE2, hV2⟩, F2⟩
        have hM2 : h2 1063 = _ := (F2 _ (by decide) (by decide)).trans hM1
        have FF : ∀ a, a ≠ 1063 → a ≠ 1074 → a ≠ 1075 → h2 a = h a := fun a q1 q2 q3 => (F2 a q2 q3).trans (F1 a q1 q2 q3)
        refine z_istore_n (pc := 39) (lv' := [(3, _), (0, _), (1, _), (2, _)]) C dX12_lureOf_39 (by decide) rfl ?_
        refine z_iload_n (pc := 40) C dX12_lureOf_40 0 rfl ?_
        first | refine z_ifltO (pc := 41) C 46 dX12_lureOf_41 (by decide) (fun r hr => by have := slu_lt w1 g _ r hr; have := (p10 (n := g) (by omega)).1; omega) (fun hc41 => ?_) (fun hc41 => ?_) | refine z_ifltN (pc := 41) C 46 dX12_lureOf_41 (by decide) (by omega) (fun hc41 => ?_) (fun hc41 => ?_) | refine z_if_lt (pc := 41) C 46 dX12_lureOf_41 (by decide) (fun hc41 => ?_) (fun hc41 => ?_)
        · skip
          refine z_aload_n (pc := 46) C dX12_lureOf_46 1 rfl ?_
          refine z_dup (pc := 47) C dX12_lureOf_47 rfl ?_
          refine z_getf (pc := 48) C dX12_lureOf_48 fX12_327 hM2 (by first | rfl | assumption) ?_
          refine z_top (show upd v 27 (nI g) 27 = nI g from rfl) ?_
          refine z_iconst (pc := 51) C dX12_lureOf_51 (nI 1) (by decide) ?_
          first | refine z_iaddN (pc := 52) C dX12_lureOf_52 ?_ | refine z_iadd (pc := 52) C dX12_lureOf_52 ?_
          refine z_putf (pc := 53) (fs' := mfs (upd _ 27 _)) C dX12_lureOf_53 gX12_327 hM2 (fun _ => ⟨rfl, rfl⟩) (by exact Nat.le_of_ble_eq_true rfl) (mfs_set _ 27 _ (by decide)) ?_
          have e9 := ih (f - 1) (by omega) (g + 1) (zup h2 1063 (zO 8 (mfs (upd (upd v 27 (nI g)) 27 (nI (g + 1)))))) L2 V2 ⟨by omega, by rw [he]; obtain ⟨f, rfl⟩ : ∃ y, f = y + 1 := ⟨f - 1, by omega⟩; rw [slo_n (G := (fun l => slu R k p (S (32 + k)) l S)) hc41]; rfl, by rw [upd_upd]; exact zup_same _ _ _, (zup_ne (by decide)).trans hL2, fun j hj => (hE2 j (by omega)).trans (hE1 j hj), (zup_ne (by decide)).trans hV2, fun a q1 q2 q3 => (zup_ne q1).trans (FF a q1 q2 q3)⟩
          refine z_goto (pc := 56) C 20 dX12_lureOf_56 (by decide) ?_
          refine z_sub (lv' := [(0, _), (1, _), (2, _)]) [1, 2, 3] rfl ?_
          exact e9
        · skip
          obtain ⟨r, hr⟩ := hc41
          have e7 : sLur R S k p = some (g, r) := by rw [he]; obtain ⟨f, rfl⟩ : ∃ y, f = y + 1 := ⟨f - 1, by omega⟩; exact slo_y (G := (fun l => slu R k p (S (32 + k)) l S)) hr
          refine z_iload_n (pc := 44) C dX12_lureOf_44 0 rfl ?_
          refine z_iret (pc := 45) C dX12_lureOf_45 rfl (Nat.zero_le _) (Nat.zero_le _) ⟨_, rfl, ?_, rfl⟩
          refine ⟨by rw [e7, hr]; rfl, mQ.mv hM2 ((mV.rf v).up _ (by decide)) hJ hL2 hV2 FF, _, hM2, fun x hx => ?_⟩; rw [e7] at hx; cases hx; rfl
  exact lp20 6 0 h0 L1 V0 ⟨rfl, rfl, hM0, hL1, hE0, hV1, F0⟩

theorem sLur_lt2 {R S : Nat → Nat} (h1 : R 1 ≤ 7) {k p : Nat} : ∀ r, (sLur R S k p).map Prod.snd = some r → r < 2147483648 := by
  intro r hr
  cases e : sLur R S k p with
  | none => rw [e] at hr; cases hr
  | some x =>
    rw [e] at hr
    cases hr
    obtain ⟨a, b⟩ := sLur_le e
    have := slu_lt h1 _ _ _ b
    have := (p10 (n := x.1) (by omega)).1
    omega
theorem sLur_none {R S : Nat → Nat} {k p : Nat} (h : (sLur R S k p).map Prod.snd = none) : sLur R S k p = none := by
  cases e : sLur R S k p with
  | none => rfl
  | some x => rw [e] at h; cases h
theorem sLur_some {R S : Nat → Nat} {k p r : Nat} (h : (sLur R S k p).map Prod.snd = some r) : ∃ x, sLur R S k p = some x := by
  cases e : sLur R S k p with
  | none => rw [e] at h; cases h
  | some x => exact ⟨x, rfl⟩

set_option maxRecDepth 20000 in
set_option maxHeartbeats 1000000 in
theorem tX12_lure {h : ZH} {v : Nat → Int32} {R S : Nat → Nat} {b : Bool} {k p : Int32} (hM : h 1063 = some (zO 8 (mfs v))) (hA : h 1066 = some (zI 241 R)) (hB : h 1070 = some (zI 40 S)) (hJ : mJ h) (hR : wfR R) (hS : wfS R S) (hF : v 14 = zb b) (hb : wfB b R) : ZQ1 mX12_lure 10 [.ref 1063, .int k, .int p] h (fun w hh => w = .int (aLure R S k p).1 ∧ mQ h hh (mv v (aLure R S k p).2)) := by
  intro n
  obtain ⟨w1, w3, w4, w5, w0, wP, wM, wK, wX⟩ := id hR
  obtain ⟨wT, wL, wB⟩ := id hS
  refine z_enter (lv := [(0, _), (1, _), (2, _)]) (by decide) (Nat.le_of_ble_eq_true rfl) rfl (fun X C => ?_)
  refine z_aload_n (pc := 0) C dX12_lure_0 0 rfl ?_
  refine z_cV0 (pc := 1) mX12_good C [] dX12_lure_1 lX12_167 mtX12_good (tX12_good (by first | assumption | omega)) (by assumption) rfl rfl (by decide) (Nat.le_of_ble_eq_true rfl) (Nat.zero_le _) (Nat.zero_le _) ?_
  have hM1 : zup h 1063 (zO 8 (mfs (upd (upd v 0 0) 11 0))) 1063 = some (zO 8 (mfs (upd (upd v 0 0) 11 0))) := zup_same _ _ _
  have hA1 : zup h 1063 (zO 8 (mfs (upd (upd v 0 0) 11 0))) 1066 = some (zI 241 R) := (zup_ne (by decide)).trans hA
  have hB1 : zup h 1063 (zO 8 (mfs (upd (upd v 0 0) 11 0))) 1070 = some (zI 40 S) := (zup_ne (by decide)).trans hB
  have hF1 : upd (upd v 0 0) 11 0 14 = zb b := hF
  generalize hg : zup h 1063 (zO 8 (mfs (upd (upd v 0 0) 11 0))) = h1 at hM1 hA1 hB1 ⊢
  have hJ1 : mJ h1 := by rw [← hg]; exact hJ.up _
  refine z_aload_n (pc := 4) C dX12_lure_4 0 rfl ?_
  refine z_iload_n (pc := 5) C dX12_lure_5 1 rfl ?_
  refine z_cV1 (pc := 6) mX12_isKill C [_] dX12_lure_6 lX12_300 mtX12_isKill (tX12_isKill (by first | assumption | omega) (by first | assumption | omega) (by first | assumption | omega) (by first | assumption | omega)) (by assumption) rfl rfl (by decide) (Nat.le_of_ble_eq_true rfl) (Nat.zero_le _) (Nat.zero_le _) ?_
  rw [wfB_k hb k]
  first | refine z_ifeqB (pc := 9) C 20 dX12_lure_9 (by decide) (fun hc9 => ?_) (fun hc9 => ?_) | refine z_ifeqN (pc := 9) C 20 dX12_lure_9 (by decide) (by omega) (fun hc9 => ?_) (fun hc9 => ?_) | refine z_if_eq (pc := 9) C 20 dX12_lure_9 (by decide) (fun hc9 => ?_) (fun hc9 => ?_)
  · skip
    refine z_aload_n (pc := 20) C dX12_lure_20 0 rfl ?_
    refine z_iconst (pc := 21) C dX12_lure_21 (nI 1) (by decide) ?_
    refine z_cV1 (pc := 22) mX12_no C [_] dX12_lure_22 lX12_170 mtX12_no (tX12_no (by first | assumption | omega)) (by assumption) rfl rfl (by decide) (Nat.le_of_ble_eq_true rfl) (Nat.zero_le _) (Nat.zero_le _) ?_
    refine z_iret (pc := 25) C dX12_lure_25 rfl (Nat.zero_le _) (Nat.zero_le _) ⟨_, rfl, ?_, rfl⟩
    refine ⟨by simp [aLure, aKP, zo, *], ?_⟩
    first | exact mQ.eq (t := 1) (by simp [aLure, aKP, zo, *] <;> rfl) (mQ.no0 hg hJ) | exact mQ.eq (t := 2) (by simp [aLure, aKP, zo, *] <;> rfl) (mQ.no0 hg hJ) | exact mQ.eq (t := 1) (by simp [aLure, aKP, zo, *] <;> rfl) (mQ.no hg hM2 Q2) | exact mQ.eq (t := 2) (by simp [aLure, aKP, zo, *] <;> rfl) (mQ.no hg hM2 Q2) | exact mQ.eq (t := 5) (by simp [aLure, aKP, zo, *] <;> rfl) (mQ.no hg hM2 Q2) | exact mQ.eq (t := 0) (by simp [aLure, aKP, zo, *] <;> rfl) (mQ.ok hg Q2)
  · skip
    refine z_aload_n (pc := 12) C dX12_lure_12 0 rfl ?_
    refine z_iload_n (pc := 13) C dX12_lure_13 2 rfl ?_
    refine z_cV1 (pc := 14) mX12_isPlace C [_] dX12_lure_14 lX12_279 mtX12_isPlace (tX12_isPlace (by first | assumption | omega) (by first | assumption | omega) (by first | assumption | omega) (by first | assumption | omega)) (by assumption) rfl rfl (by decide) (Nat.le_of_ble_eq_true rfl) (Nat.zero_le _) (Nat.zero_le _) ?_
    rw [wfB_p hb p]
    first | refine z_ifneB (pc := 17) C 26 dX12_lure_17 (by decide) (fun hc17 => ?_) (fun hc17 => ?_) | refine z_ifneN (pc := 17) C 26 dX12_lure_17 (by decide) (by omega) (fun hc17 => ?_) (fun hc17 => ?_) | refine z_if_ne (pc := 17) C 26 dX12_lure_17 (by decide) (fun hc17 => ?_) (fun hc17 => ?_)
    · skip
      obtain ⟨j, hj, rfl⟩ := zlt_of (by omega) hc9
      have pj := pn_nI (j := j) (by omega)
      obtain ⟨i, hi, rfl⟩ := zlt_of (by omega) hc17
      have pi := pn_nI (j := i) (by omega)
      refine z_aload_n (pc := 26) C dX12_lure_26 0 rfl ?_
      refine z_iload_n (pc := 27) C dX12_lure_27 1 rfl ?_
      refine z_iload_n (pc := 28) C dX12_lure_28 2 rfl ?_
      refine z_cV1Q (pc := 29) mX12_lureOf C [_, _] dX12_lure_29 lX12_330 mtX12_lureOf (tX12_lureOf hM1 hA1 hB1 hJ1 hR hS hj hi) hM1 rfl rfl (by decide) (Nat.le_of_ble_eq_true rfl) (Nat.zero_le _) (Nat.zero_le _) ?_
      rintro _ h2 ⟨rfl, Q2, v2, hM2, hx2⟩
      first | refine z_ifgeO (pc := 32) C 40 dX12_lure_32 (by decide) (sLur_lt2 w1) (fun hc32 => ?_) (fun hc32 => ?_) | refine z_ifgeN (pc := 32) C 40 dX12_lure_32 (by decide) (by omega) (fun hc32 => ?_) (fun hc32 => ?_) | refine z_if_ge (pc := 32) C 40 dX12_lure_32 (by decide) (fun hc32 => ?_) (fun hc32 => ?_)
      · skip
        obtain ⟨r, hr⟩ := hc32
        obtain ⟨x, e6⟩ := sLur_some hr
        have e7 := hx2 x e6
        refine z_aload_n (pc := 40) C dX12_lure_40 0 rfl ?_
        refine z_getf (pc := 41) C dX12_lure_41 fX12_327 hM2 (by first | rfl | assumption) ?_
        refine z_iret (pc := 44) C dX12_lure_44 rfl (Nat.zero_le _) (Nat.zero_le _) ⟨_, rfl, ?_, rfl⟩
        refine ⟨by simp [aLure, aKP, zo, *], ?_⟩
        first | exact mQ.eq (t := 1) (by simp [aLure, aKP, zo, *] <;> rfl) (mQ.no0 hg hJ) | exact mQ.eq (t := 2) (by simp [aLure, aKP, zo, *] <;> rfl) (mQ.no0 hg hJ) | exact mQ.eq (t := 1) (by simp [aLure, aKP, zo, *] <;> rfl) (mQ.no hg hM2 Q2) | exact mQ.eq (t := 2) (by simp [aLure, aKP, zo, *] <;> rfl) (mQ.no hg hM2 Q2) | exact mQ.eq (t := 5) (by simp [aLure, aKP, zo, *] <;> rfl) (mQ.no hg hM2 Q2) | exact mQ.eq (t := 0) (by simp [aLure, aKP, zo, *] <;> rfl) (mQ.ok hg Q2)
      · skip
        have e6 := sLur_none hc32
        refine z_bipush (pc := 35) C dX12_lure_35 (-2) (by decide) ?_
        refine z_goto (pc := 37) C 44 dX12_lure_37 (by decide) ?_
        refine z_iret (pc := 44) C dX12_lure_44 rfl (Nat.zero_le _) (Nat.zero_le _) ⟨_, rfl, ?_, rfl⟩
        refine ⟨by simp [aLure, aKP, zo, *], ?_⟩
        first | exact mQ.eq (t := 1) (by simp [aLure, aKP, zo, *] <;> rfl) (mQ.no0 hg hJ) | exact mQ.eq (t := 2) (by simp [aLure, aKP, zo, *] <;> rfl) (mQ.no0 hg hJ) | exact mQ.eq (t := 1) (by simp [aLure, aKP, zo, *] <;> rfl) (mQ.no hg hM2 Q2) | exact mQ.eq (t := 2) (by simp [aLure, aKP, zo, *] <;> rfl) (mQ.no hg hM2 Q2) | exact mQ.eq (t := 5) (by simp [aLure, aKP, zo, *] <;> rfl) (mQ.no hg hM2 Q2) | exact mQ.eq (t := 0) (by simp [aLure, aKP, zo, *] <;> rfl) (mQ.ok hg Q2)
    · skip
      refine z_aload_n (pc := 20) C dX12_lure_20 0 rfl ?_
      refine z_iconst (pc := 21) C dX12_lure_21 (nI 1) (by decide) ?_
      refine z_cV1 (pc := 22) mX12_no C [_] dX12_lure_22 lX12_170 mtX12_no (tX12_no (by first | assumption | omega)) (by assumption) rfl rfl (by decide) (Nat.le_of_ble_eq_true rfl) (Nat.zero_le _) (Nat.zero_le _) ?_
      refine z_iret (pc := 25) C dX12_lure_25 rfl (Nat.zero_le _) (Nat.zero_le _) ⟨_, rfl, ?_, rfl⟩
      refine ⟨by simp [aLure, aKP, zo, *], ?_⟩
      first | exact mQ.eq (t := 1) (by simp [aLure, aKP, zo, *] <;> rfl) (mQ.no0 hg hJ) | exact mQ.eq (t := 2) (by simp [aLure, aKP, zo, *] <;> rfl) (mQ.no0 hg hJ) | exact mQ.eq (t := 1) (by simp [aLure, aKP, zo, *] <;> rfl) (mQ.no hg hM2 Q2) | exact mQ.eq (t := 2) (by simp [aLure, aKP, zo, *] <;> rfl) (mQ.no hg hM2 Q2) | exact mQ.eq (t := 5) (by simp [aLure, aKP, zo, *] <;> rfl) (mQ.no hg hM2 Q2) | exact mQ.eq (t := 0) (by simp [aLure, aKP, zo, *] <;> rfl) (mQ.ok hg Q2)

set_option maxRecDepth 20000 in
set_option maxHeartbeats 1000000 in
theorem tX12_lureRow {h : ZH} {v : Nat → Int32} {R S : Nat → Nat} {b : Bool} {k p : Int32} (hM : h 1063 = some (zO 8 (mfs v))) (hA : h 1066 = some (zI 241 R)) (hB : h 1070 = some (zI 40 S)) (hJ : mJ h) (hR : wfR R) (hS : wfS R S) (hF : v 14 = zb b) (hb : wfB b R) : ZQ1 mX12_lureRow 10 [.ref 1063, .int k, .int p] h (fun w hh => w = .int (aLuR R S k p).1 ∧ mQ h hh (mv v (aLuR R S k p).2)) := by
  intro n
  obtain ⟨w1, w3, w4, w5, w0, wP, wM, wK, wX⟩ := id hR
  obtain ⟨wT, wL, wB⟩ := id hS
  refine z_enter (lv := [(0, _), (1, _), (2, _)]) (by decide) (Nat.le_of_ble_eq_true rfl) rfl (fun X C => ?_)
  refine z_aload_n (pc := 0) C dX12_lureRow_0 0 rfl ?_
  refine z_cV0 (pc := 1) mX12_good C [] dX12_lureRow_1 lX12_167 mtX12_good (tX12_good (by first | assumption | omega)) (by assumption) rfl rfl (by decide) (Nat.le_of_ble_eq_true rfl) (Nat.zero_le _) (Nat.zero_le _) ?_
  have hM1 : zup h 1063 (zO 8 (mfs (upd (upd v 0 0) 11 0))) 1063 = some (zO 8 (mfs (upd (upd v 0 0) 11 0))) := zup_same _ _ _
  have hA1 : zup h 1063 (zO 8 (mfs (upd (upd v 0 0) 11 0))) 1066 = some (zI 241 R) := (zup_ne (by decide)).trans hA
  have hB1 : zup h 1063 (zO 8 (mfs (upd (upd v 0 0) 11 0))) 1070 = some (zI 40 S) := (zup_ne (by decide)).trans hB
  have hF1 : upd (upd v 0 0) 11 0 14 = zb b := hF
  generalize hg : zup h 1063 (zO 8 (mfs (upd (upd v 0 0) 11 0))) = h1 at hM1 hA1 hB1 ⊢
  have hJ1 : mJ h1 := by rw [← hg]; exact hJ.up _
  refine z_aload_n (pc := 4) C dX12_lureRow_4 0 rfl ?_
  refine z_iload_n (pc := 5) C dX12_lureRow_5 1 rfl ?_
  refine z_cV1 (pc := 6) mX12_isKill C [_] dX12_lureRow_6 lX12_300 mtX12_isKill (tX12_isKill (by first | assumption | omega) (by first | assumption | omega) (by first | assumption | omega) (by first | assumption | omega)) (by assumption) rfl rfl (by decide) (Nat.le_of_ble_eq_true rfl) (Nat.zero_le _) (Nat.zero_le _) ?_
  rw [wfB_k hb k]
  first | refine z_ifeqB (pc := 9) C 29 dX12_lureRow_9 (by decide) (fun hc9 => ?_) (fun hc9 => ?_) | refine z_ifeqN (pc := 9) C 29 dX12_lureRow_9 (by decide) (by omega) (fun hc9 => ?_) (fun hc9 => ?_) | refine z_if_eq (pc := 9) C 29 dX12_lureRow_9 (by decide) (fun hc9 => ?_) (fun hc9 => ?_)
  · skip
    refine z_aload_n (pc := 29) C dX12_lureRow_29 0 rfl ?_
    refine z_iconst (pc := 30) C dX12_lureRow_30 (nI 1) (by decide) ?_
    refine z_cV1 (pc := 31) mX12_no C [_] dX12_lureRow_31 lX12_170 mtX12_no (tX12_no (by first | assumption | omega)) (by assumption) rfl rfl (by decide) (Nat.le_of_ble_eq_true rfl) (Nat.zero_le _) (Nat.zero_le _) ?_
    refine z_iret (pc := 34) C dX12_lureRow_34 rfl (Nat.zero_le _) (Nat.zero_le _) ⟨_, rfl, ?_, rfl⟩
    refine ⟨by simp [aLuR, aKP, *], ?_⟩
    first | exact mQ.eq (t := 1) (by simp [aLuR, aKP, *] <;> rfl) (mQ.no0 hg hJ) | exact mQ.eq (t := 2) (by simp [aLuR, aKP, *] <;> rfl) (mQ.no0 hg hJ) | exact mQ.eq (t := 1) (by simp [aLuR, aKP, *] <;> rfl) (mQ.no hg hM2 Q2) | exact mQ.eq (t := 2) (by simp [aLuR, aKP, *] <;> rfl) (mQ.no hg hM2 Q2) | exact mQ.eq (t := 5) (by simp [aLuR, aKP, *] <;> rfl) (mQ.no hg hM2 Q2) | exact mQ.eq (t := 0) (by simp [aLuR, aKP, *] <;> rfl) (mQ.ok hg Q2)
  · skip
    refine z_aload_n (pc := 12) C dX12_lureRow_12 0 rfl ?_
    refine z_iload_n (pc := 13) C dX12_lureRow_13 2 rfl ?_
    refine z_cV1 (pc := 14) mX12_isPlace C [_] dX12_lureRow_14 lX12_279 mtX12_isPlace (tX12_isPlace (by first | assumption | omega) (by first | assumption | omega) (by first | assumption | omega) (by first | assumption | omega)) (by assumption) rfl rfl (by decide) (Nat.le_of_ble_eq_true rfl) (Nat.zero_le _) (Nat.zero_le _) ?_
    rw [wfB_p hb p]
    first | refine z_ifeqB (pc := 17) C 29 dX12_lureRow_17 (by decide) (fun hc17 => ?_) (fun hc17 => ?_) | refine z_ifeqN (pc := 17) C 29 dX12_lureRow_17 (by decide) (by omega) (fun hc17 => ?_) (fun hc17 => ?_) | refine z_if_eq (pc := 17) C 29 dX12_lureRow_17 (by decide) (fun hc17 => ?_) (fun hc17 => ?_)
    · skip
      refine z_aload_n (pc := 29) C dX12_lureRow_29 0 rfl ?_
      refine z_iconst (pc := 30) C dX12_lureRow_30 (nI 1) (by decide) ?_
      refine z_cV1 (pc := 31) mX12_no C [_] dX12_lureRow_31 lX12_170 mtX12_no (tX12_no (by first | assumption | omega)) (by assumption) rfl rfl (by decide) (Nat.le_of_ble_eq_true rfl) (Nat.zero_le _) (Nat.zero_le _) ?_
      refine z_iret (pc := 34) C dX12_lureRow_34 rfl (Nat.zero_le _) (Nat.zero_le _) ⟨_, rfl, ?_, rfl⟩
      refine ⟨by simp [aLuR, aKP, *], ?_⟩
      first | exact mQ.eq (t := 1) (by simp [aLuR, aKP, *] <;> rfl) (mQ.no0 hg hJ) | exact mQ.eq (t := 2) (by simp [aLuR, aKP, *] <;> rfl) (mQ.no0 hg hJ) | exact mQ.eq (t := 1) (by simp [aLuR, aKP, *] <;> rfl) (mQ.no hg hM2 Q2) | exact mQ.eq (t := 2) (by simp [aLuR, aKP, *] <;> rfl) (mQ.no hg hM2 Q2) | exact mQ.eq (t := 5) (by simp [aLuR, aKP, *] <;> rfl) (mQ.no hg hM2 Q2) | exact mQ.eq (t := 0) (by simp [aLuR, aKP, *] <;> rfl) (mQ.ok hg Q2)
    · skip
      obtain ⟨j, hj, rfl⟩ := zlt_of (by omega) hc9
      have pj := pn_nI (j := j) (by omega)
      obtain ⟨i, hi, rfl⟩ := zlt_of (by omega) hc17
      have pi := pn_nI (j := i) (by omega)
      refine z_aload_n (pc := 20) C dX12_lureRow_20 0 rfl ?_
      refine z_iload_n (pc := 21) C dX12_lureRow_21 1 rfl ?_
      refine z_iload_n (pc := 22) C dX12_lureRow_22 2 rfl ?_
      refine z_cV1Q (pc := 23) mX12_lureOf C [_, _] dX12_lureRow_23 lX12_330 mtX12_lureOf (tX12_lureOf hM1 hA1 hB1 hJ1 hR hS hj hi) hM1 rfl rfl (by decide) (Nat.le_of_ble_eq_true rfl) (Nat.zero_le _) (Nat.zero_le _) ?_
      rintro _ h2 ⟨rfl, Q2, v2, hM2, hx2⟩
      refine z_goto (pc := 26) C 34 dX12_lureRow_26 (by decide) ?_
      refine z_iret (pc := 34) C dX12_lureRow_34 rfl (Nat.zero_le _) (Nat.zero_le _) ⟨_, rfl, ?_, rfl⟩
      refine ⟨by simp [aLuR, aKP, *], ?_⟩
      first | exact mQ.eq (t := 1) (by simp [aLuR, aKP, *] <;> rfl) (mQ.no0 hg hJ) | exact mQ.eq (t := 2) (by simp [aLuR, aKP, *] <;> rfl) (mQ.no0 hg hJ) | exact mQ.eq (t := 1) (by simp [aLuR, aKP, *] <;> rfl) (mQ.no hg hM2 Q2) | exact mQ.eq (t := 2) (by simp [aLuR, aKP, *] <;> rfl) (mQ.no hg hM2 Q2) | exact mQ.eq (t := 5) (by simp [aLuR, aKP, *] <;> rfl) (mQ.no hg hM2 Q2) | exact mQ.eq (t := 0) (by simp [aLuR, aKP, *] <;> rfl) (mQ.ok hg Q2)

theorem mQ.tr {h h1 h2 : ZH} {v v1 : Nat → Int32} (a : mQ h h1 v) (hv : mV v v1) (b : mQ h1 h2 v1) : mQ h h2 v := by
  obtain ⟨-, -, F1⟩ := a
  obtain ⟨⟨v2, h3, hV⟩, hJ, F2⟩ := b
  exact ⟨⟨v2, h3, hv.tr hV⟩, hJ, fun x q1 q2 => (F2 x q1 q2).trans (F1 x q1 q2)⟩

set_option maxRecDepth 20000 in
set_option maxHeartbeats 1000000 in
theorem tX12_lures {h : ZH} {v : Nat → Int32} {R S : Nat → Nat} {b : Bool} {k n0 : Int32} (hM : h 1063 = some (zO 8 (mfs v))) (hA : h 1066 = some (zI 241 R)) (hB : h 1070 = some (zI 40 S)) (hJ : mJ h) (hR : wfR R) (hS : wfS R S) (hF : v 14 = zb b) (hb : wfB b R) : ZQ1 mX12_lures 10 [.ref 1063, .int k, .int n0] h (fun w hh => w = .int (aLus R S k n0).1 ∧ mQ h hh (mv v (aLus R S k n0).2)) := by
  intro n
  obtain ⟨w1, w3, w4, w5, w0, wP, wM, wK, wX⟩ := id hR
  obtain ⟨wT, wL, wB⟩ := id hS
  refine z_enter (lv := [(0, _), (1, _), (2, _)]) (by decide) (Nat.le_of_ble_eq_true rfl) rfl (fun X C => ?_)
  refine z_aload_n (pc := 0) C dX12_lures_0 0 rfl ?_
  refine z_cV0 (pc := 1) mX12_good C [] dX12_lures_1 lX12_167 mtX12_good (tX12_good (by first | assumption | omega)) (by assumption) rfl rfl (by decide) (Nat.le_of_ble_eq_true rfl) (Nat.zero_le _) (Nat.zero_le _) ?_
  have hM1 : zup h 1063 (zO 8 (mfs (upd (upd v 0 0) 11 0))) 1063 = some (zO 8 (mfs (upd (upd v 0 0) 11 0))) := zup_same _ _ _
  have hA1 : zup h 1063 (zO 8 (mfs (upd (upd v 0 0) 11 0))) 1066 = some (zI 241 R) := (zup_ne (by decide)).trans hA
  have hB1 : zup h 1063 (zO 8 (mfs (upd (upd v 0 0) 11 0))) 1070 = some (zI 40 S) := (zup_ne (by decide)).trans hB
  have hF1 : upd (upd v 0 0) 11 0 14 = zb b := hF
  generalize hg : zup h 1063 (zO 8 (mfs (upd (upd v 0 0) 11 0))) = h1 at hM1 hA1 hB1 ⊢
  have hJ1 : mJ h1 := by rw [← hg]; exact hJ.up _
  refine z_aload_n (pc := 4) C dX12_lures_4 0 rfl ?_
  refine z_aload_n (pc := 5) C dX12_lures_5 0 rfl ?_
  refine z_iload_n (pc := 6) C dX12_lures_6 1 rfl ?_
  refine z_cV1 (pc := 7) mX12_isKill C [_] dX12_lures_7 lX12_300 mtX12_isKill (tX12_isKill (by first | assumption | omega) (by first | assumption | omega) (by first | assumption | omega) (by first | assumption | omega)) (by assumption) rfl rfl (by decide) (Nat.le_of_ble_eq_true rfl) (Nat.zero_le _) (Nat.zero_le _) ?_
  rw [wfB_k hb k]
  refine z_iload_n (pc := 10) C dX12_lures_10 2 rfl ?_
  refine z_iconst (pc := 11) C dX12_lures_11 (nI 0) (by decide) ?_
  refine z_iconst (pc := 12) C dX12_lures_12 (nI 5) (by decide) ?_
  refine z_cS1 (pc := 13) mX12_in C [_, _, _] dX12_lures_13 lX12_146 mtX12_in tX12_in rfl rfl (by decide) (Nat.le_of_ble_eq_true rfl) (Nat.zero_le _) (Nat.zero_le _) ?_
  rw [show decide (nI 0 ≤ n0 ∧ n0 ≤ nI 5) = zlt n0 6 from zlt_le2 n0 (by omega)]
  refine z_cV1 (pc := 16) mX12_why C [_, _] dX12_lures_16 lX12_303 mtX12_why tX12_why (by assumption) rfl rfl (by decide) (Nat.le_of_ble_eq_true rfl) (Nat.zero_le _) (Nat.zero_le _) ?_
  have e9 := swhy_le (zlt k (R 4)) (zlt n0 6)
  refine z_istore_n (pc := 19) (lv' := [(3, _), (0, _), (1, _), (2, _)]) C dX12_lures_19 (by decide) rfl ?_
  refine z_iload_n (pc := 20) C dX12_lures_20 0 rfl ?_
  first | refine z_ifeqB (pc := 21) C 30 dX12_lures_21 (by decide) (fun hc21 => ?_) (fun hc21 => ?_) | refine z_ifeqN (pc := 21) C 30 dX12_lures_21 (by decide) (by omega) (fun hc21 => ?_) (fun hc21 => ?_) | refine z_if_eq (pc := 21) C 30 dX12_lures_21 (by decide) (fun hc21 => ?_) (fun hc21 => ?_)
  · skip
    obtain ⟨e6, e7⟩ := swhy_0.mp hc21
    obtain ⟨j, hj, rfl⟩ := zlt_of (by omega) e6
    have pj := pn_nI (j := j) (by omega)
    obtain ⟨c, hc, rfl⟩ := zlt_of (by omega) e7
    have pc := pn_nI (j := c) (by omega)
    refine z_iconst (pc := 30) C dX12_lures_30 (nI 0) (by decide) ?_
    refine z_istore (pc := 31) (lv' := [(4, _), (3, _), (0, _), (1, _), (2, _)]) C dX12_lures_31 (by decide) rfl ?_
    refine z_iconst (pc := 33) C dX12_lures_33 (nI 0) (by decide) ?_
    refine z_istore (pc := 34) (lv' := [(5, _), (4, _), (3, _), (0, _), (1, _), (2, _)]) C dX12_lures_34 (by decide) rfl ?_
    refine z_sub (lv' := [(0, _), (1, _), (2, _), (3, _), (4, _), (5, _)]) [3, 4, 5, 2, 1, 0] rfl ?_
    have lp36 : ∀ (f : Nat) (g acc : Nat) (h3 : ZH), (g + f = R 1 ∧ acc = sbits (sLp R S j c) g ∧ mQ h1 h3 (upd (upd v 0 0) 11 0)) → Zc X mX12_lures (zEnd X (fun r hh n' => ∃ w, r = some w ∧ (w = .int (aLus R S (nI j) (nI c)).1 ∧ mQ h hh (mv v (aLus R S (nI j) (nI c)).2)) ∧ n' = n) 0 0) 36 [(0, .ref 1063), (1, .int (nI j)), (2, .int (nI c)), (3, .int (nI (swhy (zlt (nI j) (R 4)) (zlt (nI c) 6)))), (4, .int (nI acc)), (5, .int (nI g))] [] h3 n 0 0 := by
      intro f
      induction f using Nat.strongRecOn with
      | _ f ih =>
        intro g acc h3 hk2
        obtain ⟨hk2, he, Q3⟩ := hk2
        obtain ⟨⟨v3, hM3, hV3⟩, hJ3, F3⟩ := id Q3
        have hA3 : h3 1066 = _ := (F3 _ (by decide) (by decide)).trans hA1
        have hB3 : h3 1070 = _ := (F3 _ (by decide) (by decide)).trans hB1
        refine z_iload (pc := 36) C dX12_lures_36 5 rfl ?_
        refine z_aload_n (pc := 38) C dX12_lures_38 0 rfl ?_
        refine z_getf (pc := 39) C dX12_lures_39 fX12_20 hM3 (by first | rfl | assumption) ?_
        refine z_iconst (pc := 42) C dX12_lures_42 (nI 1) (by decide) ?_
        first | refine z_ialdN (pc := 43) C dX12_lures_43 (by assumption) (by omega) (by decide) ?_ | refine z_ialdI (pc := 43) C dX12_lures_43 (by assumption) (by omega) (by decide) ?_
        first | refine z_icmpgeN (pc := 44) C 84 dX12_lures_44 (by decide) (by omega) (by omega) (fun hc44 => ?_) (fun hc44 => ?_) | refine z_icmp_ge (pc := 44) C 84 dX12_lures_44 (by decide) (fun hc44 => ?_) (fun hc44 => ?_)
        · skip
          refine z_iload (pc := 84) C dX12_lures_84 4 rfl ?_
          refine z_iret (pc := 86) C dX12_lures_86 rfl (Nat.zero_le _) (Nat.zero_le _) ⟨_, rfl, ?_, rfl⟩
          obtain rfl : f = 0 := (by omega); obtain rfl : g = R 1 := (by omega); rw [he, sLp_eq hR hS hj (by omega)]; exact ⟨by simp [aLus, aW, swhy_tt, *], mQ.eq (t := 0) (by simp [aLus, aW, swhy_tt, *]) (mQ.ok hg Q3)⟩
        · skip
          refine z_iload (pc := 47) C dX12_lures_47 4 rfl ?_
          refine z_aload_n (pc := 49) C dX12_lures_49 0 rfl ?_
          refine z_iload_n (pc := 50) C dX12_lures_50 1 rfl ?_
          refine z_iload (pc := 51) C dX12_lures_51 5 rfl ?_
          refine z_cV1Q (pc := 53) mX12_lureOf C [_, _] dX12_lures_53 lX12_330 mtX12_lureOf (tX12_lureOf hM3 hA3 hB3 hJ3 hR hS hj (by omega)) hM3 rfl rfl (by decide) (Nat.le_of_ble_eq_true rfl) (Nat.zero_le _) (Nat.zero_le _) ?_
          rintro _ h2 ⟨rfl, Q2, v2, hM2, hx2⟩
          first | refine z_ifltO (pc := 56) C 74 dX12_lures_56 (by decide) (sLur_lt2 w1) (fun hc56 => ?_) (fun hc56 => ?_) | refine z_ifltN (pc := 56) C 74 dX12_lures_56 (by decide) (by omega) (fun hc56 => ?_) (fun hc56 => ?_) | refine z_if_lt (pc := 56) C 74 dX12_lures_56 (by decide) (fun hc56 => ?_) (fun hc56 => ?_)
          · skip
            have e8 := sLur_none hc56
            have ea : sLp R S j c g = false := by unfold sLp; rw [e8]
            refine z_iconst (pc := 74) C dX12_lures_74 (nI 0) (by decide) ?_
            first | refine z_iorN (pc := 75) C dX12_lures_75 ?_ | refine z_ior (pc := 75) C dX12_lures_75 ?_
            refine z_istore (pc := 76) (lv' := [(4, _), (0, _), (1, _), (2, _), (3, _), (5, _)]) C dX12_lures_76 (by decide) rfl ?_
            first | refine z_iincN (pc := 78) (lv' := [(5, _), (4, _), (0, _), (1, _), (2, _), (3, _)]) C 1 dX12_lures_78 5 rfl (by decide) (by decide) rfl ?_ | refine z_iinc (pc := 78) (lv' := [(5, _), (4, _), (0, _), (1, _), (2, _), (3, _)]) C dX12_lures_78 5 rfl _ rfl (by decide) rfl ?_
            refine z_goto (pc := 81) C 36 dX12_lures_81 (by decide) ?_
            refine z_sub (lv' := [(0, _), (1, _), (2, _), (3, _), (4, _), (5, _)]) [2, 3, 4, 5, 1, 0] rfl ?_
            exact ih (f - 1) (by omega) (g + 1) _ h2 ⟨by omega, by first | exact sbits_t he ea | exact sbits_f he ea, Q3.tr hV3 Q2⟩
          · skip
            obtain ⟨r, hr⟩ := hc56
            obtain ⟨x, e8⟩ := sLur_some hr
            have e10 := hx2 x e8
            have e11 := (sLur_le e8).1
            refine z_aload_n (pc := 59) C dX12_lures_59 0 rfl ?_
            refine z_getf (pc := 60) C dX12_lures_60 fX12_327 hM2 (by first | rfl | assumption) ?_
            refine z_top e10 ?_
            refine z_iload_n (pc := 63) C dX12_lures_63 2 rfl ?_
            first | refine z_icmpgtN (pc := 64) C 74 dX12_lures_64 (by decide) (by omega) (by omega) (fun hc64 => ?_) (fun hc64 => ?_) | refine z_icmp_gt (pc := 64) C 74 dX12_lures_64 (by decide) (fun hc64 => ?_) (fun hc64 => ?_)
            · skip
              have ea : sLp R S j c g = false := by unfold sLp; rw [e8]; exact decide_eq_false (by omega)
              refine z_iconst (pc := 74) C dX12_lures_74 (nI 0) (by decide) ?_
              first | refine z_iorN (pc := 75) C dX12_lures_75 ?_ | refine z_ior (pc := 75) C dX12_lures_75 ?_
              refine z_istore (pc := 76) (lv' := [(4, _), (0, _), (1, _), (2, _), (3, _), (5, _)]) C dX12_lures_76 (by decide) rfl ?_
              first | refine z_iincN (pc := 78) (lv' := [(5, _), (4, _), (0, _), (1, _), (2, _), (3, _)]) C 1 dX12_lures_78 5 rfl (by decide) (by decide) rfl ?_ | refine z_iinc (pc := 78) (lv' := [(5, _), (4, _), (0, _), (1, _), (2, _), (3, _)]) C dX12_lures_78 5 rfl _ rfl (by decide) rfl ?_
              refine z_goto (pc := 81) C 36 dX12_lures_81 (by decide) ?_
              refine z_sub (lv' := [(0, _), (1, _), (2, _), (3, _), (4, _), (5, _)]) [2, 3, 4, 5, 1, 0] rfl ?_
              exact ih (f - 1) (by omega) (g + 1) _ h2 ⟨by omega, by first | exact sbits_t he ea | exact sbits_f he ea, Q3.tr hV3 Q2⟩
            · skip
              have ea : sLp R S j c g = true := by unfold sLp; rw [e8]; exact decide_eq_true hc64
              refine z_iconst (pc := 67) C dX12_lures_67 (nI 1) (by decide) ?_
              refine z_iload (pc := 68) C dX12_lures_68 5 rfl ?_
              first | refine z_ishlN (pc := 70) C dX12_lures_70 (by omega) ?_ | refine z_ishl (pc := 70) C dX12_lures_70 ?_
              refine z_goto (pc := 71) C 75 dX12_lures_71 (by decide) ?_
              first | refine z_iorN (pc := 75) C dX12_lures_75 ?_ | refine z_ior (pc := 75) C dX12_lures_75 ?_
              refine z_istore (pc := 76) (lv' := [(4, _), (0, _), (1, _), (2, _), (3, _), (5, _)]) C dX12_lures_76 (by decide) rfl ?_
              first | refine z_iincN (pc := 78) (lv' := [(5, _), (4, _), (0, _), (1, _), (2, _), (3, _)]) C 1 dX12_lures_78 5 rfl (by decide) (by decide) rfl ?_ | refine z_iinc (pc := 78) (lv' := [(5, _), (4, _), (0, _), (1, _), (2, _), (3, _)]) C dX12_lures_78 5 rfl _ rfl (by decide) rfl ?_
              refine z_goto (pc := 81) C 36 dX12_lures_81 (by decide) ?_
              refine z_sub (lv' := [(0, _), (1, _), (2, _), (3, _), (4, _), (5, _)]) [2, 3, 4, 5, 1, 0] rfl ?_
              exact ih (f - 1) (by omega) (g + 1) _ h2 ⟨by omega, by first | exact sbits_t he ea | exact sbits_f he ea, Q3.tr hV3 Q2⟩
    exact lp36 (R 1) 0 0 h1 ⟨by omega, rfl, mQ.rf hM1 hJ1⟩
  · skip
    have e5 := Nat.ne_of_gt hc21
    refine z_aload_n (pc := 24) C dX12_lures_24 1 rfl ?_
    refine z_iload_n (pc := 25) C dX12_lures_25 0 rfl ?_
    refine z_cV1 (pc := 26) mX12_no C [_] dX12_lures_26 lX12_170 mtX12_no (tX12_no (by first | assumption | omega)) (by assumption) rfl rfl (by decide) (Nat.le_of_ble_eq_true rfl) (Nat.zero_le _) (Nat.zero_le _) ?_
    refine z_iret (pc := 29) C dX12_lures_29 rfl (Nat.zero_le _) (Nat.zero_le _) ⟨_, rfl, ?_, rfl⟩
    cases z1 : zlt k (R 4) with
    | false => exact ⟨by simp [aLus, aW, swhy, z1], mQ.eq (t := 1) (by simp [aLus, aW, swhy, z1] <;> rfl) (mQ.no0 hg hJ)⟩
    | true =>
      cases z2 : zlt n0 6 with
      | false => exact ⟨by simp [aLus, aW, swhy, z1, z2], mQ.eq (t := 2) (by simp [aLus, aW, swhy, z1, z2] <;> rfl) (mQ.no0 hg hJ)⟩
      | true => exact absurd (by rw [z1, z2]; rfl) e5
