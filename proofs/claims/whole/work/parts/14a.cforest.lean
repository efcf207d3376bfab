/-- what the class's forest leaves: kept fields, the reader, the draft, and, where it was read, the new start -/
def cFo (h hh : ZH) (st s le tr td : Nat) (ic la : Int32) (B : Nat → Nat) (n : Nat) (w : Value) : Prop := (∃ (so sa va en nx : Int32) (co : Int64), hh 1002 = some (zO 4 (tpf 0 so sa va co en nx))) ∧ hh 1003 = some (zI 900 B) ∧ (∃ c so nu, NT hh zer c so nu ∧ NT8 c so nu) ∧ match sEnd (sRd0 B n) with
  | .inr e => w = .int (-1) ∧ hh 1000 = some (zO 7 (kfs st ic (nI 4) (nI e.1) (nI e.2))) ∧ (∃ ff fa nc, hh 1001 = some (zO 2 (rdf ff fa nc s))) ∧ DrS hh s le tr td ∧ ∀ a, a < 1000 ∨ 1006 < a → ¬ drA s a → hh a = h a
  | .inl _ => w = .int (nI ((sRd0 B n).2.1 1)) ∧ hh 1000 = some (zO 7 (kfs s (nI 0) 0 (nI 0) (-1))) ∧ (∃ ff fa nc, hh 1001 = some (zO 2 (rdf ff fa nc st))) ∧ RX (sRd0 B n).2.1 (sRd0 B n).2.2 ∧ Scn hh s le tr td (sRd0 B n).2.1 (sRd0 B n).2.2 ∧ Scn hh 1051 1052 1053 td (sRd0 B n).2.1 (sRd0 B n).2.2 ∧ hh 1034 = some (zO 1 [.int (nI 0), .ref 1035, .ref 1036, .ref 1037, .int la]) ∧ ∀ a, a < 1000 ∨ 1006 < a → ¬ drA s a → a ≠ 1034 → a ≠ 1051 → a ≠ 1052 → a ≠ 1053 → hh a = h a

set_option maxRecDepth 20000 in
set_option maxHeartbeats 1000000 in
theorem tX11_forestY {h : ZH} {st : Nat} {ic tb fb pl : Int32} {ff fa so0 sa va en nx un la : Int32} {co : Int64} {nc s le tr td len n0 : Nat} {B c so nu : Nat → Nat} (hM : h 1000 = some (zO 7 (kfs st ic tb fb pl))) (hK : DOK s le tr td) (h1 : h 1001 = some (zO 2 (rdf ff fa nc s))) (hT2 : h 1002 = some (zO 4 (tpf len so0 sa va co en nx))) (hT3 : h 1003 = some (zI 900 B)) (hN4 : NT h zer c so nu) (n8 : NT8 c so nu) (hS : DrS h s le tr td) (hl : len ≤ 900) (hn0 : n0 ≤ len) (hB0 : ∀ j, j < len → B j < 256) (hC : Shp h 1051 1052 1053) (hP : h 1034 = some (zO 1 [.int un, .ref 1035, .ref 1036, .ref 1037, .int la])) : ZQ1 mX11_forest 10 [.ref 1000, .int (nI n0)] h (fun w hh => cFo h hh st s le tr td ic la B n0 w) := by
  intro n
  have hKo := hK
  unfold DOK at hKo
  refine z_enter (lv := [(0, _), (1, _)]) (by decide) (Nat.le_of_ble_eq_true rfl) rfl (fun X C => ?_)
  refine z_iload_n (pc := 0) C dX11_forest_0 1 rfl ?_
  first | refine z_ifltN (pc := 1) C 18 dX11_forest_1 (by decide) (by omega) (fun hc1 => ?_) (fun hc1 => ?_) | refine z_if_lt (pc := 1) C 18 dX11_forest_1 (by decide) (fun hc1 => ?_) (fun hc1 => ?_)
  · exact hc1.elim
  · skip
    refine z_iload_n (pc := 4) C dX11_forest_4 1 rfl ?_
    refine z_aload_n (pc := 5) C dX11_forest_5 0 rfl ?_
    refine z_getf (pc := 6) C dX11_forest_6 fX11_10 hM (by first | rfl | assumption) ?_
    refine z_getf (pc := 9) C dX11_forest_9 fX11_56 h1 (by first | rfl | assumption) ?_
    refine z_getf (pc := 12) C dX11_forest_12 fX11_60 hT2 (by first | rfl | assumption) ?_
    first | refine z_icmpleN (pc := 15) C 24 dX11_forest_15 (by decide) (by omega) (by omega) (fun hc15 => ?_) (fun hc15 => ?_) | refine z_icmp_le (pc := 15) C 24 dX11_forest_15 (by decide) (fun hc15 => ?_) (fun hc15 => ?_)
    · skip
      refine z_aload_n (pc := 24) C dX11_forest_24 0 rfl ?_
      refine z_getf (pc := 25) C dX11_forest_25 fX11_10 hM (by first | rfl | assumption) ?_
      refine z_iload_n (pc := 28) C dX11_forest_28 1 rfl ?_
      refine z_cV1Q (pc := 29) mX4_read C [_] dX11_forest_29 lX11_74 mtX4_read (tX4_read hK h1 hT2 hT3 hN4 n8 hS hl hn0 hB0) h1 rfl rfl (by decide) (Nat.le_of_ble_eq_true rfl) (Nat.zero_le _) (Nat.zero_le _) ?_
      rintro w1 k1 ⟨G1, hC1⟩
      have hM1 := (G1 1000 (by decide) (by unfold drA; omega)).trans hM
      rcases hE : sEnd (sRd0 B n0) with t | e
      · skip
        rw [hE] at hC1
        obtain ⟨rfl, ⟨⟨hT3a, hT2a⟩, ⟨nc1, c1, so1, nu1, ix1, h1a, hN1, hP1⟩, hD1⟩, hX⟩ := hC1
        have n81 : NT8 c1 so1 nu1 := hP1.2.2.1
        refine z_istore_n (pc := 32) (lv' := [(2, _), (0, _), (1, _)]) C dX11_forest_32 (by decide) rfl ?_
        refine z_aload_n (pc := 33) C dX11_forest_33 1 rfl ?_
        refine z_aload_n (pc := 34) C dX11_forest_34 1 rfl ?_
        refine z_getf (pc := 35) C dX11_forest_35 fX11_10 hM1 (by first | rfl | assumption) ?_
        refine z_getf (pc := 38) C dX11_forest_38 fX11_78 h1a (by first | rfl | assumption) ?_
        refine z_putf (pc := 41) (fs' := kfs _ _ _ _ _) C dX11_forest_41 gX11_81 hM1 (fun _ => ⟨rfl, rfl⟩) (by exact Nat.le_of_ble_eq_true rfl) (by rfl) ?_
        refine z_aload_n (pc := 44) C dX11_forest_44 1 rfl ?_
        refine z_aload_n (pc := 45) C dX11_forest_45 1 rfl ?_
        refine z_getf (pc := 46) C dX11_forest_46 fX11_10 (zup_same _ _ _) (by first | rfl | assumption) ?_
        refine z_getf (pc := 49) C dX11_forest_49 fX11_84 ((zup_ne (by decide)).trans h1a) (by first | rfl | assumption) ?_
        refine z_putf (pc := 52) (fs' := kfs _ _ _ _ _) C dX11_forest_52 gX11_87 (zup_same _ _ _) (fun _ => ⟨rfl, rfl⟩) (by exact Nat.le_of_ble_eq_true rfl) (by rfl) ?_
        rw [zup_zup]
        generalize ek2 : zup k1 1000 (zO 7 _) = k2
        have hM2 := (congrFun ek2 1000).symm.trans (zup_same _ _ _)
        have G2 : ∀ a, a ≠ 1000 → k2 a = k1 a := fun a q => by rw [← ek2]; exact zup_ne q
        have h12 := (G2 1001 (by decide)).trans h1a
        have hT22 := (G2 1002 (by decide)).trans hT2a
        refine z_aload_n (pc := 55) C dX11_forest_55 1 rfl ?_
        refine z_getf (pc := 56) C dX11_forest_56 fX11_10 hM2 (by first | rfl | assumption) ?_
        refine z_getf (pc := 59) C dX11_forest_59 fX11_56 h12 (by first | rfl | assumption) ?_
        refine z_iconst (pc := 62) C dX11_forest_62 (nI 0) (by decide) ?_
        refine z_putf (pc := 63) (fs' := [_, _, _, _, _, _, _, _]) C dX11_forest_63 gX11_60 hT22 (fun _ => ⟨rfl, rfl⟩) (by exact Nat.le_of_ble_eq_true rfl) (by rfl) ?_
        generalize ek3 : zup k2 1002 (zO 4 _) = k3
        have G3 : ∀ a, a ≠ 1002 → k3 a = k2 a := fun a q => by rw [← ek3]; exact zup_ne q
        have hM3 := (G3 1000 (by decide)).trans hM2
        have h13 := (G3 1001 (by decide)).trans h12
        have hT23 : ∃ (so sa va en nx : Int32) (co : Int64), k3 1002 = some (zO 4 (tpf 0 so sa va co en nx)) := by rw [← ek3]; exact ⟨_, _, _, _, _, _, zup_same _ _ _⟩
        have H3 : ∀ a, a ≠ 1000 → a ≠ 1002 → k3 a = k1 a := fun a q1 q2 => (G3 a q2).trans (G2 a q1)
        refine z_iload_n (pc := 66) C dX11_forest_66 0 rfl ?_
        first | refine z_ifneB (pc := 67) C 76 dX11_forest_67 (by decide) (fun hc67 => ?_) (fun hc67 => ?_) | refine z_ifneN (pc := 67) C 76 dX11_forest_67 (by decide) (by omega) (fun hc67 => ?_) (fun hc67 => ?_) | refine z_if_ne (pc := 67) C 76 dX11_forest_67 (by decide) (fun hc67 => ?_) (fun hc67 => ?_)
        · skip
          refine z_aload_n (pc := 76) C dX11_forest_76 1 rfl ?_
          refine z_aload_n (pc := 77) C dX11_forest_77 1 rfl ?_
          refine z_getf (pc := 78) C dX11_forest_78 fX11_10 hM3 (by first | rfl | assumption) ?_
          refine z_aload_n (pc := 81) C dX11_forest_81 1 rfl ?_
          refine z_getf (pc := 82) C dX11_forest_82 fX11_49 hM3 (by first | rfl | assumption) ?_
          refine z_cV1 (pc := 85) mX4_exchange C [_] dX11_forest_85 lX11_90 mtX4_exchange (tX4_exchange h13) h13 rfl rfl (by decide) (Nat.le_of_ble_eq_true rfl) (Nat.zero_le _) (Nat.zero_le _) ?_
          generalize ek4 : zup k3 1001 (zO 2 _) = k4
          have G4 : ∀ a, a ≠ 1001 → k4 a = k3 a := fun a q => by rw [← ek4]; exact zup_ne q
          have hM4 := (G4 1000 (by decide)).trans hM3
          have h14 := (congrFun ek4 1001).symm.trans (zup_same _ _ _)
          refine z_putf (pc := 88) (fs' := kfs _ _ _ _ _) C dX11_forest_88 gX11_49 hM4 (fun _ => ⟨rfl, rfl⟩) (by exact Nat.le_of_ble_eq_true rfl) (by rfl) ?_
          generalize ek5 : zup k4 1000 (zO 7 _) = k5
          have G5 : ∀ a, a ≠ 1000 → k5 a = k4 a := fun a q => by rw [← ek5]; exact zup_ne q
          have hM5 := (congrFun ek5 1000).symm.trans (zup_same _ _ _)
          have H5 : ∀ a, a ≠ 1000 → a ≠ 1001 → a ≠ 1002 → k5 a = k1 a := fun a q1 q2 q3 => (G5 a q1).trans ((G4 a q2).trans (H3 a q1 q3))
          have J5 : ∀ a, 1050 < a → k5 a = h a := fun a q => (H5 a (by omega) (by omega) (by omega)).trans (G1 a (by omega) (by unfold drA; omega))
          have D5 := hD1.on (hh := k5) hK (fun a q => H5 a (by unfold drA at q; omega) (by unfold drA at q; omega) (by unfold drA at q; omega))
          have C5 := D5.scn (fun i a b => if_neg (by omega)) hX.2.1.1
          obtain ⟨t9, la9, sp9, fl9, ft9, e51, e52, e53⟩ : Shp k5 1051 1052 1053 := by
            obtain ⟨t9, la9, sp9, fl9, ft9, e51, e52, e53⟩ := hC
            exact ⟨t9, la9, sp9, fl9, ft9, (J5 _ (by decide)).trans e51, (J5 _ (by decide)).trans e52, (J5 _ (by decide)).trans e53⟩
          obtain ⟨k6, Zb, C6, F6⟩ := tX5_becomeX (h := k5) hX.2.1 ⟨t9, la9, sp9, fl9, ft9, e51, e52, e53⟩ C5 (by omega) (by omega)
          refine z_aload_n (pc := 91) C dX11_forest_91 1 rfl ?_
          refine z_getf (pc := 92) C dX11_forest_92 fX11_53 hM5 (by first | rfl | assumption) ?_
          refine z_aload_n (pc := 95) C dX11_forest_95 1 rfl ?_
          refine z_getf (pc := 96) C dX11_forest_96 fX11_49 hM5 (by first | rfl | assumption) ?_
          refine z_cV0 (pc := 99) mX5_become C [_] dX11_forest_99 lX11_94 mtX5_become Zb e51 rfl rfl (by decide) (Nat.le_of_ble_eq_true rfl) (Nat.zero_le _) (Nat.zero_le _) ?_
          have hM6 := (F6 1000 (by decide) (by decide) (by decide)).trans hM5
          have p6 := (F6 1034 (by decide) (by decide) (by decide)).trans ((H5 1034 (by decide) (by decide) (by decide)).trans ((G1 1034 (by decide) (by unfold drA; omega)).trans hP))
          refine z_aload_n (pc := 102) C dX11_forest_102 1 rfl ?_
          refine z_getf (pc := 103) C dX11_forest_103 fX11_33 hM6 (by first | rfl | assumption) ?_
          refine z_cV0 (pc := 106) mX3_forget C [] dX11_forest_106 lX11_98 mtX3_forget (tX3_forget p6) p6 rfl rfl (by decide) (Nat.le_of_ble_eq_true rfl) (Nat.zero_le _) (Nat.zero_le _) ?_
          generalize ek7 : zup k6 1034 (zO 1 _) = k7
          have G7 : ∀ a, a ≠ 1034 → k7 a = k6 a := fun a q => by rw [← ek7]; exact zup_ne q
          have hM7 := (G7 1000 (by decide)).trans hM6
          have p7 : k7 1034 = some (zO 1 [.int (nI 0), .ref 1035, .ref 1036, .ref 1037, .int la]) := by rw [← ek7]; exact zup_same _ _ _
          have C7 := C6.fr (h' := k7) (G7 _ (by decide)) (G7 _ (by decide)) (G7 _ (by decide)) (fun a q1 q2 => G7 a (by omega))
          have L7 : ∀ a, a ≠ 1000 → a ≠ 1001 → a ≠ 1002 → a ≠ 1034 → a ≠ 1051 → a ≠ 1052 → a ≠ 1053 → k7 a = k1 a := fun a q1 q2 q3 q4 q5 q6 q7 => (G7 a q4).trans ((F6 a q5 q6 q7).trans (H5 a q1 q2 q3))
          have S7 := C5.fr (h' := k7) ((G7 _ (by omega)).trans (F6 _ (by omega) (by omega) (by omega))) ((G7 _ (by omega)).trans (F6 _ (by omega) (by omega) (by omega))) ((G7 _ (by omega)).trans (F6 _ (by omega) (by omega) (by omega))) (fun a q1 q2 => (G7 a (by omega)).trans (F6 a (by omega) (by omega) (by omega)))
          refine z_aload_n (pc := 109) C dX11_forest_109 1 rfl ?_
          refine z_iconst (pc := 110) C dX11_forest_110 (nI 0) (by decide) ?_
          refine z_putf (pc := 111) (fs' := kfs _ _ _ _ _) C dX11_forest_111 gX11_101 hM7 (fun _ => ⟨rfl, rfl⟩) (by exact Nat.le_of_ble_eq_true rfl) (by rfl) ?_
          refine z_aload_n (pc := 114) C dX11_forest_114 1 rfl ?_
          refine z_aload_n (pc := 115) C dX11_forest_115 1 rfl ?_
          refine z_cV1 (pc := 116) mX11_places C [] dX11_forest_116 lX11_104 mtX11_places (tX11_places (zup_same _ _ _) (C7.kh (by omega) _)) (zup_same _ _ _) rfl rfl (by decide) (Nat.le_of_ble_eq_true rfl) (Nat.zero_le _) (Nat.zero_le _) ?_
          refine z_cV1 (pc := 119) mX11_answer C [_] dX11_forest_119 lX11_108 mtX11_answer (tX11_answer (zup_same _ _ _)) (zup_same _ _ _) rfl rfl (by decide) (Nat.le_of_ble_eq_true rfl) (Nat.zero_le _) (Nat.zero_le _) ?_
          refine z_iret (pc := 122) C dX11_forest_122 rfl (Nat.zero_le _) (Nat.zero_le _) ⟨_, rfl, ?_, rfl⟩
          rw [zup_zup]
          generalize ek8 : zup k7 1000 (zO 7 _) = k8
          have G8 : ∀ a, a ≠ 1000 → k8 a = k7 a := fun a q => by rw [← ek8]; exact zup_ne q
          have hM8 : k8 1000 = some (zO 7 (kfs s (nI 0) 0 (nI 0) (-1))) := by rw [← ek8]; exact zup_same _ _ _
          have M8 : ∀ a, a ≠ 1000 → a ≠ 1001 → a ≠ 1002 → a ≠ 1034 → a ≠ 1051 → a ≠ 1052 → a ≠ 1053 → k8 a = k1 a := fun a q1 q2 q3 q4 q5 q6 q7 => (G8 a q1).trans (L7 a q1 q2 q3 q4 q5 q6 q7)
          have n12 : k8 1002 = k3 1002 := (G8 _ (by decide)).trans ((G7 _ (by decide)).trans ((F6 _ (by decide) (by decide) (by decide)).trans ((G5 _ (by decide)).trans (G4 _ (by decide)))))
          have n11 : k8 1001 = k4 1001 := (G8 _ (by decide)).trans ((G7 _ (by decide)).trans ((F6 _ (by decide) (by decide) (by decide)).trans (G5 _ (by decide))))
          refine ⟨by rw [n12]; exact hT23, (M8 1003 (by decide) (by decide) (by decide) (by decide) (by decide) (by decide) (by decide)).trans hT3a, ⟨c1, so1, nu1, NT.on hN1 (fun a a1 a2 => M8 a (by omega) (by omega) (by omega) (by omega) (by omega) (by omega) (by omega)), n81⟩, ?_⟩
          rw [hE]
          exact ⟨rfl, hM8, ⟨_, _, _, n11.trans h14⟩, hX, S7.fr (G8 _ (by omega)) (G8 _ (by omega)) (G8 _ (by omega)) (fun a q1 q2 => G8 a (by omega)), C7.fr (G8 _ (by omega)) (G8 _ (by omega)) (G8 _ (by omega)) (fun a q1 q2 => G8 a (by omega)), (G8 _ (by decide)).trans p7, fun a q1 q2 q3 q4 q5 q6 => (M8 a (by omega) (by omega) (by omega) q3 q4 q5 q6).trans (G1 a (by omega) q2)⟩
        · cases hc67
      · skip
        rw [hE] at hC1
        obtain ⟨rfl, ⟨nc1, h1a⟩, ⟨so2, sa2, va2, en2, nx2, co2, hT2a⟩, hT3a, ⟨c1, so1, nu1, hN1, n81⟩, hD1⟩ := hC1
        refine z_istore_n (pc := 32) (lv' := [(2, _), (0, _), (1, _)]) C dX11_forest_32 (by decide) rfl ?_
        refine z_aload_n (pc := 33) C dX11_forest_33 1 rfl ?_
        refine z_aload_n (pc := 34) C dX11_forest_34 1 rfl ?_
        refine z_getf (pc := 35) C dX11_forest_35 fX11_10 hM1 (by first | rfl | assumption) ?_
        refine z_getf (pc := 38) C dX11_forest_38 fX11_78 h1a (by first | rfl | assumption) ?_
        refine z_putf (pc := 41) (fs' := kfs _ _ _ _ _) C dX11_forest_41 gX11_81 hM1 (fun _ => ⟨rfl, rfl⟩) (by exact Nat.le_of_ble_eq_true rfl) (by rfl) ?_
        refine z_aload_n (pc := 44) C dX11_forest_44 1 rfl ?_
        refine z_aload_n (pc := 45) C dX11_forest_45 1 rfl ?_
        refine z_getf (pc := 46) C dX11_forest_46 fX11_10 (zup_same _ _ _) (by first | rfl | assumption) ?_
        refine z_getf (pc := 49) C dX11_forest_49 fX11_84 ((zup_ne (by decide)).trans h1a) (by first | rfl | assumption) ?_
        refine z_putf (pc := 52) (fs' := kfs _ _ _ _ _) C dX11_forest_52 gX11_87 (zup_same _ _ _) (fun _ => ⟨rfl, rfl⟩) (by exact Nat.le_of_ble_eq_true rfl) (by rfl) ?_
        rw [zup_zup]
        generalize ek2 : zup k1 1000 (zO 7 _) = k2
        have hM2 := (congrFun ek2 1000).symm.trans (zup_same _ _ _)
        have G2 : ∀ a, a ≠ 1000 → k2 a = k1 a := fun a q => by rw [← ek2]; exact zup_ne q
        have h12 := (G2 1001 (by decide)).trans h1a
        have hT22 := (G2 1002 (by decide)).trans hT2a
        refine z_aload_n (pc := 55) C dX11_forest_55 1 rfl ?_
        refine z_getf (pc := 56) C dX11_forest_56 fX11_10 hM2 (by first | rfl | assumption) ?_
        refine z_getf (pc := 59) C dX11_forest_59 fX11_56 h12 (by first | rfl | assumption) ?_
        refine z_iconst (pc := 62) C dX11_forest_62 (nI 0) (by decide) ?_
        refine z_putf (pc := 63) (fs' := [_, _, _, _, _, _, _, _]) C dX11_forest_63 gX11_60 hT22 (fun _ => ⟨rfl, rfl⟩) (by exact Nat.le_of_ble_eq_true rfl) (by rfl) ?_
        generalize ek3 : zup k2 1002 (zO 4 _) = k3
        have G3 : ∀ a, a ≠ 1002 → k3 a = k2 a := fun a q => by rw [← ek3]; exact zup_ne q
        have hM3 := (G3 1000 (by decide)).trans hM2
        have h13 := (G3 1001 (by decide)).trans h12
        have hT23 : ∃ (so sa va en nx : Int32) (co : Int64), k3 1002 = some (zO 4 (tpf 0 so sa va co en nx)) := by rw [← ek3]; exact ⟨_, _, _, _, _, _, zup_same _ _ _⟩
        have H3 : ∀ a, a ≠ 1000 → a ≠ 1002 → k3 a = k1 a := fun a q1 q2 => (G3 a q2).trans (G2 a q1)
        refine z_iload_n (pc := 66) C dX11_forest_66 0 rfl ?_
        first | refine z_ifneB (pc := 67) C 76 dX11_forest_67 (by decide) (fun hc67 => ?_) (fun hc67 => ?_) | refine z_ifneN (pc := 67) C 76 dX11_forest_67 (by decide) (by omega) (fun hc67 => ?_) (fun hc67 => ?_) | refine z_if_ne (pc := 67) C 76 dX11_forest_67 (by decide) (fun hc67 => ?_) (fun hc67 => ?_)
        · cases hc67
        · skip
          refine z_aload_n (pc := 70) C dX11_forest_70 1 rfl ?_
          refine z_iconst (pc := 71) C dX11_forest_71 (nI 4) (by decide) ?_
          refine z_cV1 (pc := 72) mX11_refuse C [_] dX11_forest_72 lX11_70 mtX11_refuse (tX11_refuse hM3) hM3 rfl rfl (by decide) (Nat.le_of_ble_eq_true rfl) (Nat.zero_le _) (Nat.zero_le _) ?_
          refine z_iret (pc := 75) C dX11_forest_75 rfl (Nat.zero_le _) (Nat.zero_le _) ⟨_, rfl, ?_, rfl⟩
          exact ⟨by obtain ⟨a, b, c, d, e, f, z⟩ := hT23; exact ⟨a, b, c, d, e, f, (zup_ne (by decide)).trans z⟩, (zup_ne (by decide)).trans ((H3 _ (by decide) (by decide)).trans hT3a), ⟨c1, so1, nu1, hN1.on (fun a a1 a2 => (zup_ne (by omega)).trans (H3 a (by omega) (by omega))), n81⟩, by rw [hE]; exact ⟨rfl, zup_same _ _ _, ⟨_, _, _, (zup_ne (by decide)).trans h13⟩, hD1.on hK (fun a q => (zup_ne (by unfold drA at q; omega)).trans (H3 a (by unfold drA at q; omega) (by unfold drA at q; omega))), fun a q1 q2 => (zup_ne (by omega)).trans ((H3 a (by omega) (by omega)).trans (G1 a (by omega) q2))⟩⟩
    · omega
