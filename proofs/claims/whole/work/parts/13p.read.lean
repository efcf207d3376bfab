theorem sLw_z {R B : Nat → Nat} {n : Nat} {t z : Nat × Nat × Nat} (h : sLw R B n t = .inl z) : z = sNx B n t ∧ ∃ i, sLi B t = some i := by
  cases q : sLi B t with
  | none => rw [sLw_n q] at h; cases h
  | some i =>
    refine ⟨?_, i, rfl⟩
    by_cases y : i = 0
    · subst y
      rw [sLw_0 q] at h
      split at h
      · cases h; rfl
      · cases h
    · obtain ⟨-, a, b, -⟩ := sfst_some _ _ _ q
      have e0 : oBg B R n t i (decide (R i < zSt 0 i)) = .inl z := by
        unfold sLw at h
        rw [q] at h
        exact (if_neg y).symm.trans h
      obtain ⟨-, -, c3⟩ := oBg_f (show sspl B t i = true from b) (by rw [e0]; rfl)
      rw [e0] at c3
      cases c3; rfl
def cRd (h hh : ZH) (s le tr td len n : Nat) (B : Nat → Nat) (w : Value) : Prop := (∀ a, a < 1001 ∨ 1006 < a → ¬ drA s a → hh a = h a) ∧ match sEnd (sRd0 B n) with
  | .inl t => w = .int (zb true) ∧ cG hh s le tr td (cnt (sRd0 B n).2.1) (nI 0) (-1) len n B (sRd0 B n).2.1 (sRd0 B n).2.2 t ∧ RX (sRd0 B n).2.1 (sRd0 B n).2.2
  | .inr e => w = .int (zb false) ∧ cBad hh s le tr td len B e
theorem cRd.no {h h0 : ZH} {s le tr td : Nat} {len n nc : Nat} {B c so nu : Nat → Nat} {t : Nat × Nat × Nat} {e : Nat × Nat} (hK : DOK s le tr td) (hT : TpA h0 len n B t) (hN : NT h0 zer c so nu) (h8 : NT8 c so nu) (hD : DrS h0 s le tr td) (hF : ∀ a, a < 1001 ∨ 1006 < a → ¬ drA s a → h0 a = h a) (hl : sEnd (sRd0 B n) = .inr e) : cRd h (zup h0 1001 (zO 2 (rdf (nI e.1) (nI e.2) nc s))) s le tr td len n B (.int (zb false)) := by
  have := cL.no (K := zer) (ff := 0) (fa := 0) (nc := nc) (l := (sEnd (sRd0 B n), zer, zer)) hK hT hN h8 hD hF hl
  obtain ⟨a, b⟩ := this
  refine ⟨a, ?_⟩
  rw [show ((sEnd (sRd0 B n), zer, zer) : TO × (Nat → Nat) × (Nat → Nat)).1 = .inr e from hl] at b
  rw [hl]
  exact b

set_option maxRecDepth 20000 in
set_option maxHeartbeats 1000000 in
theorem tX4_read {h : ZH} {ff fa so0 sa va en nx : Int32} {co : Int64} {s le tr td nc len n0 : Nat} {B c so nu : Nat → Nat} (hK : DOK s le tr td) (h1 : h 1001 = some (zO 2 (rdf ff fa nc s))) (hT2 : h 1002 = some (zO 4 (tpf len so0 sa va co en nx))) (hT3 : h 1003 = some (zI 900 B)) (hN4 : NT h zer c so nu) (n8 : NT8 c so nu) (hS : DrS h s le tr td) (hl : len ≤ 900) (hn0 : n0 ≤ len) (hB0 : ∀ j, j < len → B j < 256) : ZQ1 mX4_read 9 [.ref 1001, .int (nI n0)] h (fun w hh => cRd h hh s le tr td len n0 B w) := by
  intro n
  have hKo := hK
  unfold DOK at hKo
  obtain ⟨fc0, fh0, fn0, fk0, fs0, fg0, fw0, fe0, fl0, ft0, ra, la, sp, ⟨y0, y1, y2, y3, y4, y5, y6, y7, y8, y9, y10, y11⟩⟩ := id hS
  refine z_enter (lv := [(0, _), (1, _)]) (by decide) (Nat.le_of_ble_eq_true rfl) rfl (fun X C => ?_)
  refine z_aload_n (pc := 0) C dX4_read_0 0 rfl ?_
  refine z_getf (pc := 1) C dX4_read_1 fX4_37 h1 (by first | rfl | assumption) ?_
  refine z_getf (pc := 4) C dX4_read_4 fX4_49 y9 (by first | rfl | assumption) ?_
  refine z_cV0Q (pc := 7) mX8_clear C [] dX4_read_7 lX4_53 mtX8_clear (tX8_clear y0 y1 y3) y0 rfl rfl (by decide) (Nat.le_of_ble_eq_true rfl) (Nat.zero_le _) (Nat.zero_le _) ?_
  rintro h2 ⟨d0, d1, d3, F2⟩
  have e1 := (F2 1001 (by omega) (by omega) (by omega)).trans h1
  have e9 := (F2 s (by omega) (by omega) (by omega)).trans y9
  refine z_aload_n (pc := 10) C dX4_read_10 0 rfl ?_
  refine z_getf (pc := 11) C dX4_read_11 fX4_37 e1 (by first | rfl | assumption) ?_
  refine z_iconst (pc := 14) C dX4_read_14 (nI 0) (by decide) ?_
  refine z_putf (pc := 15) (fs' := [_, _, _, _, _]) C dX4_read_15 gX4_56 e9 (fun _ => ⟨rfl, rfl⟩) (by exact Nat.le_of_ble_eq_true rfl) (by rfl) ?_
  refine z_aload_n (pc := 18) C dX4_read_18 0 rfl ?_
  refine z_getf (pc := 19) C dX4_read_19 fX4_37 ((zup_ne (by omega)).trans e1) (by first | rfl | assumption) ?_
  refine z_iconst (pc := 22) C dX4_read_22 (nI 0) (by decide) ?_
  refine z_putf (pc := 23) (fs' := [_, _, _, _, _]) C dX4_read_23 gX4_60 (zup_same _ _ _) (fun _ => ⟨rfl, rfl⟩) (by exact Nat.le_of_ble_eq_true rfl) (by rfl) ?_
  rw [zup_zup]
  generalize eg : zup h2 s (zO 3 _) = h3
  have k9 : h3 s = some (zO 3 [.ref td, .ref le, .int (nI 0), .int (nI 0), .ref tr]) := by rw [← eg]; exact zup_same _ _ _
  have G3 : ∀ a, a ≠ s → h3 a = h2 a := fun a q => by rw [← eg]; exact zup_ne q
  have m1 := (G3 1001 (by omega)).trans e1
  refine z_aload_n (pc := 26) C dX4_read_26 0 rfl ?_
  refine z_bipush (pc := 27) C dX4_read_27 (nI 8) (by decide) ?_
  refine z_putf (pc := 29) (fs' := [_, _, _, _, _, _, _, _]) C dX4_read_29 gX4_63 m1 (fun _ => ⟨rfl, rfl⟩) (by exact Nat.le_of_ble_eq_true rfl) (by rfl) ?_
  refine z_aload_n (pc := 32) C dX4_read_32 0 rfl ?_
  refine z_iconst (pc := 33) C dX4_read_33 (nI 0) (by decide) ?_
  refine z_putf (pc := 34) (fs' := [_, _, _, _, _, _, _, _]) C dX4_read_34 gX4_66 (zup_same _ _ _) (fun _ => ⟨rfl, rfl⟩) (by exact Nat.le_of_ble_eq_true rfl) (by rfl) ?_
  refine z_aload_n (pc := 37) C dX4_read_37 0 rfl ?_
  refine z_iconst (pc := 38) C dX4_read_38 (-1) (by decide) ?_
  refine z_putf (pc := 39) (fs' := [_, _, _, _, _, _, _, _]) C dX4_read_39 gX4_69 (zup_same _ _ _) (fun _ => ⟨rfl, rfl⟩) (by exact Nat.le_of_ble_eq_true rfl) (by rfl) ?_
  rw [zup_zup, zup_zup]
  generalize eg4 : zup h3 1001 (zO 2 _) = h4
  have q1 : h4 1001 = some (zO 2 (rdf (nI 0) (-1) 8 s)) := by rw [← eg4]; exact zup_same _ _ _
  have G4 : ∀ a, a ≠ 1001 → h4 a = h3 a := fun a q => by rw [← eg4]; exact zup_ne q
  have q2 := (G4 1002 (by omega)).trans ((G3 1002 (by omega)).trans ((F2 1002 (by omega) (by omega) (by omega)).trans hT2))
  have q3 := (G4 1003 (by omega)).trans ((G3 1003 (by omega)).trans ((F2 1003 (by omega) (by omega) (by omega)).trans hT3))
  refine z_aload_n (pc := 42) C dX4_read_42 0 rfl ?_
  refine z_getf (pc := 43) C dX4_read_43 fX4_12 q1 (by first | rfl | assumption) ?_
  refine z_iload_n (pc := 46) C dX4_read_46 1 rfl ?_
  refine z_cV0Q (pc := 47) mX7_begin C [_] dX4_read_47 lX4_72 mtX7_begin (tX7_begin q2 q3 hn0 hl (fun j hj => hB0 j (by omega))) q2 rfl rfl (by decide) (Nat.le_of_ble_eq_true rfl) (Nat.zero_le _) (Nat.zero_le _) ?_
  rintro h5 ⟨hT5, F5⟩
  have k5 := (stok_ok (B := B) (n := n0) (k := 0) (by omega) (by omega) (fun j hj => hB0 j (by omega))).1
  have g5 : ∀ a, a < 1001 ∨ 1006 < a → ¬ drA s a → h5 a = h a := fun a q1 q2 => by unfold drA at q2; exact (F5 a (by omega)).trans ((G4 a (by omega)).trans ((G3 a (by omega)).trans (F2 a (by omega) (by omega) (by omega))))
  have N5 : NT h5 zer c so nu := hN4.on (fun a a1 a2 => (F5 a (by omega)).trans ((G4 a (by omega)).trans ((G3 a (by omega)).trans (F2 a (by omega) (by omega) (by omega)))))
  have T5 : ∀ a, a ≠ 1001 → a ≠ 1002 → a ≠ s → h5 a = h2 a := fun a a1 a2 a3 => (F5 a a2).trans ((G4 a a1).trans (G3 a a3))
  have D5 : Drf h5 s le tr td (cnt zer) zer zer := ⟨zer, fh0, zer, fk0, fs0, fg0, fw0, fe0, fl0, ft0, ⟨(T5 _ (by omega) (by omega) (by omega)).trans d0, (T5 _ (by omega) (by omega) (by omega)).trans d1, (T5 _ (by omega) (by omega) (by omega)).trans ((F2 _ (by omega) (by omega) (by omega)).trans y2), (T5 _ (by omega) (by omega) (by omega)).trans d3, (T5 _ (by omega) (by omega) (by omega)).trans ((F2 _ (by omega) (by omega) (by omega)).trans y4), (T5 _ (by omega) (by omega) (by omega)).trans ((F2 _ (by omega) (by omega) (by omega)).trans y5), (T5 _ (by omega) (by omega) (by omega)).trans ((F2 _ (by omega) (by omega) (by omega)).trans y6), (T5 _ (by omega) (by omega) (by omega)).trans ((F2 _ (by omega) (by omega) (by omega)).trans y7), (T5 _ (by omega) (by omega) (by omega)).trans ((F2 _ (by omega) (by omega) (by omega)).trans y8), (F5 _ (by omega)).trans ((G4 _ (by omega)).trans k9), (T5 _ (by omega) (by omega) (by omega)).trans ((F2 _ (by omega) (by omega) (by omega)).trans y10), (T5 _ (by omega) (by omega) (by omega)).trans ((F2 _ (by omega) (by omega) (by omega)).trans y11)⟩, fun i hi => by unfold cnt zer; split; rfl; rfl, fun p hp => absurd hp (Nat.not_lt_zero p), fun p hp => rfl, fun p hp => absurd hp (Nat.not_lt_zero p), fun p hp => absurd hp (Nat.not_lt_zero p), fun p hp => absurd hp (Nat.not_lt_zero p), fun p hp => absurd hp (Nat.not_lt_zero p), fun p hp => absurd hp (Nat.not_lt_zero p), fun p hp => absurd hp (Nat.not_lt_zero p), fun p hp => absurd hp (Nat.not_lt_zero p)⟩
  refine z_iconst (pc := 50) C dX4_read_50 (nI 0) (by decide) ?_
  refine z_istore_n (pc := 51) (lv' := [(2, _), (0, _), (1, _)]) C dX4_read_51 (by decide) rfl ?_
  refine z_sub (lv' := [(0, _), (1, _), (2, _)]) [1, 2, 0] rfl ?_
  have lp52 : ∀ (f : Nat) (x : Nat) (h6 : ZH) (t : Nat × Nat × Nat) (R S : Nat → Nat), (x + f = 901 ∧ cG h6 s le tr td (cnt R) (nI 0) (-1) len n0 B R S t ∧ RX R S ∧ sTk B n0 t ∧ sRd0 B n0 = sRK B n0 f (lLn R S B n0 t) ∧ n0 + 1 ≤ t.2.1 + f ∧ ∀ a, a < 1001 ∨ 1006 < a → ¬ drA s a → h6 a = h a) → Zc X mX4_read (zEnd X (fun r hh n' => ∃ w, r = some w ∧ (cRd h hh s le tr td len n0 B w) ∧ n' = n) 0 0) 52 [(0, .ref 1001), (1, .int (nI n0)), (2, .int (nI x))] [] h6 n 0 0 := by
    intro f
    induction f using Nat.strongRecOn with
    | _ f ih =>
      intro x h6 t R S hk6
      obtain ⟨hx, ⟨hT6, ⟨nc6, c6, so6, nu6, ix6, h16, hN6, hP6⟩, hD6⟩, hX, hk, eK, hf, G6⟩ := hk6
      have N6 : NT h6 zer c6 so6 nu6 := hN6
      have t1 := hk.2.1
      have t2 := hk.2.2.1
      have n86 : NT8 c6 so6 nu6 := hP6.2.2.1
      refine z_iload_n (pc := 52) C dX4_read_52 2 rfl ?_
      refine z_sipush (pc := 53) C dX4_read_53 (nI 900) (by decide) ?_
      first | refine z_icmpgtN (pc := 56) C 164 dX4_read_56 (by decide) (by omega) (by omega) (fun hc56 => ?_) (fun hc56 => ?_) | refine z_icmp_gt (pc := 56) C 164 dX4_read_56 (by decide) (fun hc56 => ?_) (fun hc56 => ?_)
      · omega
      · skip
        refine z_aload_n (pc := 59) C dX4_read_59 0 rfl ?_
        refine z_cV1Q (pc := 60) mX4_readLineWord C [] dX4_read_60 lX4_76 mtX4_readLineWord (tX4_readLineWord hK h16 hT6 N6 hP6 hX hk hD6 rfl (fun i a b => if_neg (by omega))) h16 rfl rfl (by decide) (Nat.le_of_ble_eq_true rfl) (Nat.zero_le _) (Nat.zero_le _) ?_
        rintro _ h7 ⟨rfl, hC7⟩
        rcases hE : sLw R B n0 t with z | e
        · skip
          obtain ⟨y, i, hi⟩ := sLw_z hE
          obtain rfl : z = sNx B n0 t := y
          obtain ⟨eL, i8, i0, im⟩ := lLn_l (S := S) hE hi
          refine z_top (sLwV_l hE hi) ?_
          rw [hE] at hC7
          obtain ⟨hT7, F7⟩ := hC7
          have k7 := (sNx_ok hk).1
          have h17 := (F7 1001 (by decide)).trans h16
          have hN7 := N6.on (hh := h7) (fun a q1 q2 => F7 a (by omega))
          have hD7 := hD6.on hK (hh := h7) (fun a q => F7 a (by unfold drA at q; omega))
          have G7 : ∀ a, a < 1001 ∨ 1006 < a → ¬ drA s a → h7 a = h a := fun a q1 q2 => (F7 a (by omega)).trans (G6 a q1 q2)
          refine z_istore_n (pc := 63) (lv' := [(3, _), (0, _), (1, _), (2, _)]) C dX4_read_63 (by decide) rfl ?_
          refine z_iload_n (pc := 64) C dX4_read_64 0 rfl ?_
          first | refine z_ifltN (pc := 65) C 76 dX4_read_65 (by decide) (by omega) (fun hc65 => ?_) (fun hc65 => ?_) | refine z_if_lt (pc := 65) C 76 dX4_read_65 (by decide) (fun hc65 => ?_) (fun hc65 => ?_)
          · exact hc65.elim
          · skip
            refine z_aload_n (pc := 68) C dX4_read_68 1 rfl ?_
            refine z_iload_n (pc := 69) C dX4_read_69 0 rfl ?_
            refine z_cV1Q (pc := 70) mX4_readRest C [_] dX4_read_70 lX4_80 mtX4_readRest (tX4_readRest hK h17 hT7 hN7 hP6 hX k7 hD7 (fun i a b => if_neg (by omega)) i8 (fun q => (im q).1)) h17 rfl rfl (by decide) (Nat.le_of_ble_eq_true rfl) (Nat.zero_le _) (Nat.zero_le _) ?_
            rintro w1 h8 hL
            rw [← eL] at hL
            obtain rfl := hL.w
            first | refine z_ifneB (pc := 73) C 78 dX4_read_73 (by decide) (fun hc73 => ?_) (fun hc73 => ?_) | refine z_ifneN (pc := 73) C 78 dX4_read_73 (by decide) (by omega) (fun hc73 => ?_) (fun hc73 => ?_) | refine z_if_ne (pc := 73) C 78 dX4_read_73 (by decide) (fun hc73 => ?_) (fun hc73 => ?_)
            · skip
              have o8 := nt_T hc73
              obtain ⟨t8, ht8⟩ := oF_f o8
              obtain ⟨G8, q8⟩ := id hL
              rw [ht8] at q8
              obtain ⟨-, hT8, ⟨nc8, c8_, so8, nu8, ix8, h18, hN8, hP8⟩, hD8⟩ := q8
              have X8 := RX_ln hX hk o8
              obtain ⟨k8, p8⟩ := oG_ln (R := R) (S := S) hk t8 ht8
              obtain ⟨fc, fh, fn, fk, fs, fg, fw, fe, fl, ft, hB⟩ := id hD8
              obtain ⟨⟨c0, c1, c2, c3, c4, c5, c6, c7, c8, c9, c10, c11⟩, r0, r1, r2, r3, r4, r5, r6, r7, r8, r9⟩ := id hB
              refine z_aload_n (pc := 78) C dX4_read_78 1 rfl ?_
              refine z_getf (pc := 79) C dX4_read_79 fX4_37 h18 (by first | rfl | assumption) ?_
              refine z_getf (pc := 82) C dX4_read_82 fX4_49 c9 (by first | rfl | assumption) ?_
              refine z_getf (pc := 85) C dX4_read_85 fX4_84 c0 (by first | rfl | assumption) ?_
              refine z_iload_n (pc := 88) C dX4_read_88 0 rfl ?_
              refine z_dup2 (pc := 89) C dX4_read_89 rfl rfl ?_
              refine z_ialdE (pc := 90) C dX4_read_90 c1 i8 (by decide) (r0 _ i8) ?_
              refine z_iconst (pc := 91) C dX4_read_91 (nI 1) (by decide) ?_
              first | refine z_iaddN (pc := 92) C dX4_read_92 ?_ | refine z_iadd (pc := 92) C dX4_read_92 ?_
              first | refine z_iastN (pc := 93) C dX4_read_93 c1 i8 (by decide) ?_ | refine z_iastI (pc := 93) C dX4_read_93 c1 i8 (by decide) ?_
              generalize eg9 : zup h8 (td + 1) (zI 8 _) = h9
              have G9 : ∀ a, a ≠ td + 1 → h9 a = h8 a := fun a q => by rw [← eg9]; exact zup_ne q
              have hD9 : Drf h9 s le tr td (cnt (lLn R S B n0 t).2.1) (lLn R S B n0 t).2.1 (lLn R S B n0 t).2.2 := by rw [← eg9]; exact DrC.cn hK hB i8 (fun j hj => by rw [eL]; exact lRs_cnt i8 i0 j hj)
              have hT9 : TpA h9 len n0 B t8 := hT8.on (fun a q => G9 a (by omega))
              have h19 := (G9 1001 (by omega)).trans h18
              have h29 := hT9.2
              have N9 : NT h9 zer c8_ so8 nu8 := NT.on hN8 (fun a q1 q2 => G9 a (by omega))
              have n89 : NT8 c8_ so8 nu8 := hP8.2.2.1
              have G9a : ∀ a, a < 1001 ∨ 1006 < a → ¬ drA s a → h9 a = h a := fun a q1 q2 => (G9 a (by unfold drA at q2; omega)).trans ((G8 a q1 q2).trans (G7 a q1 q2))
              have eT : (lLn R S B n0 t) = (.inl t8, (lLn R S B n0 t).2.1, (lLn R S B n0 t).2.2) := by rw [← ht8]
              obtain ⟨gc, gh, gn, gk, gs, gg, gw, ge, gl, gt, ⟨v0, v1, v2, v3, v4, v5, v6, v7, v8, v9, -⟩, w0, -⟩ := id hD9
              have u8 := k8.1
              refine z_aload_n (pc := 94) C dX4_read_94 1 rfl ?_
              refine z_getf (pc := 95) C dX4_read_95 fX4_12 h19 (by first | rfl | assumption) ?_
              refine z_getf (pc := 98) C dX4_read_98 fX4_87 h29 (by first | rfl | assumption) ?_
              first | refine z_ifneB (pc := 101) C 134 dX4_read_101 (by decide) (fun hc101 => ?_) (fun hc101 => ?_) | refine z_ifneN (pc := 101) C 134 dX4_read_101 (by decide) (by omega) (fun hc101 => ?_) (fun hc101 => ?_) | refine z_if_ne (pc := 101) C 134 dX4_read_101 (by decide) (fun hc101 => ?_) (fun hc101 => ?_)
              · skip
                refine z_aload_n (pc := 134) C dX4_read_134 1 rfl ?_
                refine z_getf (pc := 135) C dX4_read_135 fX4_12 h19 (by first | rfl | assumption) ?_
                refine z_getf (pc := 138) C dX4_read_138 fX4_87 h29 (by first | rfl | assumption) ?_
                refine z_iconst (pc := 141) C dX4_read_141 (nI 3) (by decide) ?_
                first | refine z_icmpeqN (pc := 142) C 151 dX4_read_142 (by decide) (by omega) (by omega) (fun hc142 => ?_) (fun hc142 => ?_) | refine z_icmp_eq (pc := 142) C 151 dX4_read_142 (by decide) (fun hc142 => ?_) (fun hc142 => ?_)
                · skip
                  refine z_aload_n (pc := 151) C dX4_read_151 1 rfl ?_
                  refine z_getf (pc := 152) C dX4_read_152 fX4_12 h19 (by first | rfl | assumption) ?_
                  refine z_cV0Q (pc := 155) mX7_advance C [] dX4_read_155 lX4_93 mtX7_advance (tX7_adv hT9 k8) h29 rfl rfl (by decide) (Nat.le_of_ble_eq_true rfl) (Nat.zero_le _) (Nat.zero_le _) ?_
                  rintro h10 ⟨hT10, F10⟩
                  first | refine z_iincN (pc := 158) (lv' := [(2, _), (3, _), (0, _), (1, _)]) C 1 dX4_read_158 3 rfl (by decide) (by decide) rfl ?_ | refine z_iinc (pc := 158) (lv' := [(2, _), (3, _), (0, _), (1, _)]) C dX4_read_158 3 rfl _ rfl (by decide) rfl ?_
                  refine z_goto (pc := 161) C 52 dX4_read_161 (by decide) ?_
                  refine z_sub (lv' := [(0, _), (1, _), (2, _)]) [2, 3, 0] rfl ?_
                  exact ih (f - 1) (by omega) (x + 1) h10 (sNx B n0 t8) (lLn R S B n0 t).2.1 (lLn R S B n0 t).2.2 ⟨by omega, ⟨hT10, ⟨nc8, c8_, so8, nu8, ix8, (F10 1001 (by decide)).trans h19, N9.on (fun a q1 q2 => F10 a (by omega)), hP8⟩, hD9.on hK (fun a q => F10 a (by unfold drA at q; omega))⟩, X8, (sNx_ok k8).1, eK.trans ((congrArg (sRK B n0 f) eT).trans (by obtain ⟨g, rfl⟩ : ∃ g, f = g + 1 := ⟨f - 1, by omega⟩; exact sRK_s hc142)), (by have z1 := (sNx_ok k8).2; have z2 := k8.2.2.2.2.2.2.2.2 hc142; omega), fun a q1 q2 => (F10 a (by omega)).trans (G9a a q1 q2)⟩
                · skip
                  have eD : sRd0 B n0 = (.inl t8, (lLn R S B n0 t).2.1, (lLn R S B n0 t).2.2) := eK.trans ((congrArg (sRK B n0 f) eT).trans (sRK_e (by omega)))
                  refine z_aload_n (pc := 145) C dX4_read_145 1 rfl ?_
                  refine z_iconst (pc := 146) C dX4_read_146 (nI 1) (by decide) ?_
                  refine z_cV1 (pc := 147) mX4_fail C [_] dX4_read_147 lX4_90 mtX4_fail (tX4_fail h19 hT9) h19 rfl rfl (by decide) (Nat.le_of_ble_eq_true rfl) (Nat.zero_le _) (Nat.zero_le _) ?_
                  refine z_zret (pc := 150) C dX4_read_150 rfl (by first | exact zb_nar _ | rfl) (Nat.zero_le _) (Nat.zero_le _) ⟨_, rfl, ?_, rfl⟩
                  exact cRd.no (e := (1, t8.2.1)) hK hT9 N9 n89 hD9.s G9a (by rw [eD]; exact if_neg (by omega))
              · skip
                have eD : sRd0 B n0 = (.inl t8, (lLn R S B n0 t).2.1, (lLn R S B n0 t).2.2) := eK.trans ((congrArg (sRK B n0 f) eT).trans (sRK_e (by omega)))
                have w1 : gc 1 = (lLn R S B n0 t).2.1 1 := w0 1 (by decide)
                have w2 : (lLn R S B n0 t).2.1 1 ≤ 7 := X8.1.2.1.1
                refine z_aload_n (pc := 104) C dX4_read_104 1 rfl ?_
                refine z_getf (pc := 105) C dX4_read_105 fX4_37 h19 (by first | rfl | assumption) ?_
                refine z_getf (pc := 108) C dX4_read_108 fX4_49 v9 (by first | rfl | assumption) ?_
                refine z_getf (pc := 111) C dX4_read_111 fX4_84 v0 (by first | rfl | assumption) ?_
                refine z_iconst (pc := 114) C dX4_read_114 (nI 1) (by decide) ?_
                first | refine z_ialdN (pc := 115) C dX4_read_115 v1 (by omega) (by decide) ?_ | refine z_ialdI (pc := 115) C dX4_read_115 v1 (by omega) (by decide) ?_
                first | refine z_ifgtN (pc := 116) C 128 dX4_read_116 (by decide) (by omega) (fun hc116 => ?_) (fun hc116 => ?_) | refine z_if_gt (pc := 116) C 128 dX4_read_116 (by decide) (fun hc116 => ?_) (fun hc116 => ?_)
                · skip
                  have eE : sEnd (sRd0 B n0) = .inl t8 := by rw [eD]; exact (if_pos (by omega)).trans (if_neg (by rintro (z | z); (have := (X8.2.2.2.2.1 z).1; omega); (have z2 : (lLn R S B n0 t).2.1 1 = 0 := z; omega)))
                  refine z_iconst (pc := 128) C dX4_read_128 (zb true) (by decide) ?_
                  refine z_goto (pc := 129) C 133 dX4_read_129 (by decide) ?_
                  refine z_zret (pc := 133) C dX4_read_133 rfl (by first | exact zb_nar _ | rfl) (Nat.zero_le _) (Nat.zero_le _) ⟨_, rfl, ?_, rfl⟩
                  first | exact cRd.no (e := (6, t8.2.1)) hK hT9 N9 n89 hD9.s G9a eE | (refine ⟨G9a, ?_⟩; rw [eE, eD]; exact ⟨rfl, ⟨hT9, ⟨nc8, c8_, so8, nu8, ix8, h19, N9, hP8⟩, hD9⟩, X8⟩)
                · skip
                  have eE : sEnd (sRd0 B n0) = .inr (6, t8.2.1) := by rw [eD]; exact (if_pos (by omega)).trans (if_pos (Or.inr (show (lLn R S B n0 t).2.1 1 = 0 from by omega)))
                  refine z_aload_n (pc := 119) C dX4_read_119 1 rfl ?_
                  refine z_bipush (pc := 120) C dX4_read_120 (nI 6) (by decide) ?_
                  refine z_cV1 (pc := 122) mX4_fail C [_] dX4_read_122 lX4_90 mtX4_fail (tX4_fail h19 hT9) h19 rfl rfl (by decide) (Nat.le_of_ble_eq_true rfl) (Nat.zero_le _) (Nat.zero_le _) ?_
                  first | refine z_ifeqB (pc := 125) C 132 dX4_read_125 (by decide) (fun hc125 => ?_) (fun hc125 => ?_) | refine z_ifeqN (pc := 125) C 132 dX4_read_125 (by decide) (by omega) (fun hc125 => ?_) (fun hc125 => ?_) | refine z_if_eq (pc := 125) C 132 dX4_read_125 (by decide) (fun hc125 => ?_) (fun hc125 => ?_)
                  · skip
                    refine z_iconst (pc := 132) C dX4_read_132 (zb false) (by decide) ?_
                    refine z_zret (pc := 133) C dX4_read_133 rfl (by first | exact zb_nar _ | rfl) (Nat.zero_le _) (Nat.zero_le _) ⟨_, rfl, ?_, rfl⟩
                    first | exact cRd.no (e := (6, t8.2.1)) hK hT9 N9 n89 hD9.s G9a eE | (refine ⟨G9a, ?_⟩; rw [eE, eD]; exact ⟨rfl, ⟨hT9, ⟨nc8, c8_, so8, nu8, ix8, h19, N9, hP8⟩, hD9⟩, X8⟩)
                  · cases hc125
            · skip
              have o8 := nt_F hc73
              obtain ⟨e8, he8⟩ := oF_t o8
              have eD : sRd0 B n0 = lLn R S B n0 t := eK.trans (sRK_r o8)
              have eE : sEnd (sRd0 B n0) = .inr e8 := by rw [eD]; unfold sEnd; rw [he8]; rfl
              obtain ⟨G8, q8⟩ := id hL
              rw [he8] at q8
              refine z_iconst (pc := 76) C dX4_read_76 (zb false) (by decide) ?_
              refine z_zret (pc := 77) C dX4_read_77 rfl (by first | exact zb_nar _ | rfl) (Nat.zero_le _) (Nat.zero_le _) ⟨_, rfl, ?_, rfl⟩
              first | exact ⟨fun a q1 q2 => (G8 a q1 q2).trans (G7 a q1 q2), by rw [eE]; exact q8⟩ | exact cRd.no (e := e) hK hT6 N6 n86 hD6.s G6 eE
        · skip
          refine z_top (sLwV_r hE) ?_
          rw [hE] at hC7
          obtain rfl : h7 = _ := hC7
          have eD : sRd0 B n0 = lLn R S B n0 t := eK.trans (sRK_r (by rw [lLn_r hE]; rfl))
          have eE : sEnd (sRd0 B n0) = .inr e := by rw [eD]; unfold sEnd; rw [lLn_r hE]; rfl
          refine z_istore_n (pc := 63) (lv' := [(3, _), (0, _), (1, _), (2, _)]) C dX4_read_63 (by decide) rfl ?_
          refine z_iload_n (pc := 64) C dX4_read_64 0 rfl ?_
          first | refine z_ifltN (pc := 65) C 76 dX4_read_65 (by decide) (by omega) (fun hc65 => ?_) (fun hc65 => ?_) | refine z_if_lt (pc := 65) C 76 dX4_read_65 (by decide) (fun hc65 => ?_) (fun hc65 => ?_)
          · skip
            refine z_iconst (pc := 76) C dX4_read_76 (zb false) (by decide) ?_
            refine z_zret (pc := 77) C dX4_read_77 rfl (by first | exact zb_nar _ | rfl) (Nat.zero_le _) (Nat.zero_le _) ⟨_, rfl, ?_, rfl⟩
            first | exact ⟨fun a q1 q2 => (G8 a q1 q2).trans (G7 a q1 q2), by rw [eE]; exact q8⟩ | exact cRd.no (e := e) hK hT6 N6 n86 hD6.s G6 eE
          · exact absurd (by decide) hc65
  exact lp52 901 0 h5 (stok B n0 0) zer zer ⟨rfl, ⟨hT5, ⟨8, c, so, nu, zer, (F5 _ (by decide)).trans q1, N5, NTp.z0 n8⟩, D5⟩, RX_0, k5, rfl, by omega, g5⟩
