theorem kw_uniq0 : ∀ i j : Fin 8, zLen i.val = zLen j.val → (∀ k : Fin 8, k.val < zLen i.val → zCh i.val k.val = zCh j.val k.val) → i = j := by decide
theorem kw_uniq {B : Nat → Nat} {t : Nat × Nat × Nat} {i j : Nat} (hi : i < 8) (hj : j < 8) (h1 : sspl B t i = true) (h2 : sspl B t j = true) : i = j := by
  obtain ⟨-, a1, b1⟩ := of_decide_eq_true h1
  obtain ⟨-, a2, b2⟩ := of_decide_eq_true h2
  have := kw_uniq0 ⟨i, hi⟩ ⟨j, hj⟩ (a1.trans a2.symm) (fun k hk => (b1 k.val hk).symm.trans (b2 k.val (by rw [a2, ← a1]; exact hk)))
  exact congrArg Fin.val this
theorem lLn_r {R S B : Nat → Nat} {n : Nat} {t : Nat × Nat × Nat} {e : Nat × Nat} (h : sLw R B n t = .inr e) : (lLn R S B n t).1 = .inr e := by
  have none_ : sLi B t = none → (lLn R S B n t).1 = .inr (1, t.2.1) := fun q => by
    have f := fun i hi => sfst_none _ _ q i (Nat.zero_le _) hi
    unfold lLn
    rw [if_neg (by rw [show sspl B t 0 = false from f 0 (by decide)]; decide), if_neg (by rw [show sspl B t 1 = false from f 1 (by decide)]; decide), if_neg (by rw [show sspl B t 2 = false from f 2 (by decide)]; decide), if_neg (by rw [show sspl B t 3 = false from f 3 (by decide)]; decide), if_neg (by rw [show sspl B t 6 = false from f 6 (by decide)]; decide), if_neg (by rw [show sspl B t 4 = false from f 4 (by decide)]; decide), if_neg (by rw [show sspl B t 7 = false from f 7 (by decide)]; decide), if_neg (by rw [show sspl B t 5 = false from f 5 (by decide)]; decide)]
  cases q : sLi B t with
  | none => rw [sLw_n q] at h; cases h; exact none_ q
  | some i =>
    obtain ⟨-, a, b, -⟩ := sfst_some _ _ _ q
    have hs : sspl B t i = true := b
    have ot : ∀ j, j < 8 → j ≠ i → ¬ sspl B t j = true := fun j hj hn z => hn (kw_uniq hj (by omega) z hs)
    by_cases z : i = 0
    · subst z
      rw [sLw_0 q] at h
      unfold lLn lFo
      rw [if_pos hs]
      show (if R 8 = 0 then _ else _) = _
      split at h
      · cases h
      · rename_i r; cases h; rw [if_neg r]
    · have e1 : oBg B R n t i (decide (R i < zSt 0 i)) = .inr e := by
        unfold sLw at h
        rw [q] at h
        exact (if_neg z).symm.trans h
      rcases (show i = 1 ∨ i = 2 ∨ i = 3 ∨ i = 4 ∨ i = 5 ∨ i = 6 ∨ i = 7 by omega) with rfl | rfl | rfl | rfl | rfl | rfl | rfl
      · unfold lLn
        rw [if_neg (ot 0 (by decide) (by decide)), if_pos hs, show (decide (R 1 < 7)) = decide (R 1 < zSt 0 1) from rfl, e1]; rfl
      · unfold lLn
        rw [if_neg (ot 0 (by decide) (by decide)), if_neg (ot 1 (by decide) (by decide)), if_pos hs, show (decide (R 2 < 10)) = decide (R 2 < zSt 0 2) from rfl, e1]; rfl
      · unfold lLn
        rw [if_neg (ot 0 (by decide) (by decide)), if_neg (ot 1 (by decide) (by decide)), if_neg (ot 2 (by decide) (by decide)), if_pos hs, show (decide (R 3 < 4)) = decide (R 3 < zSt 0 3) from rfl, e1]; rfl
      · unfold lLn
        rw [if_neg (ot 0 (by decide) (by decide)), if_neg (ot 1 (by decide) (by decide)), if_neg (ot 2 (by decide) (by decide)), if_neg (ot 3 (by decide) (by decide)), if_neg (ot 6 (by decide) (by decide)), if_pos hs, show (decide (R 4 < 6)) = decide (R 4 < zSt 0 4) from rfl, e1]; rfl
      · unfold lLn
        rw [if_neg (ot 0 (by decide) (by decide)), if_neg (ot 1 (by decide) (by decide)), if_neg (ot 2 (by decide) (by decide)), if_neg (ot 3 (by decide) (by decide)), if_neg (ot 6 (by decide) (by decide)), if_neg (ot 4 (by decide) (by decide)), if_neg (ot 7 (by decide) (by decide)), if_pos hs, show (decide (R 5 < 3)) = decide (R 5 < zSt 0 5) from rfl, e1]; rfl
      · unfold lLn
        rw [if_neg (ot 0 (by decide) (by decide)), if_neg (ot 1 (by decide) (by decide)), if_neg (ot 2 (by decide) (by decide)), if_neg (ot 3 (by decide) (by decide)), if_pos hs, show (decide (R 6 < 12)) = decide (R 6 < zSt 0 6) from rfl, e1]; rfl
      · unfold lLn
        rw [if_neg (ot 0 (by decide) (by decide)), if_neg (ot 1 (by decide) (by decide)), if_neg (ot 2 (by decide) (by decide)), if_neg (ot 3 (by decide) (by decide)), if_neg (ot 6 (by decide) (by decide)), if_neg (ot 4 (by decide) (by decide)), if_pos hs, show (decide (R 7 < 6)) = decide (R 7 < zSt 0 7) from rfl, e1]; rfl
theorem lLn_l {R S B : Nat → Nat} {n i : Nat} {t z : Nat × Nat × Nat} (h : sLw R B n t = .inl z) (q : sLi B t = some i) : lLn R S B n t = lRs R S B n i (sNx B n t) ∧ i < 8 ∧ (i = 0 → R 8 = 0) ∧ (i ≠ 0 → R i < zSt 0 i ∧ R 8 ≠ 0) := by
  obtain ⟨-, a, b, -⟩ := sfst_some _ _ _ q
  have hs : sspl B t i = true := b
  have ot : ∀ j, j < 8 → j ≠ i → ¬ sspl B t j = true := fun j hj hn z => hn (kw_uniq hj (by omega) z hs)
  by_cases y : i = 0
  · subst y
    rw [sLw_0 q] at h
    split at h
    · rename_i r
      refine ⟨?_, by decide, fun _ => r, fun w => absurd rfl w⟩
      unfold lLn lFo
      rw [if_pos hs, if_pos r]; rfl
    · cases h
  · have e0 : oBg B R n t i (decide (R i < zSt 0 i)) = .inl z := by
      unfold sLw at h
      rw [q] at h
      exact (if_neg y).symm.trans h
    obtain ⟨c1, c2, c3⟩ := oBg_f hs (by rw [e0]; rfl)
    refine ⟨?_, by omega, fun w => absurd w y, fun _ => ⟨of_decide_eq_true c1, c2⟩⟩
    rcases (show i = 1 ∨ i = 2 ∨ i = 3 ∨ i = 4 ∨ i = 5 ∨ i = 6 ∨ i = 7 by omega) with rfl | rfl | rfl | rfl | rfl | rfl | rfl
    · unfold lLn
      rw [if_neg (ot 0 (by decide) (by decide)), if_pos hs, show (decide (R 1 < 7)) = decide (R 1 < zSt 0 1) from rfl, c3]; rfl
    · unfold lLn
      rw [if_neg (ot 0 (by decide) (by decide)), if_neg (ot 1 (by decide) (by decide)), if_pos hs, show (decide (R 2 < 10)) = decide (R 2 < zSt 0 2) from rfl, c3]; rfl
    · unfold lLn
      rw [if_neg (ot 0 (by decide) (by decide)), if_neg (ot 1 (by decide) (by decide)), if_neg (ot 2 (by decide) (by decide)), if_pos hs, show (decide (R 3 < 4)) = decide (R 3 < zSt 0 3) from rfl, c3]; rfl
    · unfold lLn
      rw [if_neg (ot 0 (by decide) (by decide)), if_neg (ot 1 (by decide) (by decide)), if_neg (ot 2 (by decide) (by decide)), if_neg (ot 3 (by decide) (by decide)), if_neg (ot 6 (by decide) (by decide)), if_pos hs, show (decide (R 4 < 6)) = decide (R 4 < zSt 0 4) from rfl, c3]; rfl
    · unfold lLn
      rw [if_neg (ot 0 (by decide) (by decide)), if_neg (ot 1 (by decide) (by decide)), if_neg (ot 2 (by decide) (by decide)), if_neg (ot 3 (by decide) (by decide)), if_neg (ot 6 (by decide) (by decide)), if_neg (ot 4 (by decide) (by decide)), if_neg (ot 7 (by decide) (by decide)), if_pos hs, show (decide (R 5 < 3)) = decide (R 5 < zSt 0 5) from rfl, c3]; rfl
    · unfold lLn
      rw [if_neg (ot 0 (by decide) (by decide)), if_neg (ot 1 (by decide) (by decide)), if_neg (ot 2 (by decide) (by decide)), if_neg (ot 3 (by decide) (by decide)), if_pos hs, show (decide (R 6 < 12)) = decide (R 6 < zSt 0 6) from rfl, c3]; rfl
    · unfold lLn
      rw [if_neg (ot 0 (by decide) (by decide)), if_neg (ot 1 (by decide) (by decide)), if_neg (ot 2 (by decide) (by decide)), if_neg (ot 3 (by decide) (by decide)), if_neg (ot 6 (by decide) (by decide)), if_neg (ot 4 (by decide) (by decide)), if_pos hs, show (decide (R 7 < 6)) = decide (R 7 < zSt 0 7) from rfl, c3]; rfl

set_option maxRecDepth 20000 in
set_option maxHeartbeats 1000000 in
theorem tX8_clear {h : ZH} {td : Nat} {ra : Int32} {fc fn : Nat → Nat} (c0 : h td = some (zO 5 [.ref (td + 1), .ref (td + 2), .ref (td + 3), .ref (td + 4), .ref (td + 5), .ref (td + 6), .ref (td + 7), .ref (td + 8), .int ra])) (c1 : h (td + 1) = some (zI 8 fc)) (c3 : h (td + 3) = some (zI 7 fn)) : ZQ0 mX8_clear 0 [.ref td] h (fun hh => hh td = some (zO 5 [.ref (td + 1), .ref (td + 2), .ref (td + 3), .ref (td + 4), .ref (td + 5), .ref (td + 6), .ref (td + 7), .ref (td + 8), .int (nI 0)]) ∧ hh (td + 1) = some (zI 8 zer) ∧ hh (td + 3) = some (zI 7 zer) ∧ ∀ a, a ≠ td → a ≠ td + 1 → a ≠ td + 3 → hh a = h a) := by
  intro n
  refine z_enter (lv := [(0, _)]) (by decide) (Nat.le_of_ble_eq_true rfl) rfl (fun X C => ?_)
  refine z_aload_n (pc := 0) C dX8_clear_0 0 rfl ?_
  refine z_iconst (pc := 1) C dX8_clear_1 (nI 0) (by decide) ?_
  refine z_putf (pc := 2) (fs' := [_, _, _, _, _, _, _, _, _]) C dX8_clear_2 gX8_36 c0 (fun _ => ⟨rfl, rfl⟩) (by exact Nat.le_of_ble_eq_true rfl) (by rfl) ?_
  generalize eg : zup h td (zO 5 _) = g
  have g9 : g td = some (zO 5 [.ref (td + 1), .ref (td + 2), .ref (td + 3), .ref (td + 4), .ref (td + 5), .ref (td + 6), .ref (td + 7), .ref (td + 8), .int (nI 0)]) := by rw [← eg]; exact zup_same _ _ _
  have gG : ∀ a, a ≠ td → g a = h a := fun a q => by rw [← eg]; exact zup_ne q
  refine z_iconst (pc := 5) C dX8_clear_5 (nI 0) (by decide) ?_
  refine z_istore_n (pc := 6) (lv' := [(1, _), (0, _)]) C dX8_clear_6 (by decide) rfl ?_
  refine z_sub (lv' := [(0, _), (1, _)]) [1, 0] rfl ?_
  have lp7 : ∀ (f : Nat) (j : Nat) (h3 : ZH), (j + f = 8 ∧ h3 (td + 1) = some (zI 8 (nfl fc 0 j 0)) ∧ ∀ a, a ≠ td + 1 → h3 a = g a) → Zc X mX8_clear (zEnd X (fun r hh n' => r = none ∧ (hh td = some (zO 5 [.ref (td + 1), .ref (td + 2), .ref (td + 3), .ref (td + 4), .ref (td + 5), .ref (td + 6), .ref (td + 7), .ref (td + 8), .int (nI 0)]) ∧ hh (td + 1) = some (zI 8 zer) ∧ hh (td + 3) = some (zI 7 zer) ∧ ∀ a, a ≠ td → a ≠ td + 1 → a ≠ td + 3 → hh a = h a) ∧ n' = n) 0 0) 7 [(0, .ref td), (1, .int (nI j))] [] h3 n 0 0 := by
    intro f
    induction f using Nat.strongRecOn with
    | _ f ih =>
      intro j h3 hk3
      obtain ⟨hk3, q1, G3⟩ := hk3
      have g0 := (G3 td (by omega)).trans g9
      refine z_iload_n (pc := 7) C dX8_clear_7 1 rfl ?_
      refine z_bipush (pc := 8) C dX8_clear_8 (nI 8) (by decide) ?_
      first | refine z_icmpgeN (pc := 10) C 26 dX8_clear_10 (by decide) (by omega) (by omega) (fun hc10 => ?_) (fun hc10 => ?_) | refine z_icmp_ge (pc := 10) C 26 dX8_clear_10 (by decide) (fun hc10 => ?_) (fun hc10 => ?_)
      · skip
        refine z_iconst (pc := 26) C dX8_clear_26 (nI 0) (by decide) ?_
        refine z_istore_n (pc := 27) (lv' := [(1, _), (0, _)]) C dX8_clear_27 (by decide) rfl ?_
        refine z_sub (lv' := [(0, _), (1, _)]) [1, 0] rfl ?_
        have lp28 : ∀ (f2 : Nat) (i : Nat) (h4 : ZH), (i + f2 = 7 ∧ h4 (td + 3) = some (zI 7 (nfl fn 0 i 0)) ∧ ∀ a, a ≠ td + 3 → h4 a = h3 a) → Zc X mX8_clear (zEnd X (fun r hh n' => r = none ∧ (hh td = some (zO 5 [.ref (td + 1), .ref (td + 2), .ref (td + 3), .ref (td + 4), .ref (td + 5), .ref (td + 6), .ref (td + 7), .ref (td + 8), .int (nI 0)]) ∧ hh (td + 1) = some (zI 8 zer) ∧ hh (td + 3) = some (zI 7 zer) ∧ ∀ a, a ≠ td → a ≠ td + 1 → a ≠ td + 3 → hh a = h a) ∧ n' = n) 0 0) 28 [(0, .ref td), (1, .int (nI i))] [] h4 n 0 0 := by
          intro f2
          induction f2 using Nat.strongRecOn with
          | _ f2 ih2 =>
            intro i h4 hk4
            obtain ⟨hk4, q3, G4⟩ := hk4
            have l0 := (G4 td (by omega)).trans g0
            refine z_iload_n (pc := 28) C dX8_clear_28 1 rfl ?_
            refine z_bipush (pc := 29) C dX8_clear_29 (nI 7) (by decide) ?_
            first | refine z_icmpgeN (pc := 31) C 47 dX8_clear_31 (by decide) (by omega) (by omega) (fun hc31 => ?_) (fun hc31 => ?_) | refine z_icmp_ge (pc := 31) C 47 dX8_clear_31 (by decide) (fun hc31 => ?_) (fun hc31 => ?_)
            · skip
              refine z_ext (a := td + 1) (N := 8) (g := zer) ((G4 _ (by omega)).trans q1) (fun i hi => if_pos (by omega)) ?_
              refine z_ext (a := td + 3) (N := 7) (g := zer) ((zup_ne (by omega)).trans q3) (fun i hi => if_pos (by omega)) ?_
              refine z_vret (pc := 47) C dX8_clear_47 rfl (Nat.zero_le _) (Nat.zero_le _) ⟨rfl, ?_, rfl⟩
              exact ⟨(zup_ne (by omega)).trans ((zup_ne (by omega)).trans l0), (zup_ne (by omega)).trans (zup_same _ _ _), zup_same _ _ _, fun a a1 a2 a3 => (zup_ne a3).trans ((zup_ne a2).trans ((G4 a a3).trans ((G3 a a2).trans (gG a a1))))⟩
            · skip
              refine z_aload_n (pc := 34) C dX8_clear_34 0 rfl ?_
              refine z_getf (pc := 35) C dX8_clear_35 fX8_18 l0 (by first | rfl | assumption) ?_
              refine z_iload_n (pc := 38) C dX8_clear_38 1 rfl ?_
              refine z_iconst (pc := 39) C dX8_clear_39 (nI 0) (by decide) ?_
              first | refine z_iastN (pc := 40) C dX8_clear_40 q3 (by omega) (by decide) ?_ | refine z_iastI (pc := 40) C dX8_clear_40 q3 (by omega) (by decide) ?_
              first | refine z_iincN (pc := 41) (lv' := [(1, _), (0, _)]) C 1 dX8_clear_41 1 rfl (by decide) (by decide) rfl ?_ | refine z_iinc (pc := 41) (lv' := [(1, _), (0, _)]) C dX8_clear_41 1 rfl _ rfl (by decide) rfl ?_
              refine z_goto (pc := 44) C 28 dX8_clear_44 (by decide) ?_
              refine z_sub (lv' := [(0, _), (1, _)]) [1, 0] rfl ?_
              exact ih2 (f2 - 1) (by omega) (i + 1) _ ⟨by omega, by rw [← nfl_s, Nat.zero_add]; exact zup_same _ _ _, fun a q => (zup_ne q).trans (G4 a q)⟩
        exact lp28 7 0 h3 ⟨rfl, by rw [nfl_0]; exact (G3 _ (by omega)).trans ((gG _ (by omega)).trans c3), fun _ _ => rfl⟩
      · skip
        refine z_aload_n (pc := 13) C dX8_clear_13 0 rfl ?_
        refine z_getf (pc := 14) C dX8_clear_14 fX8_9 g0 (by first | rfl | assumption) ?_
        refine z_iload_n (pc := 17) C dX8_clear_17 1 rfl ?_
        refine z_iconst (pc := 18) C dX8_clear_18 (nI 0) (by decide) ?_
        first | refine z_iastN (pc := 19) C dX8_clear_19 q1 (by omega) (by decide) ?_ | refine z_iastI (pc := 19) C dX8_clear_19 q1 (by omega) (by decide) ?_
        first | refine z_iincN (pc := 20) (lv' := [(1, _), (0, _)]) C 1 dX8_clear_20 1 rfl (by decide) (by decide) rfl ?_ | refine z_iinc (pc := 20) (lv' := [(1, _), (0, _)]) C dX8_clear_20 1 rfl _ rfl (by decide) rfl ?_
        refine z_goto (pc := 23) C 7 dX8_clear_23 (by decide) ?_
        refine z_sub (lv' := [(0, _), (1, _)]) [1, 0] rfl ?_
        exact ih (f - 1) (by omega) (j + 1) _ ⟨by omega, by rw [← nfl_s, Nat.zero_add]; exact zup_same _ _ _, fun a q => (zup_ne q).trans (G3 a q)⟩
  exact lp7 8 0 g ⟨rfl, by rw [nfl_0]; exact (gG _ (by omega)).trans c1, fun _ _ => rfl⟩
