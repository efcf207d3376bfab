def pn (p : Int32) : Nat := p.toInt.toNat
theorem pn_nI {j : Nat} (h : j < 2147483648) : pn (nI j) = j := by unfold pn; rw [nI_toInt (by omega)]; rfl
def wfB (b : Bool) (R : Nat → Nat) : Prop := b = decide (0 < R 1) ∧ (R 1 = 0 → R 3 = 0 ∧ R 4 = 0 ∧ R 5 = 0)
theorem zlt_0 (p : Int32) : zlt p 0 = false := by unfold zlt; exact decide_eq_false (by omega)
theorem wfB_p {b : Bool} {R : Nat → Nat} (h : wfB b R) (p : Int32) : (b && zlt p (R 1)) = zlt p (R 1) := by
  rw [h.1]
  by_cases q : 0 < R 1
  · simp [q]
  · rw [show R 1 = 0 by omega, zlt_0]; simp
theorem wfB_m {b : Bool} {R : Nat → Nat} (h : wfB b R) (p : Int32) : (b && zlt p (R 3)) = zlt p (R 3) := by
  rw [h.1]
  by_cases q : 0 < R 1
  · simp [q]
  · rw [(h.2 (by omega)).1, zlt_0]; simp
theorem wfB_k {b : Bool} {R : Nat → Nat} (h : wfB b R) (p : Int32) : (b && zlt p (R 4)) = zlt p (R 4) := by
  rw [h.1]
  by_cases q : 0 < R 1
  · simp [q]
  · rw [(h.2 (by omega)).2.1, zlt_0]; simp
theorem wfB_s {b : Bool} {R : Nat → Nat} (h : wfB b R) (p : Int32) : (b && zlt p (R 5)) = zlt p (R 5) := by
  rw [h.1]
  by_cases q : 0 < R 1
  · simp [q]
  · rw [(h.2 (by omega)).2.2, zlt_0]; simp
/-- the model's numbers behind a call that ends with trouble t -/
def mv (v : Nat → Int32) (t : Int32) : Nat → Int32 := upd (upd v 0 0) 11 t
theorem upd_upd (v : Nat → Int32) (k : Nat) (x y : Int32) : upd (upd v k x) k y = upd v k y := by
  funext j
  by_cases q : j = k <;> simp [upd, q]
theorem mz0 {h h1 : ZH} {v : Nat → Int32} {t : Int32} (hg : zup h 1063 (zO 8 (mfs (upd (upd v 0 0) 11 0))) = h1) (ht : t = 0) : h1 = zup h 1063 (zO 8 (mfs (mv v t))) := by rw [← hg, ht]; rfl
theorem mz1 {h h1 : ZH} {v : Nat → Int32} {t w : Int32} (hg : zup h 1063 (zO 8 (mfs (upd (upd v 0 0) 11 0))) = h1) (ht : t = w) : zup h1 1063 (zO 8 (mfs (upd (upd (upd v 0 0) 11 0) 11 w))) = zup h 1063 (zO 8 (mfs (mv v t))) := by rw [← hg, ht, zup_zup, upd_upd]; rfl
theorem zbit1 (a p : Nat) : nI (a >>> p &&& 1) = zb (a.testBit p) := by
  have h : a >>> p &&& 1 = (a >>> p) % 2 := Nat.and_one_is_mod _
  cases e : a.testBit p with
  | true => rw [(zbit a p).mpr e]; rfl
  | false =>
    have : ¬ a >>> p &&& 1 = 1 := fun q => by rw [(zbit a p).mp q] at e; cases e
    rw [show a >>> p &&& 1 = 0 by omega]; rfl
def sCrw (R S : Nat → Nat) (p : Nat) : Bool := decide (R (9 + p) < sone (sKat R S p) 8)
def smost (L : Nat → Nat) : Nat → Option Nat
  | 0 => none
  | m + 1 => match smost L m with
    | none => some m
    | some b => if L b < L m then some m else some b
theorem smost_lt (L : Nat → Nat) : ∀ m k, smost L m = some k → k < m := by
  intro m
  induction m with
  | zero => intro k h; cases h
  | succ m ih =>
    intro k h
    rw [smost] at h
    split at h
    · cases h; omega
    · rename_i b hb
      split at h
      · cases h; omega
      · cases h; have := ih _ hb; omega
def snr (R S : Nat → Nat) (a : Nat) : Nat → Nat
  | 0 => 0
  | p + 1 => snr R S a p ||| (if a.testBit p then sKat R S p else 0)
def srm (R S : Nat → Nat) : Nat → Nat
  | 0 => 0
  | p + 1 => srm R S p + (if (S 38).testBit p || sCrw R S p then 0 else R (9 + p) - sone (sKat R S p) 8)
def sfst (P : Nat → Bool) : Nat → Nat → Option Nat
  | 0, _ => none
  | f + 1, q => if P q then some q else sfst P f (q + 1)
def sNxt (R : Nat → Nat) (here p : Nat) : Option Nat := match sStp R here p 127 with
  | some (d + 1) => sfst (fun q => (R (23 + here)).testBit q && decide (sStp R q p 127 = some d)) (R 1) 0
  | _ => none
def scut (R : Nat → Nat) (here p : Nat) : Nat → Option Nat
  | 0 => none
  | a + 1 => if a.testBit here || a.testBit p || (match scut R here p a with | some x => decide (sone x 8 ≤ sone a 8) | none => false) then scut R here p a else if sStp R here p (a ^^^ 127) = none then some a else scut R here p a
theorem scut_lt (R : Nat → Nat) (here p : Nat) : ∀ a k, scut R here p a = some k → k < a := by
  intro a
  induction a with
  | zero => intro k h; cases h
  | succ a ih =>
    intro k h
    simp only [scut] at h
    repeat' split at h
    all_goals first
      | (have := ih _ h; omega)
      | (cases h; omega)
def sprt (R : Nat → Nat) : Nat → Nat × Nat
  | 0 => (0, 0)
  | p + 1 => ((sprt R p).1 + (if (sprt R p).2.testBit p then 0 else 1), (sprt R p).2 ||| sRch R p 127)
theorem srch_lt {R : Nat → Nat} (hR : wfR R) (op : Nat) : ∀ f a, a < 128 → srch R op f a < 128 := by
  intro f
  induction f with
  | zero => intro a h; exact h
  | succ f ih => intro a h; exact ih _ (sSpr_lt hR h op)
theorem sprt_lt {R : Nat → Nat} (hR : wfR R) : ∀ p, p ≤ 7 → (sprt R p).2 < 128 ∧ (sprt R p).1 ≤ p := by
  intro p
  induction p with
  | zero => intro _; exact ⟨(by decide : 0 < 128), Nat.le_refl _⟩
  | succ p ih =>
    intro hp
    obtain ⟨h1, h2⟩ := ih (by omega)
    refine ⟨Nat.or_lt_two_pow (n := 7) h1 (srch_lt hR _ _ _ (s1_lt (by omega))), ?_⟩
    show _ + _ ≤ _
    split <;> omega
def aPlace (R S : Nat → Nat) (p w : Int32) : Int32 × Int32 := if zlt p (R 1) && zlt w 6 then ((match pn w with
  | 0 => zb ((S 38).testBit (pn p))
  | 1 => nI (R (9 + pn p))
  | 2 => nI (R (23 + pn p))
  | 3 => nI (sMen R S (pn p))
  | 4 => nI (sKat R S (pn p))
  | _ => zb (sCrw R S (pn p))), 0) else (-1, 1)
def aMan (R S : Nat → Nat) (m w : Int32) : Int32 × Int32 := if zlt m (R 3) && zlt w 5 then ((match pn w with
  | 0 => nI (R (30 + pn m))
  | 1 => nI (S (8 * pn m))
  | 2 => nI (sFol R S (pn m))
  | 3 => nI (sWor R (sFol R S (pn m)))
  | _ => nI (sSho R (pn m))), 0) else (-1, 1)
def aKill (R S : Nat → Nat) (k w : Int32) : Int32 × Int32 := if zlt k (R 4) && zlt w 6 then ((match pn w with
  | 0 => nI (R (34 + 4 * pn k))
  | 1 => nI (S (32 + pn k))
  | 2 => nI (R (34 + 4 * pn k + 1))
  | 3 => nI (R (34 + 4 * pn k + 2))
  | 4 => zo (sstd R S (pn k))
  | _ => nI (sbeh R (S (32 + pn k)) (R (34 + 4 * pn k + 1)))), 0) else (-1, 1)
theorem swhy_tt : swhy true true = 0 := rfl
def aW (a b : Bool) (x : Int32) : Int32 × Int32 := if swhy a b = 0 then (x, 0) else (-1, nI (swhy a b))
def aTrail (S : Nat → Nat) (R : Nat → Nat) (m g : Int32) : Int32 × Int32 := aW (zlt m (R 3)) (zlt g 8) (nI (S (8 * pn m + pn g)))
def aF (R : Nat → Nat) (x : Int32) : Int32 × Int32 := if 0 < R 1 then (x, 0) else (-1, 1)
def aCrow (R S : Nat → Nat) : Int32 × Int32 := aF R (nI (sbits (sCrw R S) (R 1)))
def aLead (R S : Nat → Nat) : Int32 × Int32 := aF R (zo (smost (fun m => sone (sFol R S m) 8) (R 3)))
def aRoom (R S : Nat → Nat) : Int32 × Int32 := aF R (nI (srm R S (R 1)))
def aMid (R : Nat → Nat) : Int32 × Int32 := aF R (nI (sask (fun p => sfar R p (R 1)) (R 1)))
def aParts (R : Nat → Nat) : Int32 × Int32 := aF R (nI (sprt R (R 1)).1)
def aM (R : Nat → Nat) (m : Int32) (x : Nat → Int32) : Int32 × Int32 := if zlt m (R 3) then (x (pn m), 0) else (-1, 1)
def aMP (R : Nat → Nat) (m p : Int32) (x : Nat → Nat → Int32) : Int32 × Int32 := if zlt m (R 3) && zlt p (R 1) then (x (pn m) (pn p), 0) else (-1, 1)
def aNear (R S : Nat → Nat) (m : Int32) : Int32 × Int32 := aM R m (fun m => nI (snr R S (R (23 + S (8 * m)) ||| 1 <<< S (8 * m)) (R 1)))
def aSafe (R S : Nat → Nat) (m : Int32) : Int32 × Int32 := aM R m (fun m => nI (sRch R (S (8 * m)) (sSee R S m ^^^ 127)))
def aApart (R : Nat → Nat) (p q : Int32) : Int32 × Int32 := if zlt p (R 1) && zlt q (R 1) then (zo (sStp R (pn p) (pn q) 127), 0) else (-1, 1)
def aNext (R S : Nat → Nat) (m p : Int32) : Int32 × Int32 := aMP R m p (fun m p => zo (sNxt R (S (8 * m)) p))
def aUns (R S : Nat → Nat) (m p : Int32) : Int32 × Int32 := aMP R m p (fun m p => zo (sStp R (S (8 * m)) p (sSee R S m ^^^ 127)))
def aCut (R S : Nat → Nat) (m p : Int32) : Int32 × Int32 := aMP R m p (fun m p => zo (scut R (S (8 * m)) p (1 <<< R 1)))

set_option maxRecDepth 20000 in
set_option maxHeartbeats 1000000 in
theorem tX12_place {h : ZH} {v : Nat → Int32} {R S : Nat → Nat} {b : Bool} {p w : Int32} (hM : h 1063 = some (zO 8 (mfs v))) (hA : h 1066 = some (zI 241 R)) (hB : h 1070 = some (zI 40 S)) (hR : wfR R) (hS : wfS R S) (hF : v 14 = zb b) (hb : wfB b R) : ZD mX12_place 5 [.ref 1063, .int p, .int w] h (some (.int (aPlace R S p w).1)) (zup h 1063 (zO 8 (mfs (mv v (aPlace R S p w).2)))) := by
  intro n
  obtain ⟨w1, w3, w4, w5, w0, wP, wM, wK, wX⟩ := id hR
  obtain ⟨wT, wL, wB⟩ := id hS
  refine z_enter (lv := [(0, _), (1, _), (2, _)]) (by decide) (Nat.le_of_ble_eq_true rfl) rfl (fun X C => ?_)
  refine z_aload_n (pc := 0) C dX12_place_0 0 rfl ?_
  refine z_cV0 (pc := 1) mX12_good C [] dX12_place_1 lX12_167 mtX12_good (tX12_good (by first | assumption | omega)) (by assumption) rfl rfl (by decide) (Nat.le_of_ble_eq_true rfl) (Nat.zero_le _) (Nat.zero_le _) ?_
  have hM1 : zup h 1063 (zO 8 (mfs (upd (upd v 0 0) 11 0))) 1063 = some (zO 8 (mfs (upd (upd v 0 0) 11 0))) := zup_same _ _ _
  have hA1 : zup h 1063 (zO 8 (mfs (upd (upd v 0 0) 11 0))) 1066 = some (zI 241 R) := (zup_ne (by decide)).trans hA
  have hB1 : zup h 1063 (zO 8 (mfs (upd (upd v 0 0) 11 0))) 1070 = some (zI 40 S) := (zup_ne (by decide)).trans hB
  have hF1 : upd (upd v 0 0) 11 0 14 = zb b := hF
  generalize hg : zup h 1063 (zO 8 (mfs (upd (upd v 0 0) 11 0))) = h1 at hM1 hA1 hB1 ⊢
  refine z_aload_n (pc := 4) C dX12_place_4 0 rfl ?_
  refine z_iload_n (pc := 5) C dX12_place_5 1 rfl ?_
  refine z_cV1 (pc := 6) mX12_isPlace C [_] dX12_place_6 lX12_279 mtX12_isPlace (tX12_isPlace (by first | assumption | omega) (by first | assumption | omega) (by first | assumption | omega) (by first | assumption | omega)) (by assumption) rfl rfl (by decide) (Nat.le_of_ble_eq_true rfl) (Nat.zero_le _) (Nat.zero_le _) ?_
  rw [wfB_p hb p]
  first | refine z_ifeqB (pc := 9) C 21 dX12_place_9 (by decide) (fun hc9 => ?_) (fun hc9 => ?_) | refine z_ifeqN (pc := 9) C 21 dX12_place_9 (by decide) (by omega) (fun hc9 => ?_) (fun hc9 => ?_) | refine z_if_eq (pc := 9) C 21 dX12_place_9 (by decide) (fun hc9 => ?_) (fun hc9 => ?_)
  · skip
    refine z_aload_n (pc := 21) C dX12_place_21 0 rfl ?_
    refine z_iconst (pc := 22) C dX12_place_22 (nI 1) (by decide) ?_
    refine z_cV1 (pc := 23) mX12_no C [_] dX12_place_23 lX12_170 mtX12_no (tX12_no (by first | assumption | omega)) (by assumption) rfl rfl (by decide) (Nat.le_of_ble_eq_true rfl) (Nat.zero_le _) (Nat.zero_le _) ?_
    refine z_iret (pc := 26) C dX12_place_26 rfl (Nat.zero_le _) (Nat.zero_le _) ⟨?_, ?_, rfl⟩
    · simp [aPlace, *]
    · first | exact mz0 hg (by simp [aPlace, *]) | exact mz1 hg (by simp [aPlace, *] <;> rfl)
  · skip
    refine z_iload_n (pc := 12) C dX12_place_12 2 rfl ?_
    refine z_iconst (pc := 13) C dX12_place_13 (nI 0) (by decide) ?_
    refine z_iconst (pc := 14) C dX12_place_14 (nI 5) (by decide) ?_
    refine z_cS1 (pc := 15) mX12_in C [_, _, _] dX12_place_15 lX12_146 mtX12_in tX12_in rfl rfl (by decide) (Nat.le_of_ble_eq_true rfl) (Nat.zero_le _) (Nat.zero_le _) ?_
    rw [show decide (nI 0 ≤ w ∧ w ≤ nI 5) = zlt w 6 from zlt_le2 w (by omega)]
    first | refine z_ifneB (pc := 18) C 27 dX12_place_18 (by decide) (fun hc18 => ?_) (fun hc18 => ?_) | refine z_ifneN (pc := 18) C 27 dX12_place_18 (by decide) (by omega) (fun hc18 => ?_) (fun hc18 => ?_) | refine z_if_ne (pc := 18) C 27 dX12_place_18 (by decide) (fun hc18 => ?_) (fun hc18 => ?_)
    · skip
      obtain ⟨j, hj, rfl⟩ := zlt_of (by omega) hc9
      have pj := pn_nI (j := j) (by omega)
      obtain ⟨q, hq, rfl⟩ := zlt_of (by omega) hc18
      have pq := pn_nI (j := q) (by omega)
      have ej := wP j hj
      refine z_iload_n (pc := 27) C dX12_place_27 2 rfl ?_
      rcases (show q = 0 ∨ q = 1 ∨ q = 2 ∨ q = 3 ∨ q = 4 ∨ q = 5 by omega) with rfl | rfl | rfl | rfl | rfl | rfl
      · skip
        refine z_tblIn (pc := 28) C 64 dX12_place_28 (by decide) (by decide) rfl (by decide) ?_
        refine z_aload_n (pc := 64) C dX12_place_64 0 rfl ?_
        refine z_getf (pc := 65) C dX12_place_65 fX12_32 (by assumption) (by first | rfl | assumption) ?_
        refine z_bipush (pc := 68) C dX12_place_68 (nI 38) (by decide) ?_
        first | refine z_ialdN (pc := 70) C dX12_place_70 (by assumption) (by omega) (by decide) ?_ | refine z_ialdI (pc := 70) C dX12_place_70 (by assumption) (by omega) (by decide) ?_
        refine z_iload_n (pc := 71) C dX12_place_71 1 rfl ?_
        first | refine z_ishrN (pc := 72) C dX12_place_72 (by omega) (by omega) ?_ | refine z_ishr (pc := 72) C dX12_place_72 ?_
        refine z_iconst (pc := 73) C dX12_place_73 (nI 1) (by decide) ?_
        first | refine z_iandN (pc := 74) C dX12_place_74 ?_ | refine z_iand (pc := 74) C dX12_place_74 ?_
        refine z_iret (pc := 75) C dX12_place_75 rfl (Nat.zero_le _) (Nat.zero_le _) ⟨?_, ?_, rfl⟩
        · rw [zbit1]; simp [aPlace, *]
        · first | exact mz0 hg (by simp [aPlace, *]) | exact mz1 hg (by simp [aPlace, *] <;> rfl)
      · skip
        refine z_tblIn (pc := 28) C 76 dX12_place_28 (by decide) (by decide) rfl (by decide) ?_
        refine z_aload_n (pc := 76) C dX12_place_76 0 rfl ?_
        refine z_getf (pc := 77) C dX12_place_77 fX12_20 (by assumption) (by first | rfl | assumption) ?_
        refine z_bipush (pc := 80) C dX12_place_80 (nI 9) (by decide) ?_
        refine z_iload_n (pc := 82) C dX12_place_82 1 rfl ?_
        first | refine z_iaddN (pc := 83) C dX12_place_83 ?_ | refine z_iadd (pc := 83) C dX12_place_83 ?_
        first | refine z_ialdN (pc := 84) C dX12_place_84 (by assumption) (by omega) (by decide) ?_ | refine z_ialdI (pc := 84) C dX12_place_84 (by assumption) (by omega) (by decide) ?_
        refine z_iret (pc := 85) C dX12_place_85 rfl (Nat.zero_le _) (Nat.zero_le _) ⟨?_, ?_, rfl⟩
        · simp [aPlace, *]
        · first | exact mz0 hg (by simp [aPlace, *]) | exact mz1 hg (by simp [aPlace, *] <;> rfl)
      · skip
        refine z_tblIn (pc := 28) C 86 dX12_place_28 (by decide) (by decide) rfl (by decide) ?_
        refine z_aload_n (pc := 86) C dX12_place_86 0 rfl ?_
        refine z_getf (pc := 87) C dX12_place_87 fX12_20 (by assumption) (by first | rfl | assumption) ?_
        refine z_bipush (pc := 90) C dX12_place_90 (nI 23) (by decide) ?_
        refine z_iload_n (pc := 92) C dX12_place_92 1 rfl ?_
        first | refine z_iaddN (pc := 93) C dX12_place_93 ?_ | refine z_iadd (pc := 93) C dX12_place_93 ?_
        first | refine z_ialdN (pc := 94) C dX12_place_94 (by assumption) (by omega) (by decide) ?_ | refine z_ialdI (pc := 94) C dX12_place_94 (by assumption) (by omega) (by decide) ?_
        refine z_iret (pc := 95) C dX12_place_95 rfl (Nat.zero_le _) (Nat.zero_le _) ⟨?_, ?_, rfl⟩
        · simp [aPlace, *]
        · first | exact mz0 hg (by simp [aPlace, *]) | exact mz1 hg (by simp [aPlace, *] <;> rfl)
      · skip
        refine z_tblIn (pc := 28) C 96 dX12_place_28 (by decide) (by decide) rfl (by decide) ?_
        refine z_aload_n (pc := 96) C dX12_place_96 0 rfl ?_
        refine z_iload_n (pc := 97) C dX12_place_97 1 rfl ?_
        refine z_cV1 (pc := 98) mX12_menAt C [_] dX12_place_98 lX12_282 mtX12_menAt (tX12_menAt (by first | assumption | omega) (by first | assumption | omega) (by first | assumption | omega) (by first | assumption | omega) (by first | assumption | omega) (by first | assumption | omega)) (by assumption) rfl rfl (by decide) (Nat.le_of_ble_eq_true rfl) (Nat.zero_le _) (Nat.zero_le _) ?_
        refine z_iret (pc := 101) C dX12_place_101 rfl (Nat.zero_le _) (Nat.zero_le _) ⟨?_, ?_, rfl⟩
        · simp [aPlace, *]
        · first | exact mz0 hg (by simp [aPlace, *]) | exact mz1 hg (by simp [aPlace, *] <;> rfl)
      · skip
        refine z_tblIn (pc := 28) C 102 dX12_place_28 (by decide) (by decide) rfl (by decide) ?_
        refine z_aload_n (pc := 102) C dX12_place_102 0 rfl ?_
        refine z_iload_n (pc := 103) C dX12_place_103 1 rfl ?_
        refine z_cV1 (pc := 104) mX12_killsAt C [_] dX12_place_104 lX12_273 mtX12_killsAt (tX12_killsAt (by first | assumption | omega) (by first | assumption | omega) (by first | assumption | omega) (by first | assumption | omega) (by first | assumption | omega) (by first | assumption | omega)) (by assumption) rfl rfl (by decide) (Nat.le_of_ble_eq_true rfl) (Nat.zero_le _) (Nat.zero_le _) ?_
        refine z_iret (pc := 107) C dX12_place_107 rfl (Nat.zero_le _) (Nat.zero_le _) ⟨?_, ?_, rfl⟩
        · simp [aPlace, *]
        · first | exact mz0 hg (by simp [aPlace, *]) | exact mz1 hg (by simp [aPlace, *] <;> rfl)
      · skip
        refine z_tblOut (pc := 28) C 108 dX12_place_28 (Or.inr (by decide)) (by decide) ?_
        refine z_aload_n (pc := 108) C dX12_place_108 0 rfl ?_
        refine z_iload_n (pc := 109) C dX12_place_109 1 rfl ?_
        refine z_cV1 (pc := 110) mX12_isCrowded C [_] dX12_place_110 lX12_285 mtX12_isCrowded (tX12_isCrowded (by first | assumption | omega) (by first | assumption | omega) (by first | assumption | omega) (by first | assumption | omega) (by first | assumption | omega) (by first | assumption | omega)) (by assumption) rfl rfl (by decide) (Nat.le_of_ble_eq_true rfl) (Nat.zero_le _) (Nat.zero_le _) ?_
        first | refine z_ifeqB (pc := 113) C 120 dX12_place_113 (by decide) (fun hc113 => ?_) (fun hc113 => ?_) | refine z_ifeqN (pc := 113) C 120 dX12_place_113 (by decide) (by omega) (fun hc113 => ?_) (fun hc113 => ?_) | refine z_if_eq (pc := 113) C 120 dX12_place_113 (by decide) (fun hc113 => ?_) (fun hc113 => ?_)
        · skip
          refine z_iconst (pc := 120) C dX12_place_120 (nI 0) (by decide) ?_
          refine z_iret (pc := 121) C dX12_place_121 rfl (Nat.zero_le _) (Nat.zero_le _) ⟨?_, ?_, rfl⟩
          · simp [aPlace, sCrw, *] <;> rfl
          · first | exact mz0 hg (by simp [aPlace, *]) | exact mz1 hg (by simp [aPlace, *] <;> rfl)
        · skip
          refine z_iconst (pc := 116) C dX12_place_116 (nI 1) (by decide) ?_
          refine z_goto (pc := 117) C 121 dX12_place_117 (by decide) ?_
          refine z_iret (pc := 121) C dX12_place_121 rfl (Nat.zero_le _) (Nat.zero_le _) ⟨?_, ?_, rfl⟩
          · simp [aPlace, sCrw, *] <;> rfl
          · first | exact mz0 hg (by simp [aPlace, *]) | exact mz1 hg (by simp [aPlace, *] <;> rfl)
    · skip
      refine z_aload_n (pc := 21) C dX12_place_21 0 rfl ?_
      refine z_iconst (pc := 22) C dX12_place_22 (nI 1) (by decide) ?_
      refine z_cV1 (pc := 23) mX12_no C [_] dX12_place_23 lX12_170 mtX12_no (tX12_no (by first | assumption | omega)) (by assumption) rfl rfl (by decide) (Nat.le_of_ble_eq_true rfl) (Nat.zero_le _) (Nat.zero_le _) ?_
      refine z_iret (pc := 26) C dX12_place_26 rfl (Nat.zero_le _) (Nat.zero_le _) ⟨?_, ?_, rfl⟩
      · simp [aPlace, *]
      · first | exact mz0 hg (by simp [aPlace, *]) | exact mz1 hg (by simp [aPlace, *] <;> rfl)

set_option maxRecDepth 20000 in
set_option maxHeartbeats 1000000 in
theorem tX12_man {h : ZH} {v : Nat → Int32} {R S : Nat → Nat} {b : Bool} {m w : Int32} (hM : h 1063 = some (zO 8 (mfs v))) (hA : h 1066 = some (zI 241 R)) (hB : h 1070 = some (zI 40 S)) (hR : wfR R) (hS : wfS R S) (hF : v 14 = zb b) (hb : wfB b R) : ZD mX12_man 2 [.ref 1063, .int m, .int w] h (some (.int (aMan R S m w).1)) (zup h 1063 (zO 8 (mfs (mv v (aMan R S m w).2)))) := by
  intro n
  obtain ⟨w1, w3, w4, w5, w0, wP, wM, wK, wX⟩ := id hR
  obtain ⟨wT, wL, wB⟩ := id hS
  refine z_enter (lv := [(0, _), (1, _), (2, _)]) (by decide) (Nat.le_of_ble_eq_true rfl) rfl (fun X C => ?_)
  refine z_aload_n (pc := 0) C dX12_man_0 0 rfl ?_
  refine z_cV0 (pc := 1) mX12_good C [] dX12_man_1 lX12_167 mtX12_good (tX12_good (by first | assumption | omega)) (by assumption) rfl rfl (by decide) (Nat.le_of_ble_eq_true rfl) (Nat.zero_le _) (Nat.zero_le _) ?_
  have hM1 : zup h 1063 (zO 8 (mfs (upd (upd v 0 0) 11 0))) 1063 = some (zO 8 (mfs (upd (upd v 0 0) 11 0))) := zup_same _ _ _
  have hA1 : zup h 1063 (zO 8 (mfs (upd (upd v 0 0) 11 0))) 1066 = some (zI 241 R) := (zup_ne (by decide)).trans hA
  have hB1 : zup h 1063 (zO 8 (mfs (upd (upd v 0 0) 11 0))) 1070 = some (zI 40 S) := (zup_ne (by decide)).trans hB
  have hF1 : upd (upd v 0 0) 11 0 14 = zb b := hF
  generalize hg : zup h 1063 (zO 8 (mfs (upd (upd v 0 0) 11 0))) = h1 at hM1 hA1 hB1 ⊢
  refine z_aload_n (pc := 4) C dX12_man_4 0 rfl ?_
  refine z_iload_n (pc := 5) C dX12_man_5 1 rfl ?_
  refine z_cV1 (pc := 6) mX12_isMan C [_] dX12_man_6 lX12_288 mtX12_isMan (tX12_isMan (by first | assumption | omega) (by first | assumption | omega) (by first | assumption | omega) (by first | assumption | omega)) (by assumption) rfl rfl (by decide) (Nat.le_of_ble_eq_true rfl) (Nat.zero_le _) (Nat.zero_le _) ?_
  rw [wfB_m hb m]
  first | refine z_ifeqB (pc := 9) C 21 dX12_man_9 (by decide) (fun hc9 => ?_) (fun hc9 => ?_) | refine z_ifeqN (pc := 9) C 21 dX12_man_9 (by decide) (by omega) (fun hc9 => ?_) (fun hc9 => ?_) | refine z_if_eq (pc := 9) C 21 dX12_man_9 (by decide) (fun hc9 => ?_) (fun hc9 => ?_)
  · skip
    refine z_aload_n (pc := 21) C dX12_man_21 0 rfl ?_
    refine z_iconst (pc := 22) C dX12_man_22 (nI 1) (by decide) ?_
    refine z_cV1 (pc := 23) mX12_no C [_] dX12_man_23 lX12_170 mtX12_no (tX12_no (by first | assumption | omega)) (by assumption) rfl rfl (by decide) (Nat.le_of_ble_eq_true rfl) (Nat.zero_le _) (Nat.zero_le _) ?_
    refine z_iret (pc := 26) C dX12_man_26 rfl (Nat.zero_le _) (Nat.zero_le _) ⟨?_, ?_, rfl⟩
    · simp [aMan, *]
    · first | exact mz0 hg (by simp [aMan, *]) | exact mz1 hg (by simp [aMan, *] <;> rfl)
  · skip
    refine z_iload_n (pc := 12) C dX12_man_12 2 rfl ?_
    refine z_iconst (pc := 13) C dX12_man_13 (nI 0) (by decide) ?_
    refine z_iconst (pc := 14) C dX12_man_14 (nI 4) (by decide) ?_
    refine z_cS1 (pc := 15) mX12_in C [_, _, _] dX12_man_15 lX12_146 mtX12_in tX12_in rfl rfl (by decide) (Nat.le_of_ble_eq_true rfl) (Nat.zero_le _) (Nat.zero_le _) ?_
    rw [show decide (nI 0 ≤ w ∧ w ≤ nI 4) = zlt w 5 from zlt_le2 w (by omega)]
    first | refine z_ifneB (pc := 18) C 27 dX12_man_18 (by decide) (fun hc18 => ?_) (fun hc18 => ?_) | refine z_ifneN (pc := 18) C 27 dX12_man_18 (by decide) (by omega) (fun hc18 => ?_) (fun hc18 => ?_) | refine z_if_ne (pc := 18) C 27 dX12_man_18 (by decide) (fun hc18 => ?_) (fun hc18 => ?_)
    · skip
      obtain ⟨j, hj, rfl⟩ := zlt_of (by omega) hc9
      have pj := pn_nI (j := j) (by omega)
      obtain ⟨q, hq, rfl⟩ := zlt_of (by omega) hc18
      have pq := pn_nI (j := q) (by omega)
      have ej := wM j hj
      have el : sFol R S j < 128 := sbits_lt7 _ (by omega)
      refine z_iload_n (pc := 27) C dX12_man_27 2 rfl ?_
      rcases (show q = 0 ∨ q = 1 ∨ q = 2 ∨ q = 3 ∨ q = 4 by omega) with rfl | rfl | rfl | rfl | rfl
      · skip
        refine z_tblIn (pc := 28) C 60 dX12_man_28 (by decide) (by decide) rfl (by decide) ?_
        refine z_aload_n (pc := 60) C dX12_man_60 0 rfl ?_
        refine z_getf (pc := 61) C dX12_man_61 fX12_20 (by assumption) (by first | rfl | assumption) ?_
        refine z_bipush (pc := 64) C dX12_man_64 (nI 30) (by decide) ?_
        refine z_iload_n (pc := 66) C dX12_man_66 1 rfl ?_
        first | refine z_iaddN (pc := 67) C dX12_man_67 ?_ | refine z_iadd (pc := 67) C dX12_man_67 ?_
        first | refine z_ialdN (pc := 68) C dX12_man_68 (by assumption) (by omega) (by decide) ?_ | refine z_ialdI (pc := 68) C dX12_man_68 (by assumption) (by omega) (by decide) ?_
        refine z_iret (pc := 69) C dX12_man_69 rfl (Nat.zero_le _) (Nat.zero_le _) ⟨?_, ?_, rfl⟩
        · simp [aMan, *]
        · first | exact mz0 hg (by simp [aMan, *]) | exact mz1 hg (by simp [aMan, *] <;> rfl)
      · skip
        refine z_tblIn (pc := 28) C 70 dX12_man_28 (by decide) (by decide) rfl (by decide) ?_
        refine z_aload_n (pc := 70) C dX12_man_70 0 rfl ?_
        refine z_getf (pc := 71) C dX12_man_71 fX12_32 (by assumption) (by first | rfl | assumption) ?_
        refine z_bipush (pc := 74) C dX12_man_74 (nI 8) (by decide) ?_
        refine z_iload_n (pc := 76) C dX12_man_76 1 rfl ?_
        first | refine z_imulN (pc := 77) C dX12_man_77 ?_ | refine z_imul (pc := 77) C dX12_man_77 ?_
        first | refine z_ialdN (pc := 78) C dX12_man_78 (by assumption) (by omega) (by decide) ?_ | refine z_ialdI (pc := 78) C dX12_man_78 (by assumption) (by omega) (by decide) ?_
        refine z_iret (pc := 79) C dX12_man_79 rfl (Nat.zero_le _) (Nat.zero_le _) ⟨?_, ?_, rfl⟩
        · simp [aMan, *]
        · first | exact mz0 hg (by simp [aMan, *]) | exact mz1 hg (by simp [aMan, *] <;> rfl)
      · skip
        refine z_tblIn (pc := 28) C 80 dX12_man_28 (by decide) (by decide) rfl (by decide) ?_
        refine z_aload_n (pc := 80) C dX12_man_80 0 rfl ?_
        refine z_iload_n (pc := 81) C dX12_man_81 1 rfl ?_
        refine z_cV1 (pc := 82) mX12_followersOf C [_] dX12_man_82 lX12_291 mtX12_followersOf (tX12_followersOf (by first | assumption | omega) (by first | assumption | omega) (by first | assumption | omega) (by first | assumption | omega) (by first | assumption | omega) (by first | assumption | omega)) (by assumption) rfl rfl (by decide) (Nat.le_of_ble_eq_true rfl) (Nat.zero_le _) (Nat.zero_le _) ?_
        refine z_iret (pc := 85) C dX12_man_85 rfl (Nat.zero_le _) (Nat.zero_le _) ⟨?_, ?_, rfl⟩
        · simp [aMan, *]
        · first | exact mz0 hg (by simp [aMan, *]) | exact mz1 hg (by simp [aMan, *] <;> rfl)
      · skip
        refine z_tblIn (pc := 28) C 86 dX12_man_28 (by decide) (by decide) rfl (by decide) ?_
        refine z_aload_n (pc := 86) C dX12_man_86 0 rfl ?_
        refine z_aload_n (pc := 87) C dX12_man_87 0 rfl ?_
        refine z_iload_n (pc := 88) C dX12_man_88 1 rfl ?_
        refine z_cV1 (pc := 89) mX12_followersOf C [_] dX12_man_89 lX12_291 mtX12_followersOf (tX12_followersOf (by first | assumption | omega) (by first | assumption | omega) (by first | assumption | omega) (by first | assumption | omega) (by first | assumption | omega) (by first | assumption | omega)) (by assumption) rfl rfl (by decide) (Nat.le_of_ble_eq_true rfl) (Nat.zero_le _) (Nat.zero_le _) ?_
        refine z_cV1 (pc := 92) mX12_worthOf C [_] dX12_man_92 lX12_294 mtX12_worthOf (tX12_worthOf (by first | assumption | omega) (by first | assumption | omega) (by first | assumption | omega) (by first | assumption | omega)) (by assumption) rfl rfl (by decide) (Nat.le_of_ble_eq_true rfl) (Nat.zero_le _) (Nat.zero_le _) ?_
        refine z_iret (pc := 95) C dX12_man_95 rfl (Nat.zero_le _) (Nat.zero_le _) ⟨?_, ?_, rfl⟩
        · simp [aMan, *]
        · first | exact mz0 hg (by simp [aMan, *]) | exact mz1 hg (by simp [aMan, *] <;> rfl)
      · skip
        refine z_tblOut (pc := 28) C 96 dX12_man_28 (Or.inr (by decide)) (by decide) ?_
        refine z_aload_n (pc := 96) C dX12_man_96 0 rfl ?_
        refine z_iload_n (pc := 97) C dX12_man_97 1 rfl ?_
        refine z_cV1 (pc := 98) mX12_shotBy C [_] dX12_man_98 lX12_297 mtX12_shotBy (tX12_shotBy (by first | assumption | omega) (by first | assumption | omega) (by first | assumption | omega) (by first | assumption | omega)) (by assumption) rfl rfl (by decide) (Nat.le_of_ble_eq_true rfl) (Nat.zero_le _) (Nat.zero_le _) ?_
        refine z_iret (pc := 101) C dX12_man_101 rfl (Nat.zero_le _) (Nat.zero_le _) ⟨?_, ?_, rfl⟩
        · simp [aMan, *]
        · first | exact mz0 hg (by simp [aMan, *]) | exact mz1 hg (by simp [aMan, *] <;> rfl)
    · skip
      refine z_aload_n (pc := 21) C dX12_man_21 0 rfl ?_
      refine z_iconst (pc := 22) C dX12_man_22 (nI 1) (by decide) ?_
      refine z_cV1 (pc := 23) mX12_no C [_] dX12_man_23 lX12_170 mtX12_no (tX12_no (by first | assumption | omega)) (by assumption) rfl rfl (by decide) (Nat.le_of_ble_eq_true rfl) (Nat.zero_le _) (Nat.zero_le _) ?_
      refine z_iret (pc := 26) C dX12_man_26 rfl (Nat.zero_le _) (Nat.zero_le _) ⟨?_, ?_, rfl⟩
      · simp [aMan, *]
      · first | exact mz0 hg (by simp [aMan, *]) | exact mz1 hg (by simp [aMan, *] <;> rfl)

set_option maxRecDepth 20000 in
set_option maxHeartbeats 1000000 in
theorem tX12_kill {h : ZH} {v : Nat → Int32} {R S : Nat → Nat} {b : Bool} {k w : Int32} (hM : h 1063 = some (zO 8 (mfs v))) (hA : h 1066 = some (zI 241 R)) (hB : h 1070 = some (zI 40 S)) (hR : wfR R) (hS : wfS R S) (hF : v 14 = zb b) (hb : wfB b R) : ZD mX12_kill 3 [.ref 1063, .int k, .int w] h (some (.int (aKill R S k w).1)) (zup h 1063 (zO 8 (mfs (mv v (aKill R S k w).2)))) := by
  intro n
  obtain ⟨w1, w3, w4, w5, w0, wP, wM, wK, wX⟩ := id hR
  obtain ⟨wT, wL, wB⟩ := id hS
  refine z_enter (lv := [(0, _), (1, _), (2, _)]) (by decide) (Nat.le_of_ble_eq_true rfl) rfl (fun X C => ?_)
  refine z_aload_n (pc := 0) C dX12_kill_0 0 rfl ?_
  refine z_cV0 (pc := 1) mX12_good C [] dX12_kill_1 lX12_167 mtX12_good (tX12_good (by first | assumption | omega)) (by assumption) rfl rfl (by decide) (Nat.le_of_ble_eq_true rfl) (Nat.zero_le _) (Nat.zero_le _) ?_
  have hM1 : zup h 1063 (zO 8 (mfs (upd (upd v 0 0) 11 0))) 1063 = some (zO 8 (mfs (upd (upd v 0 0) 11 0))) := zup_same _ _ _
  have hA1 : zup h 1063 (zO 8 (mfs (upd (upd v 0 0) 11 0))) 1066 = some (zI 241 R) := (zup_ne (by decide)).trans hA
  have hB1 : zup h 1063 (zO 8 (mfs (upd (upd v 0 0) 11 0))) 1070 = some (zI 40 S) := (zup_ne (by decide)).trans hB
  have hF1 : upd (upd v 0 0) 11 0 14 = zb b := hF
  generalize hg : zup h 1063 (zO 8 (mfs (upd (upd v 0 0) 11 0))) = h1 at hM1 hA1 hB1 ⊢
  refine z_aload_n (pc := 4) C dX12_kill_4 0 rfl ?_
  refine z_iload_n (pc := 5) C dX12_kill_5 1 rfl ?_
  refine z_cV1 (pc := 6) mX12_isKill C [_] dX12_kill_6 lX12_300 mtX12_isKill (tX12_isKill (by first | assumption | omega) (by first | assumption | omega) (by first | assumption | omega) (by first | assumption | omega)) (by assumption) rfl rfl (by decide) (Nat.le_of_ble_eq_true rfl) (Nat.zero_le _) (Nat.zero_le _) ?_
  rw [wfB_k hb k]
  first | refine z_ifeqB (pc := 9) C 21 dX12_kill_9 (by decide) (fun hc9 => ?_) (fun hc9 => ?_) | refine z_ifeqN (pc := 9) C 21 dX12_kill_9 (by decide) (by omega) (fun hc9 => ?_) (fun hc9 => ?_) | refine z_if_eq (pc := 9) C 21 dX12_kill_9 (by decide) (fun hc9 => ?_) (fun hc9 => ?_)
  · skip
    refine z_aload_n (pc := 21) C dX12_kill_21 0 rfl ?_
    refine z_iconst (pc := 22) C dX12_kill_22 (nI 1) (by decide) ?_
    refine z_cV1 (pc := 23) mX12_no C [_] dX12_kill_23 lX12_170 mtX12_no (tX12_no (by first | assumption | omega)) (by assumption) rfl rfl (by decide) (Nat.le_of_ble_eq_true rfl) (Nat.zero_le _) (Nat.zero_le _) ?_
    refine z_iret (pc := 26) C dX12_kill_26 rfl (Nat.zero_le _) (Nat.zero_le _) ⟨?_, ?_, rfl⟩
    · simp [aKill, *]
    · first | exact mz0 hg (by simp [aKill, *]) | exact mz1 hg (by simp [aKill, *] <;> rfl)
  · skip
    refine z_iload_n (pc := 12) C dX12_kill_12 2 rfl ?_
    refine z_iconst (pc := 13) C dX12_kill_13 (nI 0) (by decide) ?_
    refine z_iconst (pc := 14) C dX12_kill_14 (nI 5) (by decide) ?_
    refine z_cS1 (pc := 15) mX12_in C [_, _, _] dX12_kill_15 lX12_146 mtX12_in tX12_in rfl rfl (by decide) (Nat.le_of_ble_eq_true rfl) (Nat.zero_le _) (Nat.zero_le _) ?_
    rw [show decide (nI 0 ≤ w ∧ w ≤ nI 5) = zlt w 6 from zlt_le2 w (by omega)]
    first | refine z_ifneB (pc := 18) C 27 dX12_kill_18 (by decide) (fun hc18 => ?_) (fun hc18 => ?_) | refine z_ifneN (pc := 18) C 27 dX12_kill_18 (by decide) (by omega) (fun hc18 => ?_) (fun hc18 => ?_) | refine z_if_ne (pc := 18) C 27 dX12_kill_18 (by decide) (fun hc18 => ?_) (fun hc18 => ?_)
    · skip
      obtain ⟨j, hj, rfl⟩ := zlt_of (by omega) hc9
      have pj := pn_nI (j := j) (by omega)
      obtain ⟨q, hq, rfl⟩ := zlt_of (by omega) hc18
      have pq := pn_nI (j := q) (by omega)
      have ej := wK j hj
      have el := wL j hj
      have em := wM _ el
      refine z_iload_n (pc := 27) C dX12_kill_27 2 rfl ?_
      rcases (show q = 0 ∨ q = 1 ∨ q = 2 ∨ q = 3 ∨ q = 4 ∨ q = 5 by omega) with rfl | rfl | rfl | rfl | rfl | rfl
      · skip
        refine z_tblIn (pc := 28) C 64 dX12_kill_28 (by decide) (by decide) rfl (by decide) ?_
        refine z_aload_n (pc := 64) C dX12_kill_64 0 rfl ?_
        refine z_getf (pc := 65) C dX12_kill_65 fX12_20 (by assumption) (by first | rfl | assumption) ?_
        refine z_bipush (pc := 68) C dX12_kill_68 (nI 34) (by decide) ?_
        refine z_iconst (pc := 70) C dX12_kill_70 (nI 4) (by decide) ?_
        refine z_iload_n (pc := 71) C dX12_kill_71 1 rfl ?_
        first | refine z_imulN (pc := 72) C dX12_kill_72 ?_ | refine z_imul (pc := 72) C dX12_kill_72 ?_
        first | refine z_iaddN (pc := 73) C dX12_kill_73 ?_ | refine z_iadd (pc := 73) C dX12_kill_73 ?_
        first | refine z_ialdN (pc := 74) C dX12_kill_74 (by assumption) (by omega) (by decide) ?_ | refine z_ialdI (pc := 74) C dX12_kill_74 (by assumption) (by omega) (by decide) ?_
        refine z_iret (pc := 75) C dX12_kill_75 rfl (Nat.zero_le _) (Nat.zero_le _) ⟨?_, ?_, rfl⟩
        · simp [aKill, *]
        · first | exact mz0 hg (by simp [aKill, *]) | exact mz1 hg (by simp [aKill, *] <;> rfl)
      · skip
        refine z_tblIn (pc := 28) C 76 dX12_kill_28 (by decide) (by decide) rfl (by decide) ?_
        refine z_aload_n (pc := 76) C dX12_kill_76 0 rfl ?_
        refine z_getf (pc := 77) C dX12_kill_77 fX12_32 (by assumption) (by first | rfl | assumption) ?_
        refine z_bipush (pc := 80) C dX12_kill_80 (nI 32) (by decide) ?_
        refine z_iload_n (pc := 82) C dX12_kill_82 1 rfl ?_
        first | refine z_iaddN (pc := 83) C dX12_kill_83 ?_ | refine z_iadd (pc := 83) C dX12_kill_83 ?_
        first | refine z_ialdN (pc := 84) C dX12_kill_84 (by assumption) (by omega) (by decide) ?_ | refine z_ialdI (pc := 84) C dX12_kill_84 (by assumption) (by omega) (by decide) ?_
        refine z_iret (pc := 85) C dX12_kill_85 rfl (Nat.zero_le _) (Nat.zero_le _) ⟨?_, ?_, rfl⟩
        · simp [aKill, *]
        · first | exact mz0 hg (by simp [aKill, *]) | exact mz1 hg (by simp [aKill, *] <;> rfl)
      · skip
        refine z_tblIn (pc := 28) C 86 dX12_kill_28 (by decide) (by decide) rfl (by decide) ?_
        refine z_aload_n (pc := 86) C dX12_kill_86 0 rfl ?_
        refine z_getf (pc := 87) C dX12_kill_87 fX12_20 (by assumption) (by first | rfl | assumption) ?_
        refine z_bipush (pc := 90) C dX12_kill_90 (nI 34) (by decide) ?_
        refine z_iconst (pc := 92) C dX12_kill_92 (nI 4) (by decide) ?_
        refine z_iload_n (pc := 93) C dX12_kill_93 1 rfl ?_
        first | refine z_imulN (pc := 94) C dX12_kill_94 ?_ | refine z_imul (pc := 94) C dX12_kill_94 ?_
        first | refine z_iaddN (pc := 95) C dX12_kill_95 ?_ | refine z_iadd (pc := 95) C dX12_kill_95 ?_
        refine z_iconst (pc := 96) C dX12_kill_96 (nI 1) (by decide) ?_
        first | refine z_iaddN (pc := 97) C dX12_kill_97 ?_ | refine z_iadd (pc := 97) C dX12_kill_97 ?_
        first | refine z_ialdN (pc := 98) C dX12_kill_98 (by assumption) (by omega) (by decide) ?_ | refine z_ialdI (pc := 98) C dX12_kill_98 (by assumption) (by omega) (by decide) ?_
        refine z_iret (pc := 99) C dX12_kill_99 rfl (Nat.zero_le _) (Nat.zero_le _) ⟨?_, ?_, rfl⟩
        · simp [aKill, *]
        · first | exact mz0 hg (by simp [aKill, *]) | exact mz1 hg (by simp [aKill, *] <;> rfl)
      · skip
        refine z_tblIn (pc := 28) C 100 dX12_kill_28 (by decide) (by decide) rfl (by decide) ?_
        refine z_aload_n (pc := 100) C dX12_kill_100 0 rfl ?_
        refine z_getf (pc := 101) C dX12_kill_101 fX12_20 (by assumption) (by first | rfl | assumption) ?_
        refine z_bipush (pc := 104) C dX12_kill_104 (nI 34) (by decide) ?_
        refine z_iconst (pc := 106) C dX12_kill_106 (nI 4) (by decide) ?_
        refine z_iload_n (pc := 107) C dX12_kill_107 1 rfl ?_
        first | refine z_imulN (pc := 108) C dX12_kill_108 ?_ | refine z_imul (pc := 108) C dX12_kill_108 ?_
        first | refine z_iaddN (pc := 109) C dX12_kill_109 ?_ | refine z_iadd (pc := 109) C dX12_kill_109 ?_
        refine z_iconst (pc := 110) C dX12_kill_110 (nI 2) (by decide) ?_
        first | refine z_iaddN (pc := 111) C dX12_kill_111 ?_ | refine z_iadd (pc := 111) C dX12_kill_111 ?_
        first | refine z_ialdN (pc := 112) C dX12_kill_112 (by assumption) (by omega) (by decide) ?_ | refine z_ialdI (pc := 112) C dX12_kill_112 (by assumption) (by omega) (by decide) ?_
        refine z_iret (pc := 113) C dX12_kill_113 rfl (Nat.zero_le _) (Nat.zero_le _) ⟨?_, ?_, rfl⟩
        · simp [aKill, *]
        · first | exact mz0 hg (by simp [aKill, *]) | exact mz1 hg (by simp [aKill, *] <;> rfl)
      · skip
        refine z_tblIn (pc := 28) C 114 dX12_kill_28 (by decide) (by decide) rfl (by decide) ?_
        refine z_aload_n (pc := 114) C dX12_kill_114 0 rfl ?_
        refine z_aload_n (pc := 115) C dX12_kill_115 0 rfl ?_
        refine z_getf (pc := 116) C dX12_kill_116 fX12_32 (by assumption) (by first | rfl | assumption) ?_
        refine z_iload_n (pc := 119) C dX12_kill_119 1 rfl ?_
        refine z_cV1 (pc := 120) mX12_standsOf C [_, _] dX12_kill_120 lX12_269 mtX12_standsOf (tX12_standsOf (by first | assumption | omega) (by first | assumption | omega) (by first | assumption | omega) (by first | assumption | omega) (by first | assumption | omega) (by first | assumption | omega)) (by assumption) rfl rfl (by decide) (Nat.le_of_ble_eq_true rfl) (Nat.zero_le _) (Nat.zero_le _) ?_
        refine z_iret (pc := 123) C dX12_kill_123 rfl (Nat.zero_le _) (Nat.zero_le _) ⟨?_, ?_, rfl⟩
        · simp [aKill, *]
        · first | exact mz0 hg (by simp [aKill, *]) | exact mz1 hg (by simp [aKill, *] <;> rfl)
      · skip
        refine z_tblOut (pc := 28) C 124 dX12_kill_28 (Or.inr (by decide)) (by decide) ?_
        refine z_aload_n (pc := 124) C dX12_kill_124 0 rfl ?_
        refine z_aload_n (pc := 125) C dX12_kill_125 0 rfl ?_
        refine z_getf (pc := 126) C dX12_kill_126 fX12_32 (by assumption) (by first | rfl | assumption) ?_
        refine z_bipush (pc := 129) C dX12_kill_129 (nI 32) (by decide) ?_
        refine z_iload_n (pc := 131) C dX12_kill_131 1 rfl ?_
        first | refine z_iaddN (pc := 132) C dX12_kill_132 ?_ | refine z_iadd (pc := 132) C dX12_kill_132 ?_
        first | refine z_ialdN (pc := 133) C dX12_kill_133 (by assumption) (by omega) (by decide) ?_ | refine z_ialdI (pc := 133) C dX12_kill_133 (by assumption) (by omega) (by decide) ?_
        refine z_aload_n (pc := 134) C dX12_kill_134 0 rfl ?_
        refine z_getf (pc := 135) C dX12_kill_135 fX12_20 (by assumption) (by first | rfl | assumption) ?_
        refine z_bipush (pc := 138) C dX12_kill_138 (nI 34) (by decide) ?_
        refine z_iconst (pc := 140) C dX12_kill_140 (nI 4) (by decide) ?_
        refine z_iload_n (pc := 141) C dX12_kill_141 1 rfl ?_
        first | refine z_imulN (pc := 142) C dX12_kill_142 ?_ | refine z_imul (pc := 142) C dX12_kill_142 ?_
        first | refine z_iaddN (pc := 143) C dX12_kill_143 ?_ | refine z_iadd (pc := 143) C dX12_kill_143 ?_
        refine z_iconst (pc := 144) C dX12_kill_144 (nI 1) (by decide) ?_
        first | refine z_iaddN (pc := 145) C dX12_kill_145 ?_ | refine z_iadd (pc := 145) C dX12_kill_145 ?_
        first | refine z_ialdN (pc := 146) C dX12_kill_146 (by assumption) (by omega) (by decide) ?_ | refine z_ialdI (pc := 146) C dX12_kill_146 (by assumption) (by omega) (by decide) ?_
        refine z_cV1 (pc := 147) mX12_behindOf C [_, _] dX12_kill_147 lX12_262 mtX12_behindOf (tX12_behindOf hM1 hA1 (by omega) em ej.2.1) (by assumption) rfl rfl (by decide) (Nat.le_of_ble_eq_true rfl) (Nat.zero_le _) (Nat.zero_le _) ?_
        refine z_iret (pc := 150) C dX12_kill_150 rfl (Nat.zero_le _) (Nat.zero_le _) ⟨?_, ?_, rfl⟩
        · simp [aKill, *]
        · first | exact mz0 hg (by simp [aKill, *]) | exact mz1 hg (by simp [aKill, *] <;> rfl)
    · skip
      refine z_aload_n (pc := 21) C dX12_kill_21 0 rfl ?_
      refine z_iconst (pc := 22) C dX12_kill_22 (nI 1) (by decide) ?_
      refine z_cV1 (pc := 23) mX12_no C [_] dX12_kill_23 lX12_170 mtX12_no (tX12_no (by first | assumption | omega)) (by assumption) rfl rfl (by decide) (Nat.le_of_ble_eq_true rfl) (Nat.zero_le _) (Nat.zero_le _) ?_
      refine z_iret (pc := 26) C dX12_kill_26 rfl (Nat.zero_le _) (Nat.zero_le _) ⟨?_, ?_, rfl⟩
      · simp [aKill, *]
      · first | exact mz0 hg (by simp [aKill, *]) | exact mz1 hg (by simp [aKill, *] <;> rfl)

set_option maxRecDepth 20000 in
set_option maxHeartbeats 1000000 in
theorem tX12_trail {h : ZH} {v : Nat → Int32} {R S : Nat → Nat} {b : Bool} {m g : Int32} (hM : h 1063 = some (zO 8 (mfs v))) (hA : h 1066 = some (zI 241 R)) (hB : h 1070 = some (zI 40 S)) (hR : wfR R) (hS : wfS R S) (hF : v 14 = zb b) (hb : wfB b R) : ZD mX12_trail 2 [.ref 1063, .int m, .int g] h (some (.int (aTrail S R m g).1)) (zup h 1063 (zO 8 (mfs (mv v (aTrail S R m g).2)))) := by
  intro n
  obtain ⟨w1, w3, w4, w5, w0, wP, wM, wK, wX⟩ := id hR
  obtain ⟨wT, wL, wB⟩ := id hS
  refine z_enter (lv := [(0, _), (1, _), (2, _)]) (by decide) (Nat.le_of_ble_eq_true rfl) rfl (fun X C => ?_)
  refine z_aload_n (pc := 0) C dX12_trail_0 0 rfl ?_
  refine z_cV0 (pc := 1) mX12_good C [] dX12_trail_1 lX12_167 mtX12_good (tX12_good (by first | assumption | omega)) (by assumption) rfl rfl (by decide) (Nat.le_of_ble_eq_true rfl) (Nat.zero_le _) (Nat.zero_le _) ?_
  have hM1 : zup h 1063 (zO 8 (mfs (upd (upd v 0 0) 11 0))) 1063 = some (zO 8 (mfs (upd (upd v 0 0) 11 0))) := zup_same _ _ _
  have hA1 : zup h 1063 (zO 8 (mfs (upd (upd v 0 0) 11 0))) 1066 = some (zI 241 R) := (zup_ne (by decide)).trans hA
  have hB1 : zup h 1063 (zO 8 (mfs (upd (upd v 0 0) 11 0))) 1070 = some (zI 40 S) := (zup_ne (by decide)).trans hB
  have hF1 : upd (upd v 0 0) 11 0 14 = zb b := hF
  generalize hg : zup h 1063 (zO 8 (mfs (upd (upd v 0 0) 11 0))) = h1 at hM1 hA1 hB1 ⊢
  refine z_aload_n (pc := 4) C dX12_trail_4 0 rfl ?_
  refine z_aload_n (pc := 5) C dX12_trail_5 0 rfl ?_
  refine z_iload_n (pc := 6) C dX12_trail_6 1 rfl ?_
  refine z_cV1 (pc := 7) mX12_isMan C [_] dX12_trail_7 lX12_288 mtX12_isMan (tX12_isMan (by first | assumption | omega) (by first | assumption | omega) (by first | assumption | omega) (by first | assumption | omega)) (by assumption) rfl rfl (by decide) (Nat.le_of_ble_eq_true rfl) (Nat.zero_le _) (Nat.zero_le _) ?_
  rw [wfB_m hb m]
  refine z_iload_n (pc := 10) C dX12_trail_10 2 rfl ?_
  refine z_iconst (pc := 11) C dX12_trail_11 (nI 0) (by decide) ?_
  refine z_bipush (pc := 12) C dX12_trail_12 (nI 7) (by decide) ?_
  refine z_cS1 (pc := 14) mX12_in C [_, _, _] dX12_trail_14 lX12_146 mtX12_in tX12_in rfl rfl (by decide) (Nat.le_of_ble_eq_true rfl) (Nat.zero_le _) (Nat.zero_le _) ?_
  rw [show decide (nI 0 ≤ g ∧ g ≤ nI 7) = zlt g 8 from zlt_le2 g (by omega)]
  refine z_cV1 (pc := 17) mX12_why C [_, _] dX12_trail_17 lX12_303 mtX12_why tX12_why (by assumption) rfl rfl (by decide) (Nat.le_of_ble_eq_true rfl) (Nat.zero_le _) (Nat.zero_le _) ?_
  have e9 := swhy_le (zlt m (R 3)) (zlt g 8)
  refine z_istore_n (pc := 20) (lv' := [(3, _), (0, _), (1, _), (2, _)]) C dX12_trail_20 (by decide) rfl ?_
  refine z_iload_n (pc := 21) C dX12_trail_21 0 rfl ?_
  first | refine z_ifeqB (pc := 22) C 33 dX12_trail_22 (by decide) (fun hc22 => ?_) (fun hc22 => ?_) | refine z_ifeqN (pc := 22) C 33 dX12_trail_22 (by decide) (by omega) (fun hc22 => ?_) (fun hc22 => ?_) | refine z_if_eq (pc := 22) C 33 dX12_trail_22 (by decide) (fun hc22 => ?_) (fun hc22 => ?_)
  · skip
    obtain ⟨e6, e7⟩ := swhy_0.mp hc22
    obtain ⟨j, hj, rfl⟩ := zlt_of (by omega) e6
    have pj := pn_nI (j := j) (by omega)
    obtain ⟨q, hq, rfl⟩ := zlt_of (by omega) e7
    have pq := pn_nI (j := q) (by omega)
    refine z_aload_n (pc := 33) C dX12_trail_33 1 rfl ?_
    refine z_getf (pc := 34) C dX12_trail_34 fX12_32 (by assumption) (by first | rfl | assumption) ?_
    refine z_bipush (pc := 37) C dX12_trail_37 (nI 8) (by decide) ?_
    refine z_iload_n (pc := 39) C dX12_trail_39 2 rfl ?_
    first | refine z_imulN (pc := 40) C dX12_trail_40 ?_ | refine z_imul (pc := 40) C dX12_trail_40 ?_
    refine z_iload_n (pc := 41) C dX12_trail_41 3 rfl ?_
    first | refine z_iaddN (pc := 42) C dX12_trail_42 ?_ | refine z_iadd (pc := 42) C dX12_trail_42 ?_
    first | refine z_ialdN (pc := 43) C dX12_trail_43 (by assumption) (by omega) (by decide) ?_ | refine z_ialdI (pc := 43) C dX12_trail_43 (by assumption) (by omega) (by decide) ?_
    refine z_iret (pc := 44) C dX12_trail_44 rfl (Nat.zero_le _) (Nat.zero_le _) ⟨?_, ?_, rfl⟩
    · simp [aTrail, aW, swhy_tt, *]
    · first | exact mz0 hg (by simp [aTrail, aW, swhy_tt, *]) | exact mz1 hg (by simp [aTrail, aW, swhy_tt, *] <;> rfl)
  · skip
    have e5 := Nat.ne_of_gt hc22
    refine z_aload_n (pc := 25) C dX12_trail_25 1 rfl ?_
    refine z_iload_n (pc := 26) C dX12_trail_26 0 rfl ?_
    refine z_cV1 (pc := 27) mX12_no C [_] dX12_trail_27 lX12_170 mtX12_no (tX12_no (by first | assumption | omega)) (by assumption) rfl rfl (by decide) (Nat.le_of_ble_eq_true rfl) (Nat.zero_le _) (Nat.zero_le _) ?_
    refine z_goto (pc := 30) C 44 dX12_trail_30 (by decide) ?_
    refine z_iret (pc := 44) C dX12_trail_44 rfl (Nat.zero_le _) (Nat.zero_le _) ⟨?_, ?_, rfl⟩
    · simp [aTrail, aW, swhy_tt, *]
    · first | exact mz0 hg (by simp [aTrail, aW, swhy_tt, *]) | exact mz1 hg (by simp [aTrail, aW, swhy_tt, *] <;> rfl)

set_option maxRecDepth 20000 in
set_option maxHeartbeats 1000000 in
theorem tX12_crowded {h : ZH} {v : Nat → Int32} {R S : Nat → Nat} {b : Bool}  (hM : h 1063 = some (zO 8 (mfs v))) (hA : h 1066 = some (zI 241 R)) (hB : h 1070 = some (zI 40 S)) (hR : wfR R) (hS : wfS R S) (hF : v 14 = zb b) (hb : wfB b R) : ZD mX12_crowded 5 [.ref 1063] h (some (.int (aCrow R S).1)) (zup h 1063 (zO 8 (mfs (mv v (aCrow R S).2)))) := by
  intro n
  obtain ⟨w1, w3, w4, w5, w0, wP, wM, wK, wX⟩ := id hR
  obtain ⟨wT, wL, wB⟩ := id hS
  refine z_enter (lv := [(0, _)]) (by decide) (Nat.le_of_ble_eq_true rfl) rfl (fun X C => ?_)
  refine z_aload_n (pc := 0) C dX12_crowded_0 0 rfl ?_
  refine z_cV0 (pc := 1) mX12_good C [] dX12_crowded_1 lX12_167 mtX12_good (tX12_good (by first | assumption | omega)) (by assumption) rfl rfl (by decide) (Nat.le_of_ble_eq_true rfl) (Nat.zero_le _) (Nat.zero_le _) ?_
  have hM1 : zup h 1063 (zO 8 (mfs (upd (upd v 0 0) 11 0))) 1063 = some (zO 8 (mfs (upd (upd v 0 0) 11 0))) := zup_same _ _ _
  have hA1 : zup h 1063 (zO 8 (mfs (upd (upd v 0 0) 11 0))) 1066 = some (zI 241 R) := (zup_ne (by decide)).trans hA
  have hB1 : zup h 1063 (zO 8 (mfs (upd (upd v 0 0) 11 0))) 1070 = some (zI 40 S) := (zup_ne (by decide)).trans hB
  have hF1 : upd (upd v 0 0) 11 0 14 = zb b := hF
  generalize hg : zup h 1063 (zO 8 (mfs (upd (upd v 0 0) 11 0))) = h1 at hM1 hA1 hB1 ⊢
  refine z_aload_n (pc := 4) C dX12_crowded_4 0 rfl ?_
  refine z_getf (pc := 5) C dX12_crowded_5 fX12_180 (by assumption) (by first | rfl | assumption) ?_
  rw [hF1, hb.1]
  first | refine z_ifneB (pc := 8) C 17 dX12_crowded_8 (by decide) (fun hc8 => ?_) (fun hc8 => ?_) | refine z_ifneN (pc := 8) C 17 dX12_crowded_8 (by decide) (by omega) (fun hc8 => ?_) (fun hc8 => ?_) | refine z_if_ne (pc := 8) C 17 dX12_crowded_8 (by decide) (fun hc8 => ?_) (fun hc8 => ?_)
  · skip
    have e0 : 0 < R 1 := of_decide_eq_true hc8
    refine z_iconst (pc := 17) C dX12_crowded_17 (nI 0) (by decide) ?_
    refine z_istore_n (pc := 18) (lv' := [(1, _), (0, _)]) C dX12_crowded_18 (by decide) rfl ?_
    refine z_iconst (pc := 19) C dX12_crowded_19 (nI 0) (by decide) ?_
    refine z_istore_n (pc := 20) (lv' := [(2, _), (1, _), (0, _)]) C dX12_crowded_20 (by decide) rfl ?_
    refine z_sub (lv' := [(0, _), (1, _), (2, _)]) [2, 1, 0] rfl ?_
    have lp21 : ∀ (f : Nat) (k acc : Nat), (k + f = R 1 ∧ acc = sbits (sCrw R S) k) → Zc X mX12_crowded (zEnd X (fun r hh n' => r = (some (.int (aCrow R S).1)) ∧ hh = (zup h 1063 (zO 8 (mfs (mv v (aCrow R S).2)))) ∧ n' = n) 0 0) 21 [(0, .ref 1063), (1, .int (nI acc)), (2, .int (nI k))] [] h1 n 0 0 := by
      intro f
      induction f using Nat.strongRecOn with
      | _ f ih =>
        intro k acc hk
        obtain ⟨hk, he⟩ := hk
        refine z_iload_n (pc := 21) C dX12_crowded_21 2 rfl ?_
        refine z_aload_n (pc := 22) C dX12_crowded_22 0 rfl ?_
        refine z_getf (pc := 23) C dX12_crowded_23 fX12_20 (by assumption) (by first | rfl | assumption) ?_
        refine z_iconst (pc := 26) C dX12_crowded_26 (nI 1) (by decide) ?_
        first | refine z_ialdN (pc := 27) C dX12_crowded_27 (by assumption) (by omega) (by decide) ?_ | refine z_ialdI (pc := 27) C dX12_crowded_27 (by assumption) (by omega) (by decide) ?_
        first | refine z_icmpgeN (pc := 28) C 55 dX12_crowded_28 (by decide) (by omega) (by omega) (fun hc28 => ?_) (fun hc28 => ?_) | refine z_icmp_ge (pc := 28) C 55 dX12_crowded_28 (by decide) (fun hc28 => ?_) (fun hc28 => ?_)
        · skip
          refine z_iload_n (pc := 55) C dX12_crowded_55 1 rfl ?_
          refine z_iret (pc := 56) C dX12_crowded_56 rfl (Nat.zero_le _) (Nat.zero_le _) ⟨?_, ?_, rfl⟩
          · obtain rfl : f = 0 := (by omega); obtain rfl : k = R 1 := (by omega); simp [aCrow, aF, e0, he]
          · first | exact mz0 hg (by simp [aCrow, aF, *]) | exact mz1 hg (by simp [aCrow, aF, *] <;> rfl)
        · skip
          refine z_iload_n (pc := 31) C dX12_crowded_31 1 rfl ?_
          refine z_aload_n (pc := 32) C dX12_crowded_32 0 rfl ?_
          refine z_iload_n (pc := 33) C dX12_crowded_33 2 rfl ?_
          refine z_cV1 (pc := 34) mX12_isCrowded C [_] dX12_crowded_34 lX12_285 mtX12_isCrowded (tX12_isCrowded (by first | assumption | omega) (by first | assumption | omega) (by first | assumption | omega) (by first | assumption | omega) (by first | assumption | omega) (by first | assumption | omega)) (by assumption) rfl rfl (by decide) (Nat.le_of_ble_eq_true rfl) (Nat.zero_le _) (Nat.zero_le _) ?_
          first | refine z_ifeqB (pc := 37) C 46 dX12_crowded_37 (by decide) (fun hc37 => ?_) (fun hc37 => ?_) | refine z_ifeqN (pc := 37) C 46 dX12_crowded_37 (by decide) (by omega) (fun hc37 => ?_) (fun hc37 => ?_) | refine z_if_eq (pc := 37) C 46 dX12_crowded_37 (by decide) (fun hc37 => ?_) (fun hc37 => ?_)
          · skip
            refine z_iconst (pc := 46) C dX12_crowded_46 (nI 0) (by decide) ?_
            first | refine z_iorN (pc := 47) C dX12_crowded_47 ?_ | refine z_ior (pc := 47) C dX12_crowded_47 ?_
            refine z_istore_n (pc := 48) (lv' := [(1, _), (0, _), (2, _)]) C dX12_crowded_48 (by decide) rfl ?_
            first | refine z_iincN (pc := 49) (lv' := [(2, _), (1, _), (0, _)]) C 1 dX12_crowded_49 2 rfl (by decide) (by decide) rfl ?_ | refine z_iinc (pc := 49) (lv' := [(2, _), (1, _), (0, _)]) C dX12_crowded_49 2 rfl _ rfl (by decide) rfl ?_
            refine z_goto (pc := 52) C 21 dX12_crowded_52 (by decide) ?_
            refine z_sub (lv' := [(0, _), (1, _), (2, _)]) [2, 1, 0] rfl ?_
            exact ih (f - 1) (by omega) (k + 1) _ ⟨by omega, by rw [he, sbits, sCrw, hc37]; rfl⟩
          · skip
            refine z_iconst (pc := 40) C dX12_crowded_40 (nI 1) (by decide) ?_
            refine z_iload_n (pc := 41) C dX12_crowded_41 2 rfl ?_
            first | refine z_ishlN (pc := 42) C dX12_crowded_42 (by omega) ?_ | refine z_ishl (pc := 42) C dX12_crowded_42 ?_
            refine z_goto (pc := 43) C 47 dX12_crowded_43 (by decide) ?_
            first | refine z_iorN (pc := 47) C dX12_crowded_47 ?_ | refine z_ior (pc := 47) C dX12_crowded_47 ?_
            refine z_istore_n (pc := 48) (lv' := [(1, _), (0, _), (2, _)]) C dX12_crowded_48 (by decide) rfl ?_
            first | refine z_iincN (pc := 49) (lv' := [(2, _), (1, _), (0, _)]) C 1 dX12_crowded_49 2 rfl (by decide) (by decide) rfl ?_ | refine z_iinc (pc := 49) (lv' := [(2, _), (1, _), (0, _)]) C dX12_crowded_49 2 rfl _ rfl (by decide) rfl ?_
            refine z_goto (pc := 52) C 21 dX12_crowded_52 (by decide) ?_
            refine z_sub (lv' := [(0, _), (1, _), (2, _)]) [2, 1, 0] rfl ?_
            exact ih (f - 1) (by omega) (k + 1) _ ⟨by omega, by rw [he, sbits, sCrw, hc37]; rfl⟩
    exact lp21 (R 1) 0 0 ⟨by omega, rfl⟩
  · skip
    have e0 : ¬ 0 < R 1 := of_decide_eq_false hc8
    refine z_aload_n (pc := 11) C dX12_crowded_11 0 rfl ?_
    refine z_iconst (pc := 12) C dX12_crowded_12 (nI 1) (by decide) ?_
    refine z_cV1 (pc := 13) mX12_no C [_] dX12_crowded_13 lX12_170 mtX12_no (tX12_no (by first | assumption | omega)) (by assumption) rfl rfl (by decide) (Nat.le_of_ble_eq_true rfl) (Nat.zero_le _) (Nat.zero_le _) ?_
    refine z_iret (pc := 16) C dX12_crowded_16 rfl (Nat.zero_le _) (Nat.zero_le _) ⟨?_, ?_, rfl⟩
    · simp [aCrow, aF, e0]
    · first | exact mz0 hg (by simp [aCrow, aF, *]) | exact mz1 hg (by simp [aCrow, aF, *] <;> rfl)

set_option maxRecDepth 20000 in
set_option maxHeartbeats 1000000 in
theorem tX12_leader {h : ZH} {v : Nat → Int32} {R S : Nat → Nat} {b : Bool}  (hM : h 1063 = some (zO 8 (mfs v))) (hA : h 1066 = some (zI 241 R)) (hB : h 1070 = some (zI 40 S)) (hR : wfR R) (hS : wfS R S) (hF : v 14 = zb b) (hb : wfB b R) : ZD mX12_leader 1 [.ref 1063] h (some (.int (aLead R S).1)) (zup h 1063 (zO 8 (mfs (mv v (aLead R S).2)))) := by
  intro n
  obtain ⟨w1, w3, w4, w5, w0, wP, wM, wK, wX⟩ := id hR
  obtain ⟨wT, wL, wB⟩ := id hS
  refine z_enter (lv := [(0, _)]) (by decide) (Nat.le_of_ble_eq_true rfl) rfl (fun X C => ?_)
  refine z_aload_n (pc := 0) C dX12_leader_0 0 rfl ?_
  refine z_cV0 (pc := 1) mX12_good C [] dX12_leader_1 lX12_167 mtX12_good (tX12_good (by first | assumption | omega)) (by assumption) rfl rfl (by decide) (Nat.le_of_ble_eq_true rfl) (Nat.zero_le _) (Nat.zero_le _) ?_
  have hM1 : zup h 1063 (zO 8 (mfs (upd (upd v 0 0) 11 0))) 1063 = some (zO 8 (mfs (upd (upd v 0 0) 11 0))) := zup_same _ _ _
  have hA1 : zup h 1063 (zO 8 (mfs (upd (upd v 0 0) 11 0))) 1066 = some (zI 241 R) := (zup_ne (by decide)).trans hA
  have hB1 : zup h 1063 (zO 8 (mfs (upd (upd v 0 0) 11 0))) 1070 = some (zI 40 S) := (zup_ne (by decide)).trans hB
  have hF1 : upd (upd v 0 0) 11 0 14 = zb b := hF
  generalize hg : zup h 1063 (zO 8 (mfs (upd (upd v 0 0) 11 0))) = h1 at hM1 hA1 hB1 ⊢
  refine z_aload_n (pc := 4) C dX12_leader_4 0 rfl ?_
  refine z_getf (pc := 5) C dX12_leader_5 fX12_180 (by assumption) (by first | rfl | assumption) ?_
  rw [hF1, hb.1]
  first | refine z_ifneB (pc := 8) C 17 dX12_leader_8 (by decide) (fun hc8 => ?_) (fun hc8 => ?_) | refine z_ifneN (pc := 8) C 17 dX12_leader_8 (by decide) (by omega) (fun hc8 => ?_) (fun hc8 => ?_) | refine z_if_ne (pc := 8) C 17 dX12_leader_8 (by decide) (fun hc8 => ?_) (fun hc8 => ?_)
  · skip
    have e0 : 0 < R 1 := of_decide_eq_true hc8
    refine z_bipush (pc := 17) C dX12_leader_17 (zo none) (by decide) ?_
    refine z_istore_n (pc := 19) (lv' := [(1, _), (0, _)]) C dX12_leader_19 (by decide) rfl ?_
    refine z_iconst (pc := 20) C dX12_leader_20 (nI 0) (by decide) ?_
    refine z_istore_n (pc := 21) (lv' := [(2, _), (1, _), (0, _)]) C dX12_leader_21 (by decide) rfl ?_
    refine z_sub (lv' := [(0, _), (1, _), (2, _)]) [2, 1, 0] rfl ?_
    have lp22 : ∀ (f : Nat) (k : Nat) (t : Option Nat), (k + f = R 3 ∧ t = smost (fun m => sone (sFol R S m) 8) k) → Zc X mX12_leader (zEnd X (fun r hh n' => r = (some (.int (aLead R S).1)) ∧ hh = (zup h 1063 (zO 8 (mfs (mv v (aLead R S).2)))) ∧ n' = n) 0 0) 22 [(0, .ref 1063), (1, .int (zo t)), (2, .int (nI k))] [] h1 n 0 0 := by
      intro f
      induction f using Nat.strongRecOn with
      | _ f ih =>
        intro k t hk
        obtain ⟨hk, he⟩ := hk
        have e1 : ∀ x, t = some x → x < k := fun x hx => smost_lt _ _ _ (by rw [← he]; exact hx)
        have e3 := sone_le (sFol R S k) 8
        have e4 : sFol R S k < 128 := sbits_lt7 _ (by omega)
        refine z_iload_n (pc := 22) C dX12_leader_22 2 rfl ?_
        refine z_aload_n (pc := 23) C dX12_leader_23 0 rfl ?_
        refine z_getf (pc := 24) C dX12_leader_24 fX12_20 (by assumption) (by first | rfl | assumption) ?_
        refine z_iconst (pc := 27) C dX12_leader_27 (nI 3) (by decide) ?_
        first | refine z_ialdN (pc := 28) C dX12_leader_28 (by assumption) (by omega) (by decide) ?_ | refine z_ialdI (pc := 28) C dX12_leader_28 (by assumption) (by omega) (by decide) ?_
        first | refine z_icmpgeN (pc := 29) C 63 dX12_leader_29 (by decide) (by omega) (by omega) (fun hc29 => ?_) (fun hc29 => ?_) | refine z_icmp_ge (pc := 29) C 63 dX12_leader_29 (by decide) (fun hc29 => ?_) (fun hc29 => ?_)
        · skip
          refine z_iload_n (pc := 63) C dX12_leader_63 1 rfl ?_
          refine z_iret (pc := 64) C dX12_leader_64 rfl (Nat.zero_le _) (Nat.zero_le _) ⟨?_, ?_, rfl⟩
          · obtain rfl : f = 0 := (by omega); obtain rfl : k = R 3 := (by omega); simp [aLead, aF, e0, he]
          · first | exact mz0 hg (by simp [aLead, aF, *]) | exact mz1 hg (by simp [aLead, aF, *] <;> rfl)
        · skip
          refine z_iload_n (pc := 32) C dX12_leader_32 1 rfl ?_
          first | refine z_ifltO (pc := 33) C 55 dX12_leader_33 (by decide) (fun x hx => by have := e1 x hx; omega) (fun hc33 => ?_) (fun hc33 => ?_) | refine z_ifltN (pc := 33) C 55 dX12_leader_33 (by decide) (by omega) (fun hc33 => ?_) (fun hc33 => ?_) | refine z_if_lt (pc := 33) C 55 dX12_leader_33 (by decide) (fun hc33 => ?_) (fun hc33 => ?_)
          · skip
            refine z_iload_n (pc := 55) C dX12_leader_55 2 rfl ?_
            refine z_top (show nI k = zo (some k) from rfl) ?_
            refine z_istore_n (pc := 56) (lv' := [(1, _), (0, _), (2, _)]) C dX12_leader_56 (by decide) rfl ?_
            first | refine z_iincN (pc := 57) (lv' := [(2, _), (1, _), (0, _)]) C 1 dX12_leader_57 2 rfl (by decide) (by decide) rfl ?_ | refine z_iinc (pc := 57) (lv' := [(2, _), (1, _), (0, _)]) C dX12_leader_57 2 rfl _ rfl (by decide) rfl ?_
            refine z_goto (pc := 60) C 22 dX12_leader_60 (by decide) ?_
            refine z_sub (lv' := [(0, _), (1, _), (2, _)]) [2, 1, 0] rfl ?_
            exact ih (f - 1) (by omega) (k + 1) _ ⟨by omega, by rw [smost, ← he]; first | (rw [hc33]; done) | (rw [hx]; simp [hc52]; done) | (rw [hx]; simp [Nat.not_lt.mpr hc52]; done)⟩
          · skip
            obtain ⟨x, hx⟩ := hc33
            have e2 := e1 x hx
            have e5 := sone_le (sFol R S x) 8
            have e6 : sFol R S x < 128 := sbits_lt7 _ (by omega)
            rw [hx]
            refine z_aload_n (pc := 36) C dX12_leader_36 0 rfl ?_
            refine z_iload_n (pc := 37) C dX12_leader_37 2 rfl ?_
            refine z_cV1 (pc := 38) mX12_followersOf C [_] dX12_leader_38 lX12_291 mtX12_followersOf (tX12_followersOf (by first | assumption | omega) (by first | assumption | omega) (by first | assumption | omega) (by first | assumption | omega) (by first | assumption | omega) (by first | assumption | omega)) (by assumption) rfl rfl (by decide) (Nat.le_of_ble_eq_true rfl) (Nat.zero_le _) (Nat.zero_le _) ?_
            refine z_cS1 (pc := 41) mX12_ones C [_] dX12_leader_41 lX12_276 mtX12_ones (tX12_ones (by first | assumption | omega)) rfl rfl (by decide) (Nat.le_of_ble_eq_true rfl) (Nat.zero_le _) (Nat.zero_le _) ?_
            refine z_aload_n (pc := 44) C dX12_leader_44 0 rfl ?_
            refine z_iload_n (pc := 45) C dX12_leader_45 1 rfl ?_
            refine z_top (show zo (some x) = nI x from rfl) ?_
            refine z_cV1 (pc := 46) mX12_followersOf C [_] dX12_leader_46 lX12_291 mtX12_followersOf (tX12_followersOf (by first | assumption | omega) (by first | assumption | omega) (by first | assumption | omega) (by first | assumption | omega) (by first | assumption | omega) (by first | assumption | omega)) (by assumption) rfl rfl (by decide) (Nat.le_of_ble_eq_true rfl) (Nat.zero_le _) (Nat.zero_le _) ?_
            refine z_cS1 (pc := 49) mX12_ones C [_] dX12_leader_49 lX12_276 mtX12_ones (tX12_ones (by first | assumption | omega)) rfl rfl (by decide) (Nat.le_of_ble_eq_true rfl) (Nat.zero_le _) (Nat.zero_le _) ?_
            first | refine z_icmpleN (pc := 52) C 57 dX12_leader_52 (by decide) (by omega) (by omega) (fun hc52 => ?_) (fun hc52 => ?_) | refine z_icmp_le (pc := 52) C 57 dX12_leader_52 (by decide) (fun hc52 => ?_) (fun hc52 => ?_)
            · skip
              first | refine z_iincN (pc := 57) (lv' := [(2, _), (0, _), (1, _)]) C 1 dX12_leader_57 2 rfl (by decide) (by decide) rfl ?_ | refine z_iinc (pc := 57) (lv' := [(2, _), (0, _), (1, _)]) C dX12_leader_57 2 rfl _ rfl (by decide) rfl ?_
              refine z_goto (pc := 60) C 22 dX12_leader_60 (by decide) ?_
              refine z_sub (lv' := [(0, _), (1, _), (2, _)]) [1, 2, 0] rfl ?_
              exact ih (f - 1) (by omega) (k + 1) _ ⟨by omega, by rw [smost, ← he]; first | (rw [hc33]; done) | (rw [hx]; simp [hc52]; done) | (rw [hx]; simp [Nat.not_lt.mpr hc52]; done)⟩
            · skip
              refine z_iload_n (pc := 55) C dX12_leader_55 2 rfl ?_
              refine z_top (show nI k = zo (some k) from rfl) ?_
              refine z_istore_n (pc := 56) (lv' := [(1, _), (0, _), (2, _)]) C dX12_leader_56 (by decide) rfl ?_
              first | refine z_iincN (pc := 57) (lv' := [(2, _), (1, _), (0, _)]) C 1 dX12_leader_57 2 rfl (by decide) (by decide) rfl ?_ | refine z_iinc (pc := 57) (lv' := [(2, _), (1, _), (0, _)]) C dX12_leader_57 2 rfl _ rfl (by decide) rfl ?_
              refine z_goto (pc := 60) C 22 dX12_leader_60 (by decide) ?_
              refine z_sub (lv' := [(0, _), (1, _), (2, _)]) [2, 1, 0] rfl ?_
              exact ih (f - 1) (by omega) (k + 1) _ ⟨by omega, by rw [smost, ← he]; first | (rw [hc33]; done) | (rw [hx]; simp [hc52]; done) | (rw [hx]; simp [Nat.not_lt.mpr hc52]; done)⟩
    exact lp22 (R 3) 0 none ⟨by omega, rfl⟩
  · skip
    have e0 : ¬ 0 < R 1 := of_decide_eq_false hc8
    refine z_aload_n (pc := 11) C dX12_leader_11 0 rfl ?_
    refine z_iconst (pc := 12) C dX12_leader_12 (nI 1) (by decide) ?_
    refine z_cV1 (pc := 13) mX12_no C [_] dX12_leader_13 lX12_170 mtX12_no (tX12_no (by first | assumption | omega)) (by assumption) rfl rfl (by decide) (Nat.le_of_ble_eq_true rfl) (Nat.zero_le _) (Nat.zero_le _) ?_
    refine z_iret (pc := 16) C dX12_leader_16 rfl (Nat.zero_le _) (Nat.zero_le _) ⟨?_, ?_, rfl⟩
    · simp [aLead, aF, e0]
    · first | exact mz0 hg (by simp [aLead, aF, *]) | exact mz1 hg (by simp [aLead, aF, *] <;> rfl)

set_option maxRecDepth 20000 in
set_option maxHeartbeats 1000000 in
theorem tX12_near {h : ZH} {v : Nat → Int32} {R S : Nat → Nat} {b : Bool} {m : Int32} (hM : h 1063 = some (zO 8 (mfs v))) (hA : h 1066 = some (zI 241 R)) (hB : h 1070 = some (zI 40 S)) (hR : wfR R) (hS : wfS R S) (hF : v 14 = zb b) (hb : wfB b R) : ZD mX12_near 4 [.ref 1063, .int m] h (some (.int (aNear R S m).1)) (zup h 1063 (zO 8 (mfs (mv v (aNear R S m).2)))) := by
  intro n
  obtain ⟨w1, w3, w4, w5, w0, wP, wM, wK, wX⟩ := id hR
  obtain ⟨wT, wL, wB⟩ := id hS
  refine z_enter (lv := [(0, _), (1, _)]) (by decide) (Nat.le_of_ble_eq_true rfl) rfl (fun X C => ?_)
  refine z_aload_n (pc := 0) C dX12_near_0 0 rfl ?_
  refine z_cV0 (pc := 1) mX12_good C [] dX12_near_1 lX12_167 mtX12_good (tX12_good (by first | assumption | omega)) (by assumption) rfl rfl (by decide) (Nat.le_of_ble_eq_true rfl) (Nat.zero_le _) (Nat.zero_le _) ?_
  have hM1 : zup h 1063 (zO 8 (mfs (upd (upd v 0 0) 11 0))) 1063 = some (zO 8 (mfs (upd (upd v 0 0) 11 0))) := zup_same _ _ _
  have hA1 : zup h 1063 (zO 8 (mfs (upd (upd v 0 0) 11 0))) 1066 = some (zI 241 R) := (zup_ne (by decide)).trans hA
  have hB1 : zup h 1063 (zO 8 (mfs (upd (upd v 0 0) 11 0))) 1070 = some (zI 40 S) := (zup_ne (by decide)).trans hB
  have hF1 : upd (upd v 0 0) 11 0 14 = zb b := hF
  generalize hg : zup h 1063 (zO 8 (mfs (upd (upd v 0 0) 11 0))) = h1 at hM1 hA1 hB1 ⊢
  refine z_aload_n (pc := 4) C dX12_near_4 0 rfl ?_
  refine z_iload_n (pc := 5) C dX12_near_5 1 rfl ?_
  refine z_cV1 (pc := 6) mX12_isMan C [_] dX12_near_6 lX12_288 mtX12_isMan (tX12_isMan (by first | assumption | omega) (by first | assumption | omega) (by first | assumption | omega) (by first | assumption | omega)) (by assumption) rfl rfl (by decide) (Nat.le_of_ble_eq_true rfl) (Nat.zero_le _) (Nat.zero_le _) ?_
  rw [wfB_m hb m]
  first | refine z_ifneB (pc := 9) C 18 dX12_near_9 (by decide) (fun hc9 => ?_) (fun hc9 => ?_) | refine z_ifneN (pc := 9) C 18 dX12_near_9 (by decide) (by omega) (fun hc9 => ?_) (fun hc9 => ?_) | refine z_if_ne (pc := 9) C 18 dX12_near_9 (by decide) (fun hc9 => ?_) (fun hc9 => ?_)
  · skip
    obtain ⟨j, hj, rfl⟩ := zlt_of (by omega) hc9
    have pj := pn_nI (j := j) (by omega)
    have e1 : S (8 * j) < R 1 := wT j hj 0 (by omega)
    have e2 := wP _ e1
    have e3 : R (23 + S (8 * j)) ||| 1 <<< S (8 * j) < 128 := Nat.or_lt_two_pow (n := 7) e2.2.1 (s1_lt (by omega))
    refine z_iconst (pc := 18) C dX12_near_18 (nI 0) (by decide) ?_
    refine z_istore_n (pc := 19) (lv' := [(2, _), (0, _), (1, _)]) C dX12_near_19 (by decide) rfl ?_
    refine z_aload_n (pc := 20) C dX12_near_20 1 rfl ?_
    refine z_getf (pc := 21) C dX12_near_21 fX12_20 (by assumption) (by first | rfl | assumption) ?_
    refine z_bipush (pc := 24) C dX12_near_24 (nI 23) (by decide) ?_
    refine z_aload_n (pc := 26) C dX12_near_26 1 rfl ?_
    refine z_getf (pc := 27) C dX12_near_27 fX12_32 (by assumption) (by first | rfl | assumption) ?_
    refine z_bipush (pc := 30) C dX12_near_30 (nI 8) (by decide) ?_
    refine z_iload_n (pc := 32) C dX12_near_32 2 rfl ?_
    first | refine z_imulN (pc := 33) C dX12_near_33 ?_ | refine z_imul (pc := 33) C dX12_near_33 ?_
    first | refine z_ialdN (pc := 34) C dX12_near_34 (by assumption) (by omega) (by decide) ?_ | refine z_ialdI (pc := 34) C dX12_near_34 (by assumption) (by omega) (by decide) ?_
    first | refine z_iaddN (pc := 35) C dX12_near_35 ?_ | refine z_iadd (pc := 35) C dX12_near_35 ?_
    first | refine z_ialdN (pc := 36) C dX12_near_36 (by assumption) (by omega) (by decide) ?_ | refine z_ialdI (pc := 36) C dX12_near_36 (by assumption) (by omega) (by decide) ?_
    refine z_iconst (pc := 37) C dX12_near_37 (nI 1) (by decide) ?_
    refine z_aload_n (pc := 38) C dX12_near_38 1 rfl ?_
    refine z_getf (pc := 39) C dX12_near_39 fX12_32 (by assumption) (by first | rfl | assumption) ?_
    refine z_bipush (pc := 42) C dX12_near_42 (nI 8) (by decide) ?_
    refine z_iload_n (pc := 44) C dX12_near_44 2 rfl ?_
    first | refine z_imulN (pc := 45) C dX12_near_45 ?_ | refine z_imul (pc := 45) C dX12_near_45 ?_
    first | refine z_ialdN (pc := 46) C dX12_near_46 (by assumption) (by omega) (by decide) ?_ | refine z_ialdI (pc := 46) C dX12_near_46 (by assumption) (by omega) (by decide) ?_
    first | refine z_ishlN (pc := 47) C dX12_near_47 (by omega) ?_ | refine z_ishl (pc := 47) C dX12_near_47 ?_
    first | refine z_iorN (pc := 48) C dX12_near_48 ?_ | refine z_ior (pc := 48) C dX12_near_48 ?_
    refine z_istore_n (pc := 49) (lv' := [(3, _), (2, _), (0, _), (1, _)]) C dX12_near_49 (by decide) rfl ?_
    refine z_iconst (pc := 50) C dX12_near_50 (nI 0) (by decide) ?_
    refine z_istore (pc := 51) (lv' := [(4, _), (3, _), (2, _), (0, _), (1, _)]) C dX12_near_51 (by decide) rfl ?_
    refine z_sub (lv' := [(0, _), (1, _), (2, _), (3, _), (4, _)]) [3, 4, 2, 1, 0] rfl ?_
    have lp53 : ∀ (f : Nat) (k acc : Nat), (k + f = R 1 ∧ acc = snr R S (R (23 + S (8 * j)) ||| 1 <<< S (8 * j)) k) → Zc X mX12_near (zEnd X (fun r hh n' => r = (some (.int (aNear R S (nI j)).1)) ∧ hh = (zup h 1063 (zO 8 (mfs (mv v (aNear R S (nI j)).2)))) ∧ n' = n) 0 0) 53 [(0, .ref 1063), (1, .int (nI j)), (2, .int (nI acc)), (3, .int (nI (R (23 + S (8 * j)) ||| 1 <<< S (8 * j)))), (4, .int (nI k))] [] h1 n 0 0 := by
      intro f
      induction f using Nat.strongRecOn with
      | _ f ih =>
        intro k acc hk
        obtain ⟨hk, he⟩ := hk
        refine z_iload (pc := 53) C dX12_near_53 4 rfl ?_
        refine z_aload_n (pc := 55) C dX12_near_55 0 rfl ?_
        refine z_getf (pc := 56) C dX12_near_56 fX12_20 (by assumption) (by first | rfl | assumption) ?_
        refine z_iconst (pc := 59) C dX12_near_59 (nI 1) (by decide) ?_
        first | refine z_ialdN (pc := 60) C dX12_near_60 (by assumption) (by omega) (by decide) ?_ | refine z_ialdI (pc := 60) C dX12_near_60 (by assumption) (by omega) (by decide) ?_
        first | refine z_icmpgeN (pc := 61) C 92 dX12_near_61 (by decide) (by omega) (by omega) (fun hc61 => ?_) (fun hc61 => ?_) | refine z_icmp_ge (pc := 61) C 92 dX12_near_61 (by decide) (fun hc61 => ?_) (fun hc61 => ?_)
        · skip
          refine z_iload_n (pc := 92) C dX12_near_92 2 rfl ?_
          refine z_iret (pc := 93) C dX12_near_93 rfl (Nat.zero_le _) (Nat.zero_le _) ⟨?_, ?_, rfl⟩
          · obtain rfl : f = 0 := (by omega); obtain rfl : k = R 1 := (by omega); simp [aNear, aM, *]
          · first | exact mz0 hg (by simp [aNear, aM, *]) | exact mz1 hg (by simp [aNear, aM, *] <;> rfl)
        · skip
          refine z_iload_n (pc := 64) C dX12_near_64 2 rfl ?_
          refine z_iload_n (pc := 65) C dX12_near_65 3 rfl ?_
          refine z_iload (pc := 66) C dX12_near_66 4 rfl ?_
          refine z_cS1 (pc := 68) mX12_hasBit C [_, _] dX12_near_68 lX12_236 mtX12_hasBit (tX12_hasBit (by first | assumption | omega) (by first | assumption | omega)) rfl rfl (by decide) (Nat.le_of_ble_eq_true rfl) (Nat.zero_le _) (Nat.zero_le _) ?_
          first | refine z_ifeqB (pc := 71) C 83 dX12_near_71 (by decide) (fun hc71 => ?_) (fun hc71 => ?_) | refine z_ifeqN (pc := 71) C 83 dX12_near_71 (by decide) (by omega) (fun hc71 => ?_) (fun hc71 => ?_) | refine z_if_eq (pc := 71) C 83 dX12_near_71 (by decide) (fun hc71 => ?_) (fun hc71 => ?_)
          · skip
            refine z_iconst (pc := 83) C dX12_near_83 (nI 0) (by decide) ?_
            first | refine z_iorN (pc := 84) C dX12_near_84 ?_ | refine z_ior (pc := 84) C dX12_near_84 ?_
            refine z_istore_n (pc := 85) (lv' := [(2, _), (0, _), (1, _), (3, _), (4, _)]) C dX12_near_85 (by decide) rfl ?_
            first | refine z_iincN (pc := 86) (lv' := [(4, _), (2, _), (0, _), (1, _), (3, _)]) C 1 dX12_near_86 4 rfl (by decide) (by decide) rfl ?_ | refine z_iinc (pc := 86) (lv' := [(4, _), (2, _), (0, _), (1, _), (3, _)]) C dX12_near_86 4 rfl _ rfl (by decide) rfl ?_
            refine z_goto (pc := 89) C 53 dX12_near_89 (by decide) ?_
            refine z_sub (lv' := [(0, _), (1, _), (2, _), (3, _), (4, _)]) [2, 3, 1, 4, 0] rfl ?_
            exact ih (f - 1) (by omega) (k + 1) _ ⟨by omega, by rw [he, snr, hc71]; rfl⟩
          · skip
            refine z_aload_n (pc := 74) C dX12_near_74 0 rfl ?_
            refine z_iload (pc := 75) C dX12_near_75 4 rfl ?_
            refine z_cV1 (pc := 77) mX12_killsAt C [_] dX12_near_77 lX12_273 mtX12_killsAt (tX12_killsAt (by first | assumption | omega) (by first | assumption | omega) (by first | assumption | omega) (by first | assumption | omega) (by first | assumption | omega) (by first | assumption | omega)) (by assumption) rfl rfl (by decide) (Nat.le_of_ble_eq_true rfl) (Nat.zero_le _) (Nat.zero_le _) ?_
            refine z_goto (pc := 80) C 84 dX12_near_80 (by decide) ?_
            first | refine z_iorN (pc := 84) C dX12_near_84 ?_ | refine z_ior (pc := 84) C dX12_near_84 ?_
            refine z_istore_n (pc := 85) (lv' := [(2, _), (0, _), (1, _), (3, _), (4, _)]) C dX12_near_85 (by decide) rfl ?_
            first | refine z_iincN (pc := 86) (lv' := [(4, _), (2, _), (0, _), (1, _), (3, _)]) C 1 dX12_near_86 4 rfl (by decide) (by decide) rfl ?_ | refine z_iinc (pc := 86) (lv' := [(4, _), (2, _), (0, _), (1, _), (3, _)]) C dX12_near_86 4 rfl _ rfl (by decide) rfl ?_
            refine z_goto (pc := 89) C 53 dX12_near_89 (by decide) ?_
            refine z_sub (lv' := [(0, _), (1, _), (2, _), (3, _), (4, _)]) [2, 3, 1, 4, 0] rfl ?_
            exact ih (f - 1) (by omega) (k + 1) _ ⟨by omega, by rw [he, snr, hc71]; rfl⟩
    exact lp53 (R 1) 0 0 ⟨by omega, rfl⟩
  · skip
    refine z_aload_n (pc := 12) C dX12_near_12 0 rfl ?_
    refine z_iconst (pc := 13) C dX12_near_13 (nI 1) (by decide) ?_
    refine z_cV1 (pc := 14) mX12_no C [_] dX12_near_14 lX12_170 mtX12_no (tX12_no (by first | assumption | omega)) (by assumption) rfl rfl (by decide) (Nat.le_of_ble_eq_true rfl) (Nat.zero_le _) (Nat.zero_le _) ?_
    refine z_iret (pc := 17) C dX12_near_17 rfl (Nat.zero_le _) (Nat.zero_le _) ⟨?_, ?_, rfl⟩
    · simp [aNear, aM, *]
    · first | exact mz0 hg (by simp [aNear, aM, *]) | exact mz1 hg (by simp [aNear, aM, *] <;> rfl)

set_option maxRecDepth 20000 in
set_option maxHeartbeats 1000000 in
theorem tX12_room {h : ZH} {v : Nat → Int32} {R S : Nat → Nat} {b : Bool}  (hM : h 1063 = some (zO 8 (mfs v))) (hA : h 1066 = some (zI 241 R)) (hB : h 1070 = some (zI 40 S)) (hR : wfR R) (hS : wfS R S) (hF : v 14 = zb b) (hb : wfB b R) : ZD mX12_room 5 [.ref 1063] h (some (.int (aRoom R S).1)) (zup h 1063 (zO 8 (mfs (mv v (aRoom R S).2)))) := by
  intro n
  obtain ⟨w1, w3, w4, w5, w0, wP, wM, wK, wX⟩ := id hR
  obtain ⟨wT, wL, wB⟩ := id hS
  refine z_enter (lv := [(0, _)]) (by decide) (Nat.le_of_ble_eq_true rfl) rfl (fun X C => ?_)
  refine z_aload_n (pc := 0) C dX12_room_0 0 rfl ?_
  refine z_cV0 (pc := 1) mX12_good C [] dX12_room_1 lX12_167 mtX12_good (tX12_good (by first | assumption | omega)) (by assumption) rfl rfl (by decide) (Nat.le_of_ble_eq_true rfl) (Nat.zero_le _) (Nat.zero_le _) ?_
  have hM1 : zup h 1063 (zO 8 (mfs (upd (upd v 0 0) 11 0))) 1063 = some (zO 8 (mfs (upd (upd v 0 0) 11 0))) := zup_same _ _ _
  have hA1 : zup h 1063 (zO 8 (mfs (upd (upd v 0 0) 11 0))) 1066 = some (zI 241 R) := (zup_ne (by decide)).trans hA
  have hB1 : zup h 1063 (zO 8 (mfs (upd (upd v 0 0) 11 0))) 1070 = some (zI 40 S) := (zup_ne (by decide)).trans hB
  have hF1 : upd (upd v 0 0) 11 0 14 = zb b := hF
  generalize hg : zup h 1063 (zO 8 (mfs (upd (upd v 0 0) 11 0))) = h1 at hM1 hA1 hB1 ⊢
  refine z_aload_n (pc := 4) C dX12_room_4 0 rfl ?_
  refine z_getf (pc := 5) C dX12_room_5 fX12_180 (by assumption) (by first | rfl | assumption) ?_
  rw [hF1, hb.1]
  first | refine z_ifneB (pc := 8) C 17 dX12_room_8 (by decide) (fun hc8 => ?_) (fun hc8 => ?_) | refine z_ifneN (pc := 8) C 17 dX12_room_8 (by decide) (by omega) (fun hc8 => ?_) (fun hc8 => ?_) | refine z_if_ne (pc := 8) C 17 dX12_room_8 (by decide) (fun hc8 => ?_) (fun hc8 => ?_)
  · skip
    have e0 : 0 < R 1 := of_decide_eq_true hc8
    refine z_iconst (pc := 17) C dX12_room_17 (nI 0) (by decide) ?_
    refine z_istore_n (pc := 18) (lv' := [(1, _), (0, _)]) C dX12_room_18 (by decide) rfl ?_
    refine z_iconst (pc := 19) C dX12_room_19 (nI 0) (by decide) ?_
    refine z_istore_n (pc := 20) (lv' := [(2, _), (1, _), (0, _)]) C dX12_room_20 (by decide) rfl ?_
    refine z_sub (lv' := [(0, _), (1, _), (2, _)]) [2, 1, 0] rfl ?_
    have lp21 : ∀ (f : Nat) (k acc : Nat), (k + f = R 1 ∧ acc = srm R S k) → Zc X mX12_room (zEnd X (fun r hh n' => r = (some (.int (aRoom R S).1)) ∧ hh = (zup h 1063 (zO 8 (mfs (mv v (aRoom R S).2)))) ∧ n' = n) 0 0) 21 [(0, .ref 1063), (1, .int (nI acc)), (2, .int (nI k))] [] h1 n 0 0 := by
      intro f
      induction f using Nat.strongRecOn with
      | _ f ih =>
        intro k acc hk
        obtain ⟨hk, he⟩ := hk
        have e3 := sone_le (sKat R S k) 8
        have e4 : sKat R S k < 128 := sbits_lt7 _ (by omega)
        refine z_iload_n (pc := 21) C dX12_room_21 2 rfl ?_
        refine z_aload_n (pc := 22) C dX12_room_22 0 rfl ?_
        refine z_getf (pc := 23) C dX12_room_23 fX12_20 (by assumption) (by first | rfl | assumption) ?_
        refine z_iconst (pc := 26) C dX12_room_26 (nI 1) (by decide) ?_
        first | refine z_ialdN (pc := 27) C dX12_room_27 (by assumption) (by omega) (by decide) ?_ | refine z_ialdI (pc := 27) C dX12_room_27 (by assumption) (by omega) (by decide) ?_
        first | refine z_icmpgeN (pc := 28) C 84 dX12_room_28 (by decide) (by omega) (by omega) (fun hc28 => ?_) (fun hc28 => ?_) | refine z_icmp_ge (pc := 28) C 84 dX12_room_28 (by decide) (fun hc28 => ?_) (fun hc28 => ?_)
        · skip
          refine z_iload_n (pc := 84) C dX12_room_84 1 rfl ?_
          refine z_iret (pc := 85) C dX12_room_85 rfl (Nat.zero_le _) (Nat.zero_le _) ⟨?_, ?_, rfl⟩
          · obtain rfl : f = 0 := (by omega); obtain rfl : k = R 1 := (by omega); simp [aRoom, aF, e0, he]
          · first | exact mz0 hg (by simp [aRoom, aF, *]) | exact mz1 hg (by simp [aRoom, aF, *] <;> rfl)
        · skip
          refine z_iload_n (pc := 31) C dX12_room_31 1 rfl ?_
          refine z_aload_n (pc := 32) C dX12_room_32 0 rfl ?_
          refine z_getf (pc := 33) C dX12_room_33 fX12_32 (by assumption) (by first | rfl | assumption) ?_
          refine z_bipush (pc := 36) C dX12_room_36 (nI 38) (by decide) ?_
          first | refine z_ialdN (pc := 38) C dX12_room_38 (by assumption) (by omega) (by decide) ?_ | refine z_ialdI (pc := 38) C dX12_room_38 (by assumption) (by omega) (by decide) ?_
          refine z_iload_n (pc := 39) C dX12_room_39 2 rfl ?_
          refine z_cS1 (pc := 40) mX12_hasBit C [_, _] dX12_room_40 lX12_236 mtX12_hasBit (tX12_hasBit (by first | assumption | omega) (by first | assumption | omega)) rfl rfl (by decide) (Nat.le_of_ble_eq_true rfl) (Nat.zero_le _) (Nat.zero_le _) ?_
          first | refine z_ifneB (pc := 43) C 54 dX12_room_43 (by decide) (fun hc43 => ?_) (fun hc43 => ?_) | refine z_ifneN (pc := 43) C 54 dX12_room_43 (by decide) (by omega) (fun hc43 => ?_) (fun hc43 => ?_) | refine z_if_ne (pc := 43) C 54 dX12_room_43 (by decide) (fun hc43 => ?_) (fun hc43 => ?_)
          · skip
            refine z_iconst (pc := 54) C dX12_room_54 (nI 0) (by decide) ?_
            refine z_goto (pc := 55) C 76 dX12_room_55 (by decide) ?_
            first | refine z_iaddN (pc := 76) C dX12_room_76 ?_ | refine z_iadd (pc := 76) C dX12_room_76 ?_
            refine z_istore_n (pc := 77) (lv' := [(1, _), (0, _), (2, _)]) C dX12_room_77 (by decide) rfl ?_
            first | refine z_iincN (pc := 78) (lv' := [(2, _), (1, _), (0, _)]) C 1 dX12_room_78 2 rfl (by decide) (by decide) rfl ?_ | refine z_iinc (pc := 78) (lv' := [(2, _), (1, _), (0, _)]) C dX12_room_78 2 rfl _ rfl (by decide) rfl ?_
            refine z_goto (pc := 81) C 21 dX12_room_81 (by decide) ?_
            refine z_sub (lv' := [(0, _), (1, _), (2, _)]) [2, 1, 0] rfl ?_
            exact ih (f - 1) (by omega) (k + 1) _ ⟨by omega, by rw [he, srm, sCrw]; clear he ih; simp [*]⟩
          · skip
            refine z_aload_n (pc := 46) C dX12_room_46 0 rfl ?_
            refine z_iload_n (pc := 47) C dX12_room_47 2 rfl ?_
            refine z_cV1 (pc := 48) mX12_isCrowded C [_] dX12_room_48 lX12_285 mtX12_isCrowded (tX12_isCrowded (by first | assumption | omega) (by first | assumption | omega) (by first | assumption | omega) (by first | assumption | omega) (by first | assumption | omega) (by first | assumption | omega)) (by assumption) rfl rfl (by decide) (Nat.le_of_ble_eq_true rfl) (Nat.zero_le _) (Nat.zero_le _) ?_
            first | refine z_ifeqB (pc := 51) C 58 dX12_room_51 (by decide) (fun hc51 => ?_) (fun hc51 => ?_) | refine z_ifeqN (pc := 51) C 58 dX12_room_51 (by decide) (by omega) (fun hc51 => ?_) (fun hc51 => ?_) | refine z_if_eq (pc := 51) C 58 dX12_room_51 (by decide) (fun hc51 => ?_) (fun hc51 => ?_)
            · skip
              have e5 := of_decide_eq_false hc51
              refine z_aload_n (pc := 58) C dX12_room_58 0 rfl ?_
              refine z_getf (pc := 59) C dX12_room_59 fX12_20 (by assumption) (by first | rfl | assumption) ?_
              refine z_bipush (pc := 62) C dX12_room_62 (nI 9) (by decide) ?_
              refine z_iload_n (pc := 64) C dX12_room_64 2 rfl ?_
              first | refine z_iaddN (pc := 65) C dX12_room_65 ?_ | refine z_iadd (pc := 65) C dX12_room_65 ?_
              first | refine z_ialdN (pc := 66) C dX12_room_66 (by assumption) (by omega) (by decide) ?_ | refine z_ialdI (pc := 66) C dX12_room_66 (by assumption) (by omega) (by decide) ?_
              refine z_aload_n (pc := 67) C dX12_room_67 0 rfl ?_
              refine z_iload_n (pc := 68) C dX12_room_68 2 rfl ?_
              refine z_cV1 (pc := 69) mX12_killsAt C [_] dX12_room_69 lX12_273 mtX12_killsAt (tX12_killsAt (by first | assumption | omega) (by first | assumption | omega) (by first | assumption | omega) (by first | assumption | omega) (by first | assumption | omega) (by first | assumption | omega)) (by assumption) rfl rfl (by decide) (Nat.le_of_ble_eq_true rfl) (Nat.zero_le _) (Nat.zero_le _) ?_
              refine z_cS1 (pc := 72) mX12_ones C [_] dX12_room_72 lX12_276 mtX12_ones (tX12_ones (by first | assumption | omega)) rfl rfl (by decide) (Nat.le_of_ble_eq_true rfl) (Nat.zero_le _) (Nat.zero_le _) ?_
              first | refine z_isubN (pc := 75) C dX12_room_75 (by omega) ?_ | refine z_isub (pc := 75) C dX12_room_75 ?_
              first | refine z_iaddN (pc := 76) C dX12_room_76 ?_ | refine z_iadd (pc := 76) C dX12_room_76 ?_
              refine z_istore_n (pc := 77) (lv' := [(1, _), (0, _), (2, _)]) C dX12_room_77 (by decide) rfl ?_
              first | refine z_iincN (pc := 78) (lv' := [(2, _), (1, _), (0, _)]) C 1 dX12_room_78 2 rfl (by decide) (by decide) rfl ?_ | refine z_iinc (pc := 78) (lv' := [(2, _), (1, _), (0, _)]) C dX12_room_78 2 rfl _ rfl (by decide) rfl ?_
              refine z_goto (pc := 81) C 21 dX12_room_81 (by decide) ?_
              refine z_sub (lv' := [(0, _), (1, _), (2, _)]) [2, 1, 0] rfl ?_
              exact ih (f - 1) (by omega) (k + 1) _ ⟨by omega, by rw [he, srm, sCrw]; clear he ih; simp [*]⟩
            · skip
              refine z_iconst (pc := 54) C dX12_room_54 (nI 0) (by decide) ?_
              refine z_goto (pc := 55) C 76 dX12_room_55 (by decide) ?_
              first | refine z_iaddN (pc := 76) C dX12_room_76 ?_ | refine z_iadd (pc := 76) C dX12_room_76 ?_
              refine z_istore_n (pc := 77) (lv' := [(1, _), (0, _), (2, _)]) C dX12_room_77 (by decide) rfl ?_
              first | refine z_iincN (pc := 78) (lv' := [(2, _), (1, _), (0, _)]) C 1 dX12_room_78 2 rfl (by decide) (by decide) rfl ?_ | refine z_iinc (pc := 78) (lv' := [(2, _), (1, _), (0, _)]) C dX12_room_78 2 rfl _ rfl (by decide) rfl ?_
              refine z_goto (pc := 81) C 21 dX12_room_81 (by decide) ?_
              refine z_sub (lv' := [(0, _), (1, _), (2, _)]) [2, 1, 0] rfl ?_
              exact ih (f - 1) (by omega) (k + 1) _ ⟨by omega, by rw [he, srm, sCrw]; clear he ih; simp [*]⟩
    exact lp21 (R 1) 0 0 ⟨by omega, rfl⟩
  · skip
    have e0 : ¬ 0 < R 1 := of_decide_eq_false hc8
    refine z_aload_n (pc := 11) C dX12_room_11 0 rfl ?_
    refine z_iconst (pc := 12) C dX12_room_12 (nI 1) (by decide) ?_
    refine z_cV1 (pc := 13) mX12_no C [_] dX12_room_13 lX12_170 mtX12_no (tX12_no (by first | assumption | omega)) (by assumption) rfl rfl (by decide) (Nat.le_of_ble_eq_true rfl) (Nat.zero_le _) (Nat.zero_le _) ?_
    refine z_iret (pc := 16) C dX12_room_16 rfl (Nat.zero_le _) (Nat.zero_le _) ⟨?_, ?_, rfl⟩
    · simp [aRoom, aF, e0]
    · first | exact mz0 hg (by simp [aRoom, aF, *]) | exact mz1 hg (by simp [aRoom, aF, *] <;> rfl)

set_option maxRecDepth 20000 in
set_option maxHeartbeats 1000000 in
theorem tX12_apart {h : ZH} {v : Nat → Int32} {R S : Nat → Nat} {b : Bool} {p q : Int32} (hM : h 1063 = some (zO 8 (mfs v))) (hA : h 1066 = some (zI 241 R)) (hB : h 1070 = some (zI 40 S)) (hR : wfR R) (hS : wfS R S) (hF : v 14 = zb b) (hb : wfB b R) : ZD mX12_apart 3 [.ref 1063, .int p, .int q] h (some (.int (aApart R p q).1)) (zup h 1063 (zO 8 (mfs (mv v (aApart R p q).2)))) := by
  intro n
  obtain ⟨w1, w3, w4, w5, w0, wP, wM, wK, wX⟩ := id hR
  obtain ⟨wT, wL, wB⟩ := id hS
  refine z_enter (lv := [(0, _), (1, _), (2, _)]) (by decide) (Nat.le_of_ble_eq_true rfl) rfl (fun X C => ?_)
  refine z_aload_n (pc := 0) C dX12_apart_0 0 rfl ?_
  refine z_cV0 (pc := 1) mX12_good C [] dX12_apart_1 lX12_167 mtX12_good (tX12_good (by first | assumption | omega)) (by assumption) rfl rfl (by decide) (Nat.le_of_ble_eq_true rfl) (Nat.zero_le _) (Nat.zero_le _) ?_
  have hM1 : zup h 1063 (zO 8 (mfs (upd (upd v 0 0) 11 0))) 1063 = some (zO 8 (mfs (upd (upd v 0 0) 11 0))) := zup_same _ _ _
  have hA1 : zup h 1063 (zO 8 (mfs (upd (upd v 0 0) 11 0))) 1066 = some (zI 241 R) := (zup_ne (by decide)).trans hA
  have hB1 : zup h 1063 (zO 8 (mfs (upd (upd v 0 0) 11 0))) 1070 = some (zI 40 S) := (zup_ne (by decide)).trans hB
  have hF1 : upd (upd v 0 0) 11 0 14 = zb b := hF
  generalize hg : zup h 1063 (zO 8 (mfs (upd (upd v 0 0) 11 0))) = h1 at hM1 hA1 hB1 ⊢
  refine z_aload_n (pc := 4) C dX12_apart_4 0 rfl ?_
  refine z_iload_n (pc := 5) C dX12_apart_5 1 rfl ?_
  refine z_cV1 (pc := 6) mX12_isPlace C [_] dX12_apart_6 lX12_279 mtX12_isPlace (tX12_isPlace (by first | assumption | omega) (by first | assumption | omega) (by first | assumption | omega) (by first | assumption | omega)) (by assumption) rfl rfl (by decide) (Nat.le_of_ble_eq_true rfl) (Nat.zero_le _) (Nat.zero_le _) ?_
  rw [wfB_p hb p]
  first | refine z_ifeqB (pc := 9) C 30 dX12_apart_9 (by decide) (fun hc9 => ?_) (fun hc9 => ?_) | refine z_ifeqN (pc := 9) C 30 dX12_apart_9 (by decide) (by omega) (fun hc9 => ?_) (fun hc9 => ?_) | refine z_if_eq (pc := 9) C 30 dX12_apart_9 (by decide) (fun hc9 => ?_) (fun hc9 => ?_)
  · skip
    refine z_aload_n (pc := 30) C dX12_apart_30 0 rfl ?_
    refine z_iconst (pc := 31) C dX12_apart_31 (nI 1) (by decide) ?_
    refine z_cV1 (pc := 32) mX12_no C [_] dX12_apart_32 lX12_170 mtX12_no (tX12_no (by first | assumption | omega)) (by assumption) rfl rfl (by decide) (Nat.le_of_ble_eq_true rfl) (Nat.zero_le _) (Nat.zero_le _) ?_
    refine z_iret (pc := 35) C dX12_apart_35 rfl (Nat.zero_le _) (Nat.zero_le _) ⟨?_, ?_, rfl⟩
    · simp [aApart, *]
    · first | exact mz0 hg (by simp [aApart, *]) | exact mz1 hg (by simp [aApart, *] <;> rfl)
  · skip
    refine z_aload_n (pc := 12) C dX12_apart_12 0 rfl ?_
    refine z_iload_n (pc := 13) C dX12_apart_13 2 rfl ?_
    refine z_cV1 (pc := 14) mX12_isPlace C [_] dX12_apart_14 lX12_279 mtX12_isPlace (tX12_isPlace (by first | assumption | omega) (by first | assumption | omega) (by first | assumption | omega) (by first | assumption | omega)) (by assumption) rfl rfl (by decide) (Nat.le_of_ble_eq_true rfl) (Nat.zero_le _) (Nat.zero_le _) ?_
    rw [wfB_p hb q]
    first | refine z_ifeqB (pc := 17) C 30 dX12_apart_17 (by decide) (fun hc17 => ?_) (fun hc17 => ?_) | refine z_ifeqN (pc := 17) C 30 dX12_apart_17 (by decide) (by omega) (fun hc17 => ?_) (fun hc17 => ?_) | refine z_if_eq (pc := 17) C 30 dX12_apart_17 (by decide) (fun hc17 => ?_) (fun hc17 => ?_)
    · skip
      refine z_aload_n (pc := 30) C dX12_apart_30 0 rfl ?_
      refine z_iconst (pc := 31) C dX12_apart_31 (nI 1) (by decide) ?_
      refine z_cV1 (pc := 32) mX12_no C [_] dX12_apart_32 lX12_170 mtX12_no (tX12_no (by first | assumption | omega)) (by assumption) rfl rfl (by decide) (Nat.le_of_ble_eq_true rfl) (Nat.zero_le _) (Nat.zero_le _) ?_
      refine z_iret (pc := 35) C dX12_apart_35 rfl (Nat.zero_le _) (Nat.zero_le _) ⟨?_, ?_, rfl⟩
      · simp [aApart, *]
      · first | exact mz0 hg (by simp [aApart, *]) | exact mz1 hg (by simp [aApart, *] <;> rfl)
    · skip
      obtain ⟨j, hj, rfl⟩ := zlt_of (by omega) hc9
      have pj := pn_nI (j := j) (by omega)
      obtain ⟨i, hi, rfl⟩ := zlt_of (by omega) hc17
      have pi := pn_nI (j := i) (by omega)
      refine z_aload_n (pc := 20) C dX12_apart_20 0 rfl ?_
      refine z_iload_n (pc := 21) C dX12_apart_21 1 rfl ?_
      refine z_iload_n (pc := 22) C dX12_apart_22 2 rfl ?_
      refine z_iconst (pc := 23) C dX12_apart_23 (nI 0) (by decide) ?_
      refine z_cV1 (pc := 24) mX12_stepsTo C [_, _, _] dX12_apart_24 lX12_310 mtX12_stepsTo (tX12_stepsTo (b := 0) hM1 hA1 hR (by omega) (by omega) (by decide)) (by assumption) rfl rfl (by decide) (Nat.le_of_ble_eq_true rfl) (Nat.zero_le _) (Nat.zero_le _) ?_
      refine z_goto (pc := 27) C 35 dX12_apart_27 (by decide) ?_
      refine z_iret (pc := 35) C dX12_apart_35 rfl (Nat.zero_le _) (Nat.zero_le _) ⟨?_, ?_, rfl⟩
      · simp [aApart, *]
      · first | exact mz0 hg (by simp [aApart, *]) | exact mz1 hg (by simp [aApart, *] <;> rfl)

set_option maxRecDepth 20000 in
set_option maxHeartbeats 1000000 in
theorem tX12_unseen {h : ZH} {v : Nat → Int32} {R S : Nat → Nat} {b : Bool} {m p : Int32} (hM : h 1063 = some (zO 8 (mfs v))) (hA : h 1066 = some (zI 241 R)) (hB : h 1070 = some (zI 40 S)) (hR : wfR R) (hS : wfS R S) (hF : v 14 = zb b) (hb : wfB b R) : ZD mX12_unseen 4 [.ref 1063, .int m, .int p] h (some (.int (aUns R S m p).1)) (zup h 1063 (zO 8 (mfs (mv v (aUns R S m p).2)))) := by
  intro n
  obtain ⟨w1, w3, w4, w5, w0, wP, wM, wK, wX⟩ := id hR
  obtain ⟨wT, wL, wB⟩ := id hS
  refine z_enter (lv := [(0, _), (1, _), (2, _)]) (by decide) (Nat.le_of_ble_eq_true rfl) rfl (fun X C => ?_)
  refine z_aload_n (pc := 0) C dX12_unseen_0 0 rfl ?_
  refine z_cV0 (pc := 1) mX12_good C [] dX12_unseen_1 lX12_167 mtX12_good (tX12_good (by first | assumption | omega)) (by assumption) rfl rfl (by decide) (Nat.le_of_ble_eq_true rfl) (Nat.zero_le _) (Nat.zero_le _) ?_
  have hM1 : zup h 1063 (zO 8 (mfs (upd (upd v 0 0) 11 0))) 1063 = some (zO 8 (mfs (upd (upd v 0 0) 11 0))) := zup_same _ _ _
  have hA1 : zup h 1063 (zO 8 (mfs (upd (upd v 0 0) 11 0))) 1066 = some (zI 241 R) := (zup_ne (by decide)).trans hA
  have hB1 : zup h 1063 (zO 8 (mfs (upd (upd v 0 0) 11 0))) 1070 = some (zI 40 S) := (zup_ne (by decide)).trans hB
  have hF1 : upd (upd v 0 0) 11 0 14 = zb b := hF
  generalize hg : zup h 1063 (zO 8 (mfs (upd (upd v 0 0) 11 0))) = h1 at hM1 hA1 hB1 ⊢
  refine z_aload_n (pc := 4) C dX12_unseen_4 0 rfl ?_
  refine z_iload_n (pc := 5) C dX12_unseen_5 1 rfl ?_
  refine z_cV1 (pc := 6) mX12_isMan C [_] dX12_unseen_6 lX12_288 mtX12_isMan (tX12_isMan (by first | assumption | omega) (by first | assumption | omega) (by first | assumption | omega) (by first | assumption | omega)) (by assumption) rfl rfl (by decide) (Nat.le_of_ble_eq_true rfl) (Nat.zero_le _) (Nat.zero_le _) ?_
  rw [wfB_m hb m]
  first | refine z_ifeqB (pc := 9) C 42 dX12_unseen_9 (by decide) (fun hc9 => ?_) (fun hc9 => ?_) | refine z_ifeqN (pc := 9) C 42 dX12_unseen_9 (by decide) (by omega) (fun hc9 => ?_) (fun hc9 => ?_) | refine z_if_eq (pc := 9) C 42 dX12_unseen_9 (by decide) (fun hc9 => ?_) (fun hc9 => ?_)
  · skip
    refine z_aload_n (pc := 42) C dX12_unseen_42 0 rfl ?_
    refine z_iconst (pc := 43) C dX12_unseen_43 (nI 1) (by decide) ?_
    refine z_cV1 (pc := 44) mX12_no C [_] dX12_unseen_44 lX12_170 mtX12_no (tX12_no (by first | assumption | omega)) (by assumption) rfl rfl (by decide) (Nat.le_of_ble_eq_true rfl) (Nat.zero_le _) (Nat.zero_le _) ?_
    refine z_iret (pc := 47) C dX12_unseen_47 rfl (Nat.zero_le _) (Nat.zero_le _) ⟨?_, ?_, rfl⟩
    · simp [aUns, aMP, *]
    · first | exact mz0 hg (by simp [aUns, aMP, *]) | exact mz1 hg (by simp [aUns, aMP, *] <;> rfl)
  · skip
    refine z_aload_n (pc := 12) C dX12_unseen_12 0 rfl ?_
    refine z_iload_n (pc := 13) C dX12_unseen_13 2 rfl ?_
    refine z_cV1 (pc := 14) mX12_isPlace C [_] dX12_unseen_14 lX12_279 mtX12_isPlace (tX12_isPlace (by first | assumption | omega) (by first | assumption | omega) (by first | assumption | omega) (by first | assumption | omega)) (by assumption) rfl rfl (by decide) (Nat.le_of_ble_eq_true rfl) (Nat.zero_le _) (Nat.zero_le _) ?_
    rw [wfB_p hb p]
    first | refine z_ifeqB (pc := 17) C 42 dX12_unseen_17 (by decide) (fun hc17 => ?_) (fun hc17 => ?_) | refine z_ifeqN (pc := 17) C 42 dX12_unseen_17 (by decide) (by omega) (fun hc17 => ?_) (fun hc17 => ?_) | refine z_if_eq (pc := 17) C 42 dX12_unseen_17 (by decide) (fun hc17 => ?_) (fun hc17 => ?_)
    · skip
      refine z_aload_n (pc := 42) C dX12_unseen_42 0 rfl ?_
      refine z_iconst (pc := 43) C dX12_unseen_43 (nI 1) (by decide) ?_
      refine z_cV1 (pc := 44) mX12_no C [_] dX12_unseen_44 lX12_170 mtX12_no (tX12_no (by first | assumption | omega)) (by assumption) rfl rfl (by decide) (Nat.le_of_ble_eq_true rfl) (Nat.zero_le _) (Nat.zero_le _) ?_
      refine z_iret (pc := 47) C dX12_unseen_47 rfl (Nat.zero_le _) (Nat.zero_le _) ⟨?_, ?_, rfl⟩
      · simp [aUns, aMP, *]
      · first | exact mz0 hg (by simp [aUns, aMP, *]) | exact mz1 hg (by simp [aUns, aMP, *] <;> rfl)
    · skip
      obtain ⟨j, hj, rfl⟩ := zlt_of (by omega) hc9
      have pj := pn_nI (j := j) (by omega)
      obtain ⟨i, hi, rfl⟩ := zlt_of (by omega) hc17
      have pi := pn_nI (j := i) (by omega)
      have e1 : S (8 * j) < R 1 := wT j hj 0 (by omega)
      have e2 := sSee_lt hR hS j
      refine z_aload_n (pc := 20) C dX12_unseen_20 0 rfl ?_
      refine z_aload_n (pc := 21) C dX12_unseen_21 0 rfl ?_
      refine z_getf (pc := 22) C dX12_unseen_22 fX12_32 (by assumption) (by first | rfl | assumption) ?_
      refine z_bipush (pc := 25) C dX12_unseen_25 (nI 8) (by decide) ?_
      refine z_iload_n (pc := 27) C dX12_unseen_27 1 rfl ?_
      first | refine z_imulN (pc := 28) C dX12_unseen_28 ?_ | refine z_imul (pc := 28) C dX12_unseen_28 ?_
      first | refine z_ialdN (pc := 29) C dX12_unseen_29 (by assumption) (by omega) (by decide) ?_ | refine z_ialdI (pc := 29) C dX12_unseen_29 (by assumption) (by omega) (by decide) ?_
      refine z_iload_n (pc := 30) C dX12_unseen_30 2 rfl ?_
      refine z_aload_n (pc := 31) C dX12_unseen_31 0 rfl ?_
      refine z_iload_n (pc := 32) C dX12_unseen_32 1 rfl ?_
      refine z_cV1 (pc := 33) mX12_seenBy C [_] dX12_unseen_33 lX12_314 mtX12_seenBy (tX12_seenBy (by first | assumption | omega) (by first | assumption | omega) (by first | assumption | omega) (by first | assumption | omega) (by first | assumption | omega) (by first | assumption | omega)) (by assumption) rfl rfl (by decide) (Nat.le_of_ble_eq_true rfl) (Nat.zero_le _) (Nat.zero_le _) ?_
      refine z_cV1 (pc := 36) mX12_stepsTo C [_, _, _] dX12_unseen_36 lX12_310 mtX12_stepsTo (tX12_stepsTo (by first | assumption | omega) (by first | assumption | omega) (by first | assumption | omega) (by first | assumption | omega) (by first | assumption | omega) (by first | assumption | omega)) (by assumption) rfl rfl (by decide) (Nat.le_of_ble_eq_true rfl) (Nat.zero_le _) (Nat.zero_le _) ?_
      refine z_goto (pc := 39) C 47 dX12_unseen_39 (by decide) ?_
      refine z_iret (pc := 47) C dX12_unseen_47 rfl (Nat.zero_le _) (Nat.zero_le _) ⟨?_, ?_, rfl⟩
      · simp [aUns, aMP, *]
      · first | exact mz0 hg (by simp [aUns, aMP, *]) | exact mz1 hg (by simp [aUns, aMP, *] <;> rfl)

set_option maxRecDepth 20000 in
set_option maxHeartbeats 1000000 in
theorem tX12_safe {h : ZH} {v : Nat → Int32} {R S : Nat → Nat} {b : Bool} {m : Int32} (hM : h 1063 = some (zO 8 (mfs v))) (hA : h 1066 = some (zI 241 R)) (hB : h 1070 = some (zI 40 S)) (hR : wfR R) (hS : wfS R S) (hF : v 14 = zb b) (hb : wfB b R) : ZD mX12_safe 4 [.ref 1063, .int m] h (some (.int (aSafe R S m).1)) (zup h 1063 (zO 8 (mfs (mv v (aSafe R S m).2)))) := by
  intro n
  obtain ⟨w1, w3, w4, w5, w0, wP, wM, wK, wX⟩ := id hR
  obtain ⟨wT, wL, wB⟩ := id hS
  refine z_enter (lv := [(0, _), (1, _)]) (by decide) (Nat.le_of_ble_eq_true rfl) rfl (fun X C => ?_)
  refine z_aload_n (pc := 0) C dX12_safe_0 0 rfl ?_
  refine z_cV0 (pc := 1) mX12_good C [] dX12_safe_1 lX12_167 mtX12_good (tX12_good (by first | assumption | omega)) (by assumption) rfl rfl (by decide) (Nat.le_of_ble_eq_true rfl) (Nat.zero_le _) (Nat.zero_le _) ?_
  have hM1 : zup h 1063 (zO 8 (mfs (upd (upd v 0 0) 11 0))) 1063 = some (zO 8 (mfs (upd (upd v 0 0) 11 0))) := zup_same _ _ _
  have hA1 : zup h 1063 (zO 8 (mfs (upd (upd v 0 0) 11 0))) 1066 = some (zI 241 R) := (zup_ne (by decide)).trans hA
  have hB1 : zup h 1063 (zO 8 (mfs (upd (upd v 0 0) 11 0))) 1070 = some (zI 40 S) := (zup_ne (by decide)).trans hB
  have hF1 : upd (upd v 0 0) 11 0 14 = zb b := hF
  generalize hg : zup h 1063 (zO 8 (mfs (upd (upd v 0 0) 11 0))) = h1 at hM1 hA1 hB1 ⊢
  refine z_aload_n (pc := 4) C dX12_safe_4 0 rfl ?_
  refine z_iload_n (pc := 5) C dX12_safe_5 1 rfl ?_
  refine z_cV1 (pc := 6) mX12_isMan C [_] dX12_safe_6 lX12_288 mtX12_isMan (tX12_isMan (by first | assumption | omega) (by first | assumption | omega) (by first | assumption | omega) (by first | assumption | omega)) (by assumption) rfl rfl (by decide) (Nat.le_of_ble_eq_true rfl) (Nat.zero_le _) (Nat.zero_le _) ?_
  rw [wfB_m hb m]
  first | refine z_ifeqB (pc := 9) C 33 dX12_safe_9 (by decide) (fun hc9 => ?_) (fun hc9 => ?_) | refine z_ifeqN (pc := 9) C 33 dX12_safe_9 (by decide) (by omega) (fun hc9 => ?_) (fun hc9 => ?_) | refine z_if_eq (pc := 9) C 33 dX12_safe_9 (by decide) (fun hc9 => ?_) (fun hc9 => ?_)
  · skip
    refine z_aload_n (pc := 33) C dX12_safe_33 0 rfl ?_
    refine z_iconst (pc := 34) C dX12_safe_34 (nI 1) (by decide) ?_
    refine z_cV1 (pc := 35) mX12_no C [_] dX12_safe_35 lX12_170 mtX12_no (tX12_no (by first | assumption | omega)) (by assumption) rfl rfl (by decide) (Nat.le_of_ble_eq_true rfl) (Nat.zero_le _) (Nat.zero_le _) ?_
    refine z_iret (pc := 38) C dX12_safe_38 rfl (Nat.zero_le _) (Nat.zero_le _) ⟨?_, ?_, rfl⟩
    · simp [aSafe, aM, *]
    · first | exact mz0 hg (by simp [aSafe, aM, *]) | exact mz1 hg (by simp [aSafe, aM, *] <;> rfl)
  · skip
    obtain ⟨j, hj, rfl⟩ := zlt_of (by omega) hc9
    have pj := pn_nI (j := j) (by omega)
    have e1 : S (8 * j) < R 1 := wT j hj 0 (by omega)
    have e2 := sSee_lt hR hS j
    refine z_aload_n (pc := 12) C dX12_safe_12 0 rfl ?_
    refine z_aload_n (pc := 13) C dX12_safe_13 0 rfl ?_
    refine z_getf (pc := 14) C dX12_safe_14 fX12_32 (by assumption) (by first | rfl | assumption) ?_
    refine z_bipush (pc := 17) C dX12_safe_17 (nI 8) (by decide) ?_
    refine z_iload_n (pc := 19) C dX12_safe_19 1 rfl ?_
    first | refine z_imulN (pc := 20) C dX12_safe_20 ?_ | refine z_imul (pc := 20) C dX12_safe_20 ?_
    first | refine z_ialdN (pc := 21) C dX12_safe_21 (by assumption) (by omega) (by decide) ?_ | refine z_ialdI (pc := 21) C dX12_safe_21 (by assumption) (by omega) (by decide) ?_
    refine z_aload_n (pc := 22) C dX12_safe_22 0 rfl ?_
    refine z_iload_n (pc := 23) C dX12_safe_23 1 rfl ?_
    refine z_cV1 (pc := 24) mX12_seenBy C [_] dX12_safe_24 lX12_314 mtX12_seenBy (tX12_seenBy (by first | assumption | omega) (by first | assumption | omega) (by first | assumption | omega) (by first | assumption | omega) (by first | assumption | omega) (by first | assumption | omega)) (by assumption) rfl rfl (by decide) (Nat.le_of_ble_eq_true rfl) (Nat.zero_le _) (Nat.zero_le _) ?_
    refine z_cV1 (pc := 27) mX12_reachOf C [_, _] dX12_safe_27 lX12_317 mtX12_reachOf (tX12_reachOf (by first | assumption | omega) (by first | assumption | omega) (by first | assumption | omega) (by first | assumption | omega) (by first | assumption | omega)) (by assumption) rfl rfl (by decide) (Nat.le_of_ble_eq_true rfl) (Nat.zero_le _) (Nat.zero_le _) ?_
    refine z_goto (pc := 30) C 38 dX12_safe_30 (by decide) ?_
    refine z_iret (pc := 38) C dX12_safe_38 rfl (Nat.zero_le _) (Nat.zero_le _) ⟨?_, ?_, rfl⟩
    · simp [aSafe, aM, *]
    · first | exact mz0 hg (by simp [aSafe, aM, *]) | exact mz1 hg (by simp [aSafe, aM, *] <;> rfl)

set_option maxRecDepth 20000 in
set_option maxHeartbeats 1000000 in
theorem tX12_middle {h : ZH} {v : Nat → Int32} {R S : Nat → Nat} {b : Bool}  (hM : h 1063 = some (zO 8 (mfs v))) (hA : h 1066 = some (zI 241 R)) (hB : h 1070 = some (zI 40 S)) (hR : wfR R) (hS : wfS R S) (hF : v 14 = zb b) (hb : wfB b R) : ZD mX12_middle 4 [.ref 1063] h (some (.int (aMid R).1)) (zup h 1063 (zO 8 (mfs (mv v (aMid R).2)))) := by
  intro n
  obtain ⟨w1, w3, w4, w5, w0, wP, wM, wK, wX⟩ := id hR
  obtain ⟨wT, wL, wB⟩ := id hS
  refine z_enter (lv := [(0, _)]) (by decide) (Nat.le_of_ble_eq_true rfl) rfl (fun X C => ?_)
  refine z_aload_n (pc := 0) C dX12_middle_0 0 rfl ?_
  refine z_cV0 (pc := 1) mX12_good C [] dX12_middle_1 lX12_167 mtX12_good (tX12_good (by first | assumption | omega)) (by assumption) rfl rfl (by decide) (Nat.le_of_ble_eq_true rfl) (Nat.zero_le _) (Nat.zero_le _) ?_
  have hM1 : zup h 1063 (zO 8 (mfs (upd (upd v 0 0) 11 0))) 1063 = some (zO 8 (mfs (upd (upd v 0 0) 11 0))) := zup_same _ _ _
  have hA1 : zup h 1063 (zO 8 (mfs (upd (upd v 0 0) 11 0))) 1066 = some (zI 241 R) := (zup_ne (by decide)).trans hA
  have hB1 : zup h 1063 (zO 8 (mfs (upd (upd v 0 0) 11 0))) 1070 = some (zI 40 S) := (zup_ne (by decide)).trans hB
  have hF1 : upd (upd v 0 0) 11 0 14 = zb b := hF
  generalize hg : zup h 1063 (zO 8 (mfs (upd (upd v 0 0) 11 0))) = h1 at hM1 hA1 hB1 ⊢
  refine z_aload_n (pc := 4) C dX12_middle_4 0 rfl ?_
  refine z_getf (pc := 5) C dX12_middle_5 fX12_180 (by assumption) (by first | rfl | assumption) ?_
  rw [hF1, hb.1]
  first | refine z_ifneB (pc := 8) C 17 dX12_middle_8 (by decide) (fun hc8 => ?_) (fun hc8 => ?_) | refine z_ifneN (pc := 8) C 17 dX12_middle_8 (by decide) (by omega) (fun hc8 => ?_) (fun hc8 => ?_) | refine z_if_ne (pc := 8) C 17 dX12_middle_8 (by decide) (fun hc8 => ?_) (fun hc8 => ?_)
  · skip
    have e0 : 0 < R 1 := of_decide_eq_true hc8
    refine z_iconst (pc := 17) C dX12_middle_17 (nI 0) (by decide) ?_
    refine z_istore_n (pc := 18) (lv' := [(1, _), (0, _)]) C dX12_middle_18 (by decide) rfl ?_
    refine z_iconst (pc := 19) C dX12_middle_19 (nI 1) (by decide) ?_
    refine z_istore_n (pc := 20) (lv' := [(2, _), (1, _), (0, _)]) C dX12_middle_20 (by decide) rfl ?_
    refine z_sub (lv' := [(0, _), (1, _), (2, _)]) [2, 1, 0] rfl ?_
    have lp21 : ∀ (f : Nat) (k t : Nat), (k + f = R 1 ∧ 0 < k ∧ t = sask (fun p => sfar R p (R 1)) k) → Zc X mX12_middle (zEnd X (fun r hh n' => r = (some (.int (aMid R).1)) ∧ hh = (zup h 1063 (zO 8 (mfs (mv v (aMid R).2)))) ∧ n' = n) 0 0) 21 [(0, .ref 1063), (1, .int (nI t)), (2, .int (nI k))] [] h1 n 0 0 := by
      intro f
      induction f using Nat.strongRecOn with
      | _ f ih =>
        intro k t hk
        obtain ⟨hk, hk0, he⟩ := hk
        have e1 := sask_lt (fun p => sfar R p (R 1)) k hk0
        have e2 := sfar_lt R k (R 1)
        have e3 := sfar_lt R t (R 1)
        refine z_iload_n (pc := 21) C dX12_middle_21 2 rfl ?_
        refine z_aload_n (pc := 22) C dX12_middle_22 0 rfl ?_
        refine z_getf (pc := 23) C dX12_middle_23 fX12_20 (by assumption) (by first | rfl | assumption) ?_
        refine z_iconst (pc := 26) C dX12_middle_26 (nI 1) (by decide) ?_
        first | refine z_ialdN (pc := 27) C dX12_middle_27 (by assumption) (by omega) (by decide) ?_ | refine z_ialdI (pc := 27) C dX12_middle_27 (by assumption) (by omega) (by decide) ?_
        first | refine z_icmpgeN (pc := 28) C 52 dX12_middle_28 (by decide) (by omega) (by omega) (fun hc28 => ?_) (fun hc28 => ?_) | refine z_icmp_ge (pc := 28) C 52 dX12_middle_28 (by decide) (fun hc28 => ?_) (fun hc28 => ?_)
        · skip
          refine z_iload_n (pc := 52) C dX12_middle_52 1 rfl ?_
          refine z_iret (pc := 53) C dX12_middle_53 rfl (Nat.zero_le _) (Nat.zero_le _) ⟨?_, ?_, rfl⟩
          · obtain rfl : f = 0 := (by omega); obtain rfl : k = R 1 := (by omega); simp [aMid, aF, e0, he]
          · first | exact mz0 hg (by simp [aMid, aF, *]) | exact mz1 hg (by simp [aMid, aF, *] <;> rfl)
        · skip
          refine z_aload_n (pc := 31) C dX12_middle_31 0 rfl ?_
          refine z_iload_n (pc := 32) C dX12_middle_32 2 rfl ?_
          refine z_cV1 (pc := 33) mX12_farthestOf C [_] dX12_middle_33 lX12_320 mtX12_farthestOf (tX12_farthestOf (by first | assumption | omega) (by first | assumption | omega) (by first | assumption | omega) (by first | assumption | omega)) (by assumption) rfl rfl (by decide) (Nat.le_of_ble_eq_true rfl) (Nat.zero_le _) (Nat.zero_le _) ?_
          refine z_aload_n (pc := 36) C dX12_middle_36 0 rfl ?_
          refine z_iload_n (pc := 37) C dX12_middle_37 1 rfl ?_
          refine z_cV1 (pc := 38) mX12_farthestOf C [_] dX12_middle_38 lX12_320 mtX12_farthestOf (tX12_farthestOf (by first | assumption | omega) (by first | assumption | omega) (by first | assumption | omega) (by first | assumption | omega)) (by assumption) rfl rfl (by decide) (Nat.le_of_ble_eq_true rfl) (Nat.zero_le _) (Nat.zero_le _) ?_
          first | refine z_icmpgeN (pc := 41) C 46 dX12_middle_41 (by decide) (by omega) (by omega) (fun hc41 => ?_) (fun hc41 => ?_) | refine z_icmp_ge (pc := 41) C 46 dX12_middle_41 (by decide) (fun hc41 => ?_) (fun hc41 => ?_)
          · skip
            first | refine z_iincN (pc := 46) (lv' := [(2, _), (0, _), (1, _)]) C 1 dX12_middle_46 2 rfl (by decide) (by decide) rfl ?_ | refine z_iinc (pc := 46) (lv' := [(2, _), (0, _), (1, _)]) C dX12_middle_46 2 rfl _ rfl (by decide) rfl ?_
            refine z_goto (pc := 49) C 21 dX12_middle_49 (by decide) ?_
            refine z_sub (lv' := [(0, _), (1, _), (2, _)]) [1, 2, 0] rfl ?_
            exact ih (f - 1) (by omega) (k + 1) _ ⟨by omega, by omega, by rw [sask, if_neg (by omega), ← he]; first | (rw [if_neg (Nat.not_lt.mpr hc41)]; done) | (rw [if_pos hc41]; done)⟩
          · skip
            refine z_iload_n (pc := 44) C dX12_middle_44 2 rfl ?_
            refine z_istore_n (pc := 45) (lv' := [(1, _), (0, _), (2, _)]) C dX12_middle_45 (by decide) rfl ?_
            first | refine z_iincN (pc := 46) (lv' := [(2, _), (1, _), (0, _)]) C 1 dX12_middle_46 2 rfl (by decide) (by decide) rfl ?_ | refine z_iinc (pc := 46) (lv' := [(2, _), (1, _), (0, _)]) C dX12_middle_46 2 rfl _ rfl (by decide) rfl ?_
            refine z_goto (pc := 49) C 21 dX12_middle_49 (by decide) ?_
            refine z_sub (lv' := [(0, _), (1, _), (2, _)]) [2, 1, 0] rfl ?_
            exact ih (f - 1) (by omega) (k + 1) _ ⟨by omega, by omega, by rw [sask, if_neg (by omega), ← he]; first | (rw [if_neg (Nat.not_lt.mpr hc41)]; done) | (rw [if_pos hc41]; done)⟩
    exact lp21 (R 1 - 1) 1 0 ⟨by omega, by omega, rfl⟩
  · skip
    have e0 : ¬ 0 < R 1 := of_decide_eq_false hc8
    refine z_aload_n (pc := 11) C dX12_middle_11 0 rfl ?_
    refine z_iconst (pc := 12) C dX12_middle_12 (nI 1) (by decide) ?_
    refine z_cV1 (pc := 13) mX12_no C [_] dX12_middle_13 lX12_170 mtX12_no (tX12_no (by first | assumption | omega)) (by assumption) rfl rfl (by decide) (Nat.le_of_ble_eq_true rfl) (Nat.zero_le _) (Nat.zero_le _) ?_
    refine z_iret (pc := 16) C dX12_middle_16 rfl (Nat.zero_le _) (Nat.zero_le _) ⟨?_, ?_, rfl⟩
    · simp [aMid, aF, e0]
    · first | exact mz0 hg (by simp [aMid, aF, *]) | exact mz1 hg (by simp [aMid, aF, *] <;> rfl)

set_option maxRecDepth 20000 in
set_option maxHeartbeats 1000000 in
theorem tX12_parts {h : ZH} {v : Nat → Int32} {R S : Nat → Nat} {b : Bool}  (hM : h 1063 = some (zO 8 (mfs v))) (hA : h 1066 = some (zI 241 R)) (hB : h 1070 = some (zI 40 S)) (hR : wfR R) (hS : wfS R S) (hF : v 14 = zb b) (hb : wfB b R) : ZD mX12_parts 3 [.ref 1063] h (some (.int (aParts R).1)) (zup h 1063 (zO 8 (mfs (mv v (aParts R).2)))) := by
  intro n
  obtain ⟨w1, w3, w4, w5, w0, wP, wM, wK, wX⟩ := id hR
  obtain ⟨wT, wL, wB⟩ := id hS
  refine z_enter (lv := [(0, _)]) (by decide) (Nat.le_of_ble_eq_true rfl) rfl (fun X C => ?_)
  refine z_aload_n (pc := 0) C dX12_parts_0 0 rfl ?_
  refine z_cV0 (pc := 1) mX12_good C [] dX12_parts_1 lX12_167 mtX12_good (tX12_good (by first | assumption | omega)) (by assumption) rfl rfl (by decide) (Nat.le_of_ble_eq_true rfl) (Nat.zero_le _) (Nat.zero_le _) ?_
  have hM1 : zup h 1063 (zO 8 (mfs (upd (upd v 0 0) 11 0))) 1063 = some (zO 8 (mfs (upd (upd v 0 0) 11 0))) := zup_same _ _ _
  have hA1 : zup h 1063 (zO 8 (mfs (upd (upd v 0 0) 11 0))) 1066 = some (zI 241 R) := (zup_ne (by decide)).trans hA
  have hB1 : zup h 1063 (zO 8 (mfs (upd (upd v 0 0) 11 0))) 1070 = some (zI 40 S) := (zup_ne (by decide)).trans hB
  have hF1 : upd (upd v 0 0) 11 0 14 = zb b := hF
  generalize hg : zup h 1063 (zO 8 (mfs (upd (upd v 0 0) 11 0))) = h1 at hM1 hA1 hB1 ⊢
  refine z_aload_n (pc := 4) C dX12_parts_4 0 rfl ?_
  refine z_getf (pc := 5) C dX12_parts_5 fX12_180 (by assumption) (by first | rfl | assumption) ?_
  rw [hF1, hb.1]
  first | refine z_ifneB (pc := 8) C 17 dX12_parts_8 (by decide) (fun hc8 => ?_) (fun hc8 => ?_) | refine z_ifneN (pc := 8) C 17 dX12_parts_8 (by decide) (by omega) (fun hc8 => ?_) (fun hc8 => ?_) | refine z_if_ne (pc := 8) C 17 dX12_parts_8 (by decide) (fun hc8 => ?_) (fun hc8 => ?_)
  · skip
    have e0 : 0 < R 1 := of_decide_eq_true hc8
    refine z_iconst (pc := 17) C dX12_parts_17 (nI 0) (by decide) ?_
    refine z_istore_n (pc := 18) (lv' := [(1, _), (0, _)]) C dX12_parts_18 (by decide) rfl ?_
    refine z_iconst (pc := 19) C dX12_parts_19 (nI 0) (by decide) ?_
    refine z_istore_n (pc := 20) (lv' := [(2, _), (1, _), (0, _)]) C dX12_parts_20 (by decide) rfl ?_
    refine z_iconst (pc := 21) C dX12_parts_21 (nI 0) (by decide) ?_
    refine z_istore_n (pc := 22) (lv' := [(3, _), (2, _), (1, _), (0, _)]) C dX12_parts_22 (by decide) rfl ?_
    refine z_sub (lv' := [(0, _), (1, _), (2, _), (3, _)]) [3, 2, 1, 0] rfl ?_
    have lp23 : ∀ (f : Nat) (k t u : Nat), (k + f = R 1 ∧ (t, u) = sprt R k) → Zc X mX12_parts (zEnd X (fun r hh n' => r = (some (.int (aParts R).1)) ∧ hh = (zup h 1063 (zO 8 (mfs (mv v (aParts R).2)))) ∧ n' = n) 0 0) 23 [(0, .ref 1063), (1, .int (nI t)), (2, .int (nI u)), (3, .int (nI k))] [] h1 n 0 0 := by
      intro f
      induction f using Nat.strongRecOn with
      | _ f ih =>
        intro k t u hk
        obtain ⟨hk, he⟩ := hk
        have e1 := sprt_lt hR k (by omega)
        rw [← he] at e1
        obtain ⟨e2, e3⟩ := e1
        refine z_iload_n (pc := 23) C dX12_parts_23 3 rfl ?_
        refine z_aload_n (pc := 24) C dX12_parts_24 0 rfl ?_
        refine z_getf (pc := 25) C dX12_parts_25 fX12_20 (by assumption) (by first | rfl | assumption) ?_
        refine z_iconst (pc := 28) C dX12_parts_28 (nI 1) (by decide) ?_
        first | refine z_ialdN (pc := 29) C dX12_parts_29 (by assumption) (by omega) (by decide) ?_ | refine z_ialdI (pc := 29) C dX12_parts_29 (by assumption) (by omega) (by decide) ?_
        first | refine z_icmpgeN (pc := 30) C 64 dX12_parts_30 (by decide) (by omega) (by omega) (fun hc30 => ?_) (fun hc30 => ?_) | refine z_icmp_ge (pc := 30) C 64 dX12_parts_30 (by decide) (fun hc30 => ?_) (fun hc30 => ?_)
        · skip
          refine z_iload_n (pc := 64) C dX12_parts_64 1 rfl ?_
          refine z_iret (pc := 65) C dX12_parts_65 rfl (Nat.zero_le _) (Nat.zero_le _) ⟨?_, ?_, rfl⟩
          · obtain rfl : f = 0 := (by omega); obtain rfl : k = R 1 := (by omega); simp [aParts, aF, e0, ← he]
          · first | exact mz0 hg (by simp [aParts, aF, *]) | exact mz1 hg (by simp [aParts, aF, *] <;> rfl)
        · skip
          refine z_iload_n (pc := 33) C dX12_parts_33 1 rfl ?_
          refine z_iload_n (pc := 34) C dX12_parts_34 2 rfl ?_
          refine z_iload_n (pc := 35) C dX12_parts_35 3 rfl ?_
          refine z_cS1 (pc := 36) mX12_hasBit C [_, _] dX12_parts_36 lX12_236 mtX12_hasBit (tX12_hasBit (by first | assumption | omega) (by first | assumption | omega)) rfl rfl (by decide) (Nat.le_of_ble_eq_true rfl) (Nat.zero_le _) (Nat.zero_le _) ?_
          first | refine z_ifeqB (pc := 39) C 46 dX12_parts_39 (by decide) (fun hc39 => ?_) (fun hc39 => ?_) | refine z_ifeqN (pc := 39) C 46 dX12_parts_39 (by decide) (by omega) (fun hc39 => ?_) (fun hc39 => ?_) | refine z_if_eq (pc := 39) C 46 dX12_parts_39 (by decide) (fun hc39 => ?_) (fun hc39 => ?_)
          · skip
            refine z_iconst (pc := 46) C dX12_parts_46 (nI 1) (by decide) ?_
            first | refine z_iaddN (pc := 47) C dX12_parts_47 ?_ | refine z_iadd (pc := 47) C dX12_parts_47 ?_
            refine z_istore_n (pc := 48) (lv' := [(1, _), (0, _), (2, _), (3, _)]) C dX12_parts_48 (by decide) rfl ?_
            refine z_iload_n (pc := 49) C dX12_parts_49 2 rfl ?_
            refine z_aload_n (pc := 50) C dX12_parts_50 1 rfl ?_
            refine z_iload_n (pc := 51) C dX12_parts_51 3 rfl ?_
            refine z_iconst (pc := 52) C dX12_parts_52 (nI 0) (by decide) ?_
            refine z_cV1 (pc := 53) mX12_reachOf C [_, _] dX12_parts_53 lX12_317 mtX12_reachOf (tX12_reachOf (b := 0) hM1 hA1 hR (by omega) (by decide)) (by assumption) rfl rfl (by decide) (Nat.le_of_ble_eq_true rfl) (Nat.zero_le _) (Nat.zero_le _) ?_
            first | refine z_iorN (pc := 56) C dX12_parts_56 ?_ | refine z_ior (pc := 56) C dX12_parts_56 ?_
            refine z_istore_n (pc := 57) (lv' := [(2, _), (1, _), (0, _), (3, _)]) C dX12_parts_57 (by decide) rfl ?_
            first | refine z_iincN (pc := 58) (lv' := [(3, _), (2, _), (1, _), (0, _)]) C 1 dX12_parts_58 3 rfl (by decide) (by decide) rfl ?_ | refine z_iinc (pc := 58) (lv' := [(3, _), (2, _), (1, _), (0, _)]) C dX12_parts_58 3 rfl _ rfl (by decide) rfl ?_
            refine z_goto (pc := 61) C 23 dX12_parts_61 (by decide) ?_
            refine z_sub (lv' := [(0, _), (1, _), (2, _), (3, _)]) [3, 2, 1, 0] rfl ?_
            exact ih (f - 1) (by omega) (k + 1) _ _ ⟨by omega, by rw [sprt, ← he]; simp [hc39]⟩
          · skip
            refine z_iconst (pc := 42) C dX12_parts_42 (nI 0) (by decide) ?_
            refine z_goto (pc := 43) C 47 dX12_parts_43 (by decide) ?_
            first | refine z_iaddN (pc := 47) C dX12_parts_47 ?_ | refine z_iadd (pc := 47) C dX12_parts_47 ?_
            refine z_istore_n (pc := 48) (lv' := [(1, _), (0, _), (2, _), (3, _)]) C dX12_parts_48 (by decide) rfl ?_
            refine z_iload_n (pc := 49) C dX12_parts_49 2 rfl ?_
            refine z_aload_n (pc := 50) C dX12_parts_50 1 rfl ?_
            refine z_iload_n (pc := 51) C dX12_parts_51 3 rfl ?_
            refine z_iconst (pc := 52) C dX12_parts_52 (nI 0) (by decide) ?_
            refine z_cV1 (pc := 53) mX12_reachOf C [_, _] dX12_parts_53 lX12_317 mtX12_reachOf (tX12_reachOf (b := 0) hM1 hA1 hR (by omega) (by decide)) (by assumption) rfl rfl (by decide) (Nat.le_of_ble_eq_true rfl) (Nat.zero_le _) (Nat.zero_le _) ?_
            first | refine z_iorN (pc := 56) C dX12_parts_56 ?_ | refine z_ior (pc := 56) C dX12_parts_56 ?_
            refine z_istore_n (pc := 57) (lv' := [(2, _), (1, _), (0, _), (3, _)]) C dX12_parts_57 (by decide) rfl ?_
            first | refine z_iincN (pc := 58) (lv' := [(3, _), (2, _), (1, _), (0, _)]) C 1 dX12_parts_58 3 rfl (by decide) (by decide) rfl ?_ | refine z_iinc (pc := 58) (lv' := [(3, _), (2, _), (1, _), (0, _)]) C dX12_parts_58 3 rfl _ rfl (by decide) rfl ?_
            refine z_goto (pc := 61) C 23 dX12_parts_61 (by decide) ?_
            refine z_sub (lv' := [(0, _), (1, _), (2, _), (3, _)]) [3, 2, 1, 0] rfl ?_
            exact ih (f - 1) (by omega) (k + 1) _ _ ⟨by omega, by rw [sprt, ← he]; simp [hc39]⟩
    exact lp23 (R 1) 0 0 0 ⟨by omega, rfl⟩
  · skip
    have e0 : ¬ 0 < R 1 := of_decide_eq_false hc8
    refine z_aload_n (pc := 11) C dX12_parts_11 0 rfl ?_
    refine z_iconst (pc := 12) C dX12_parts_12 (nI 1) (by decide) ?_
    refine z_cV1 (pc := 13) mX12_no C [_] dX12_parts_13 lX12_170 mtX12_no (tX12_no (by first | assumption | omega)) (by assumption) rfl rfl (by decide) (Nat.le_of_ble_eq_true rfl) (Nat.zero_le _) (Nat.zero_le _) ?_
    refine z_iret (pc := 16) C dX12_parts_16 rfl (Nat.zero_le _) (Nat.zero_le _) ⟨?_, ?_, rfl⟩
    · simp [aParts, aF, e0]
    · first | exact mz0 hg (by simp [aParts, aF, *]) | exact mz1 hg (by simp [aParts, aF, *] <;> rfl)
