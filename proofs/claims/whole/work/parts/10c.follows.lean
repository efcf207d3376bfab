def sdg (row i : Nat) : Nat := row / 10 ^ i % 10
def sgl (T : Nat → Nat) (m d : Nat) : Nat := if d = 0 then T (8 * m) else d - 1
/-- a row of digits walked: whether every step may be gone, and where it ends -/
def swk (R : Nat → Nat) (m row : Nat) : Nat → (Nat → Nat) → Bool × (Nat → Nat)
  | 0, T => (true, T)
  | i + 1, T => if sMay R T m (sgl T m (sdg row i)) then swk R m row i (sgo T m (sgl T m (sdg row i))) else (false, T)
def sdgs (R : Nat → Nat) (row : Nat) : Nat → Bool
  | 0 => true
  | i + 1 => sdgs R row i && decide (sdg row i ≤ R 1)
def sRow (R : Nat → Nat) (row n : Nat) : Bool := sdgs R row n && decide (row < 10 ^ n)
def snn (x : Int32) : Bool := decide (0 ≤ x.toInt)
theorem snn_of {x : Int32} (h : snn x = true) : ∃ j, j < 2147483648 ∧ x = nI j := by
  have h := of_decide_eq_true h
  have h2 := x.toInt_lt
  have h3 : x.toInt < 2147483648 := h2
  refine ⟨x.toInt.toNat, by omega, ?_⟩
  apply Int32.toInt_inj.mp
  rw [nI_toInt (by omega)]
  omega
theorem snn_t {x : Int32} (h : 0 ≤ x) : snn x = true := by
  rw [Int32.le_iff_toInt_le, show (0 : Int32).toInt = 0 from rfl] at h
  exact decide_eq_true h
theorem snn_f {x : Int32} (h : ¬ 0 ≤ x) : snn x = false := by
  rw [Int32.le_iff_toInt_le, show (0 : Int32).toInt = 0 from rfl] at h
  exact decide_eq_false h
theorem snn_f2 {x : Int32} (h : x < 0) : snn x = false := snn_f (Int32.not_le.mpr h)
def aFol (R S : Nat → Nat) (k row n : Int32) : Int32 × Int32 := if zlt k (R 4) then (if zlt n 7 && snn row && sRow R (pn row) (pn n) then (if (swk R (S (32 + pn k)) (pn row) (pn n) S).1 then (zo (sstd R (swk R (S (32 + pn k)) (pn row) (pn n) S).2 (pn k)), 0) else (-1, 5)) else (-1, 2)) else (-1, 1)
theorem p10_le : ∀ n : Fin 7, 10 ^ n.val ≤ 1000000 := by decide
theorem p10 {n : Nat} (h : n ≤ 6) : 10 ^ n ≤ 1000000 ∧ 0 < 10 ^ n := ⟨p10_le ⟨n, by omega⟩, Nat.pow_pos (by decide)⟩
theorem zSt3_ : ∀ n : Fin 7, zSt 3 n.val = 10 ^ n.val := by decide
theorem zSt3 {n : Nat} (h : n ≤ 6) : zSt 3 n = 10 ^ n := zSt3_ ⟨n, by omega⟩
theorem sdg_lt (row i : Nat) : sdg row i < 10 := Nat.mod_lt _ (by decide)
theorem sdgs_le {R : Nat → Nat} {row : Nat} : ∀ n i, sdgs R row n = true → i < n → sdg row i ≤ R 1 := by
  intro n
  induction n with
  | zero => intro i _ hi; omega
  | succ n ih =>
    intro i h hi
    rw [sdgs, Bool.and_eq_true] at h
    by_cases e : i = n
    · subst e; exact of_decide_eq_true h.2
    · exact ih i h.1 (by omega)
theorem sdgs_f {R : Nat → Nat} {row i : Nat} (h : ¬ sdg row i ≤ R 1) : ∀ n, i < n → sdgs R row n = false := by
  intro n hi
  cases z : sdgs R row n with
  | false => rfl
  | true => exact absurd (sdgs_le n i z hi) h
theorem sgl_lt {R T : Nat → Nat} {m d : Nat} (hT : T (8 * m) < R 1) (hd : d ≤ R 1) : sgl T m d < R 1 := by
  unfold sgl
  split
  · exact hT
  · omega
theorem swk_wf {R : Nat → Nat} (hR : wfR R) {m row : Nat} (hm : m < R 3) : ∀ n T, wfS R T → (∀ i, i < n → sdg row i ≤ R 1) → wfS R (swk R m row n T).2 := by
  intro n
  induction n with
  | zero => intro T h _; exact h
  | succ n ih =>
    intro T h hd
    rw [swk]
    split
    · exact ih _ (wfS_go hR h hm (sgl_lt (h.1 m hm 0 (by omega)) (hd n (by omega)))) (fun i hi => hd i (by omega))
    · exact h
theorem swk_congr {R : Nat → Nat} {m row : Nat} (hm : m < 4) : ∀ n S T, (∀ j, j < 40 → T j = S j) → (swk R m row n T).1 = (swk R m row n S).1 ∧ ∀ j, j < 40 → (swk R m row n T).2 j = (swk R m row n S).2 j := by
  intro n
  induction n with
  | zero => intro S T h; exact ⟨rfl, h⟩
  | succ n ih =>
    intro S T h
    have e1 : T (8 * m) = S (8 * m) := h _ (by omega)
    have e2 : sgl T m (sdg row n) = sgl S m (sdg row n) := by unfold sgl; rw [e1]
    have e3 : sMay R T m (sgl T m (sdg row n)) = sMay R S m (sgl S m (sdg row n)) := by unfold sMay; rw [e2, e1]
    rw [swk, swk, e3]
    split
    · refine ih _ _ (fun j hj => ?_)
      rw [e2]
      unfold sgo
      split
      · rfl
      · split
        · exact h _ (by omega)
        · exact h _ hj
    · exact ⟨rfl, h⟩
theorem dec1 (r : Nat) : nI r + Int32.ofInt (-1) = nI r - nI 1 := by rw [Int32.sub_eq_add_neg]; rfl

set_option maxRecDepth 20000 in
set_option maxHeartbeats 1000000 in
theorem tX11_isRow {h : ZH} {st : Nat} {ic tb fa pl : Int32} {t : Nat} {R S : Nat → Nat} {row : Int32} {c : Nat} (hK : h 1000 = some (zO 7 (kfs st ic tb fa pl))) (hC : Scn h 1051 1052 1053 t R S) (hR : wfR R) (hc : c ≤ 6) : ZD mX11_isRow 1 [.ref 1000, .int row, .int (nI c)] h (some (.int (zb (snn row && sRow R (pn row) c)))) h := by
  intro n
  obtain ⟨w1, w3, w4, w5, w0, wP, wM, wK, wX⟩ := id hR
  obtain ⟨pc1, pc2⟩ := p10 hc
  refine z_enter (lv := [(0, _), (1, _), (2, _)]) (by decide) (Nat.le_of_ble_eq_true rfl) rfl (fun X C => ?_)
  refine z_iload_n (pc := 0) C dX11_isRow_0 1 rfl ?_
  refine z_if_lt (pc := 1) C 13 dX11_isRow_1 (by decide) (fun hc1 => ?_) (fun hc1 => ?_)
  · skip
    have e5 := snn_f2 hc1
    refine z_iconst (pc := 13) C dX11_isRow_13 (zb false) (by decide) ?_
    refine z_zret (pc := 14) C dX11_isRow_14 rfl (by first | exact zb_nar _ | rfl) (Nat.zero_le _) (Nat.zero_le _) ⟨?_, ?_, rfl⟩
    · simp [*]
    · rfl
  · skip
    have e5 := snn_t (Int32.not_lt.mp hc1)
    obtain ⟨j, hj, rfl⟩ := snn_of e5
    have pj := pn_nI (j := j) hj
    refine z_iload_n (pc := 4) C dX11_isRow_4 1 rfl ?_
    refine z_sts (pc := 5) (i := 3) C dX11_isRow_5 (by decide) sX11_393 ?_
    refine z_iload_n (pc := 8) C dX11_isRow_8 2 rfl ?_
    refine z_stld (pc := 9) (i := 3) C dX11_isRow_9 (by decide) (by show c < 7; omega) ?_
    rw [zSt3 hc]
    first | refine z_icmpltN (pc := 10) C 15 dX11_isRow_10 (by decide) (by omega) (by omega) (fun hc10 => ?_) (fun hc10 => ?_) | refine z_icmp_lt (pc := 10) C 15 dX11_isRow_10 (by decide) (fun hc10 => ?_) (fun hc10 => ?_)
    · skip
      refine z_iconst (pc := 15) C dX11_isRow_15 (nI 0) (by decide) ?_
      refine z_istore_n (pc := 16) (lv' := [(3, _), (0, _), (1, _), (2, _)]) C dX11_isRow_16 (by decide) rfl ?_
      refine z_sub (lv' := [(0, _), (1, _), (2, _), (3, _)]) [1, 2, 3, 0] rfl ?_
      have lp17 : ∀ (f : Nat) (k : Nat), (k + f = c ∧ sdgs R j k = true) → Zc X mX11_isRow (zEnd X (fun r hh n' => r = (some (.int (zb (snn (nI j) && sRow R (pn (nI j)) c)))) ∧ hh = h ∧ n' = n) 0 0) 17 [(0, .ref 1000), (1, .int (nI j)), (2, .int (nI c)), (3, .int (nI k))] [] h n 0 0 := by
        intro f
        induction f using Nat.strongRecOn with
        | _ f ih =>
          intro k hk
          obtain ⟨hk, he⟩ := hk
          have e1 : j / 10 ^ k ≤ j := Nat.div_le_self _ _
          obtain ⟨e2, e3⟩ := p10 (n := k) (by omega)
          refine z_iload_n (pc := 17) C dX11_isRow_17 3 rfl ?_
          refine z_iload_n (pc := 18) C dX11_isRow_18 2 rfl ?_
          first | refine z_icmpgeN (pc := 19) C 47 dX11_isRow_19 (by decide) (by omega) (by omega) (fun hc19 => ?_) (fun hc19 => ?_) | refine z_icmp_ge (pc := 19) C 47 dX11_isRow_19 (by decide) (fun hc19 => ?_) (fun hc19 => ?_)
          · skip
            refine z_iconst (pc := 47) C dX11_isRow_47 (zb true) (by decide) ?_
            refine z_zret (pc := 48) C dX11_isRow_48 rfl (by first | exact zb_nar _ | rfl) (Nat.zero_le _) (Nat.zero_le _) ⟨?_, ?_, rfl⟩
            · obtain rfl : k = c := (by omega); simp [*, show sRow R j k = true from by unfold sRow; rw [he, decide_eq_true hc10]; rfl]
            · rfl
          · skip
            refine z_iload_n (pc := 22) C dX11_isRow_22 1 rfl ?_
            refine z_sts (pc := 23) (i := 3) C dX11_isRow_23 (by decide) sX11_393 ?_
            refine z_iload_n (pc := 26) C dX11_isRow_26 3 rfl ?_
            refine z_stld (pc := 27) (i := 3) C dX11_isRow_27 (by decide) (by show k < 7; omega) ?_
            rw [zSt3 (by omega)]
            first | refine z_idivN (pc := 28) C dX11_isRow_28 (by omega) (by omega) (by omega) ?_ | refine z_idiv (pc := 28) C dX11_isRow_28 (by decide) ?_
            refine z_bipush (pc := 29) C dX11_isRow_29 (nI 10) (by decide) ?_
            first | refine z_iremN (pc := 31) C dX11_isRow_31 (by omega) (by omega) (by omega) ?_ | refine z_irem (pc := 31) C dX11_isRow_31 (by decide) ?_
            refine z_aload_n (pc := 32) C dX11_isRow_32 0 rfl ?_
            refine z_cV1 (pc := 33) mX11_places C [] dX11_isRow_33 lX11_104 mtX11_places (tX11_places hK hC) (by assumption) rfl rfl (by decide) (Nat.le_of_ble_eq_true rfl) (Nat.zero_le _) (Nat.zero_le _) ?_
            first | refine z_icmpleN (pc := 36) C 41 dX11_isRow_36 (by decide) (by omega) (by omega) (fun hc36 => ?_) (fun hc36 => ?_) | refine z_icmp_le (pc := 36) C 41 dX11_isRow_36 (by decide) (fun hc36 => ?_) (fun hc36 => ?_)
            · skip
              first | refine z_iincN (pc := 41) (lv' := [(3, _), (0, _), (1, _), (2, _)]) C 1 dX11_isRow_41 3 rfl (by decide) (by decide) rfl ?_ | refine z_iinc (pc := 41) (lv' := [(3, _), (0, _), (1, _), (2, _)]) C dX11_isRow_41 3 rfl _ rfl (by decide) rfl ?_
              refine z_goto (pc := 44) C 17 dX11_isRow_44 (by decide) ?_
              refine z_sub (lv' := [(0, _), (1, _), (2, _), (3, _)]) [1, 2, 3, 0] rfl ?_
              exact ih (f - 1) (by omega) (k + 1) ⟨by omega, by rw [sdgs, he]; exact decide_eq_true hc36⟩
            · skip
              have e6 : sRow R j c = false := by unfold sRow; rw [sdgs_f (i := k) (by unfold sdg; omega) c (by omega)]; rfl
              refine z_iconst (pc := 39) C dX11_isRow_39 (zb false) (by decide) ?_
              refine z_zret (pc := 40) C dX11_isRow_40 rfl (by first | exact zb_nar _ | rfl) (Nat.zero_le _) (Nat.zero_le _) ⟨?_, ?_, rfl⟩
              · simp [*]
              · rfl
      exact lp17 c 0 ⟨by omega, rfl⟩
    · skip
      have e6 : sRow R j c = false := by unfold sRow; rw [decide_eq_false (by omega), Bool.and_false]
      refine z_iconst (pc := 13) C dX11_isRow_13 (zb false) (by decide) ?_
      refine z_zret (pc := 14) C dX11_isRow_14 rfl (by first | exact zb_nar _ | rfl) (Nat.zero_le _) (Nat.zero_le _) ⟨?_, ?_, rfl⟩
      · simp [*]
      · rfl

set_option maxRecDepth 20000 in
set_option maxHeartbeats 1000000 in
theorem tX9_goal {h : ZH} {t : Nat} {R S : Nat → Nat} {x1 x2 : Int32} {m g : Nat} (hX : Tri h x1 x2 t R S) (hR : wfR R) (hm : m < R 3) (hg : g < 2147483648) : ZD mX9_goal 2 [.ref 1019, .int (nI m), .int (nI g)] h (some (.int (nI (sgl S m g)))) h := by
  intro n
  obtain ⟨q0, hC⟩ := id hX
  obtain ⟨hT, fl, ft, s0, s1, s2, rl, rt⟩ := id hC
  obtain ⟨fc, fh, fn, fk, fs, ff, fw, fe, t0, t1, t2, t3, t4, t5, t6, t7, t8, rc, rh, rn, rk, rs, rf, rv, re⟩ := id hT
  refine z_enter (lv := [(0, _), (1, _), (2, _)]) (by decide) (Nat.le_of_ble_eq_true rfl) rfl (fun X C => ?_)
  refine z_iload_n (pc := 0) C dX9_goal_0 2 rfl ?_
  first | refine z_ifneB (pc := 1) C 15 dX9_goal_1 (by decide) (fun hc1 => ?_) (fun hc1 => ?_) | refine z_ifneN (pc := 1) C 15 dX9_goal_1 (by decide) (by omega) (fun hc1 => ?_) (fun hc1 => ?_) | refine z_if_ne (pc := 1) C 15 dX9_goal_1 (by decide) (fun hc1 => ?_) (fun hc1 => ?_)
  · skip
    refine z_iload_n (pc := 15) C dX9_goal_15 2 rfl ?_
    refine z_iconst (pc := 16) C dX9_goal_16 (nI 1) (by decide) ?_
    first | refine z_isubN (pc := 17) C dX9_goal_17 (by omega) ?_ | refine z_isub (pc := 17) C dX9_goal_17 ?_
    refine z_iret (pc := 18) C dX9_goal_18 rfl (Nat.zero_le _) (Nat.zero_le _) ⟨?_, ?_, rfl⟩
    · first | (unfold sgl; rw [if_neg (by omega)]; done) | (unfold sgl; rw [if_pos (by omega)])
    · rfl
  · skip
    refine z_aload_n (pc := 4) C dX9_goal_4 0 rfl ?_
    refine z_getf (pc := 5) C dX9_goal_5 fX9_17 (by assumption) (by first | rfl | assumption) ?_
    refine z_iload_n (pc := 8) C dX9_goal_8 1 rfl ?_
    refine z_cV1 (pc := 9) mX5_at C [_] dX9_goal_9 lX9_27 mtX5_at (tX5_at hC hR hm) (by assumption) rfl rfl (by decide) (Nat.le_of_ble_eq_true rfl) (Nat.zero_le _) (Nat.zero_le _) ?_
    refine z_goto (pc := 12) C 18 dX9_goal_12 (by decide) ?_
    refine z_iret (pc := 18) C dX9_goal_18 rfl (Nat.zero_le _) (Nat.zero_le _) ⟨?_, ?_, rfl⟩
    · first | (unfold sgl; rw [if_neg (by omega)]; done) | (unfold sgl; rw [if_pos (by omega)])
    · rfl

set_option maxRecDepth 20000 in
set_option maxHeartbeats 1000000 in
theorem tX9_isStep {h : ZH} {t : Nat} {R S : Nat → Nat} {x1 x2 : Int32} {m g : Nat} (hX : Tri h x1 x2 t R S) (hR : wfR R) (hS : wfS R S) (hm : m < R 3) (hg : g ≤ R 1) : ZD mX9_isStep 2 [.ref 1019, .int (nI m), .int (nI g)] h (some (.int (zb (decide (g = 0) || (R (23 + S (8 * m))).testBit (g - 1))))) h := by
  intro n
  obtain ⟨w1, w3, w4, w5, w0, wP, wM, wK, wX⟩ := id hR
  obtain ⟨wT, wL, wB⟩ := id hS
  obtain ⟨q0, hC⟩ := id hX
  obtain ⟨hT, fl, ft, s0, s1, s2, rl, rt⟩ := id hC
  obtain ⟨fc, fh, fn, fk, fs, ff, fw, fe, t0, t1, t2, t3, t4, t5, t6, t7, t8, rc, rh, rn, rk, rs, rf, rv, re⟩ := id hT
  have e1 : S (8 * m) < R 1 := wT m hm 0 (by omega)
  have e2 := (wP _ e1).2.1
  refine z_enter (lv := [(0, _), (1, _), (2, _)]) (by decide) (Nat.le_of_ble_eq_true rfl) rfl (fun X C => ?_)
  refine z_iload_n (pc := 0) C dX9_isStep_0 2 rfl ?_
  first | refine z_ifeqB (pc := 1) C 32 dX9_isStep_1 (by decide) (fun hc1 => ?_) (fun hc1 => ?_) | refine z_ifeqN (pc := 1) C 32 dX9_isStep_1 (by decide) (by omega) (fun hc1 => ?_) (fun hc1 => ?_) | refine z_if_eq (pc := 1) C 32 dX9_isStep_1 (by decide) (fun hc1 => ?_) (fun hc1 => ?_)
  · skip
    refine z_iconst (pc := 32) C dX9_isStep_32 (nI 1) (by decide) ?_
    refine z_goto (pc := 33) C 37 dX9_isStep_33 (by decide) ?_
    refine z_zret (pc := 37) C dX9_isStep_37 rfl (by first | exact zb_nar _ | rfl) (Nat.zero_le _) (Nat.zero_le _) ⟨?_, ?_, rfl⟩
    · simp [*] <;> rfl
    · rfl
  · skip
    have e5 : ¬ g = 0 := (by omega)
    refine z_aload_n (pc := 4) C dX9_isStep_4 0 rfl ?_
    refine z_getf (pc := 5) C dX9_isStep_5 fX9_17 (by assumption) (by first | rfl | assumption) ?_
    refine z_getf (pc := 8) C dX9_isStep_8 fX9_64 (by assumption) (by first | rfl | assumption) ?_
    refine z_getf (pc := 11) C dX9_isStep_11 fX9_77 (by assumption) (by first | rfl | assumption) ?_
    refine z_aload_n (pc := 14) C dX9_isStep_14 0 rfl ?_
    refine z_getf (pc := 15) C dX9_isStep_15 fX9_17 (by assumption) (by first | rfl | assumption) ?_
    refine z_iload_n (pc := 18) C dX9_isStep_18 1 rfl ?_
    refine z_cV1 (pc := 19) mX5_at C [_] dX9_isStep_19 lX9_27 mtX5_at (tX5_at hC hR hm) (by assumption) rfl rfl (by decide) (Nat.le_of_ble_eq_true rfl) (Nat.zero_le _) (Nat.zero_le _) ?_
    refine z_ialdE (pc := 22) C dX9_isStep_22 (by assumption) (by omega) (by decide) (rn _ e1) ?_
    refine z_iload_n (pc := 23) C dX9_isStep_23 2 rfl ?_
    refine z_iconst (pc := 24) C dX9_isStep_24 (nI 1) (by decide) ?_
    first | refine z_isubN (pc := 25) C dX9_isStep_25 (by omega) ?_ | refine z_isub (pc := 25) C dX9_isStep_25 ?_
    refine z_cSN1 (pc := 26) mX11_has C [_, _] dX9_isStep_26 lX9_80 mtX11_has (tX11_has (by omega) (by omega)) rfl rfl (by decide) (Nat.le_of_ble_eq_true rfl) (Nat.zero_le _) (Nat.zero_le _) ?_
    first | refine z_ifeqB (pc := 29) C 36 dX9_isStep_29 (by decide) (fun hc29 => ?_) (fun hc29 => ?_) | refine z_ifeqN (pc := 29) C 36 dX9_isStep_29 (by decide) (by omega) (fun hc29 => ?_) (fun hc29 => ?_) | refine z_if_eq (pc := 29) C 36 dX9_isStep_29 (by decide) (fun hc29 => ?_) (fun hc29 => ?_)
    · skip
      refine z_iconst (pc := 36) C dX9_isStep_36 (nI 0) (by decide) ?_
      refine z_zret (pc := 37) C dX9_isStep_37 rfl (by first | exact zb_nar _ | rfl) (Nat.zero_le _) (Nat.zero_le _) ⟨?_, ?_, rfl⟩
      · simp [*] <;> rfl
      · rfl
    · skip
      refine z_iconst (pc := 32) C dX9_isStep_32 (nI 1) (by decide) ?_
      refine z_goto (pc := 33) C 37 dX9_isStep_33 (by decide) ?_
      refine z_zret (pc := 37) C dX9_isStep_37 rfl (by first | exact zb_nar _ | rfl) (Nat.zero_le _) (Nat.zero_le _) ⟨?_, ?_, rfl⟩
      · simp [*] <;> rfl
      · rfl

set_option maxRecDepth 20000 in
set_option maxHeartbeats 1000000 in
theorem tX9_walkRow {h : ZH} {t : Nat} {R S : Nat → Nat} {x1 x2 : Int32} {m row c : Nat} (hX : Tri h x1 x2 t R S) (hq : t = 1008 ∨ t = 1039) (hR : wfR R) (hS : wfS R S) (hm : m < R 3) (hc : c ≤ 6) (hr : row < 2147483648) (hd : ∀ i, i < c → sdg row i ≤ R 1) : ZQ1 mX9_walkRow 5 [.ref 1019, .int (nI m), .int (nI row), .int (nI c)] h (fun w hh => w = .int (zb (swk R m row c S).1) ∧ Tri hh x1 x2 t R (swk R m row c S).2 ∧ trF h hh) := by
  intro n
  obtain ⟨w1, w3, w4, w5, w0, wP, wM, wK, wX⟩ := id hR
  refine z_enter (lv := [(0, _), (1, _), (2, _), (3, _)]) (by decide) (Nat.le_of_ble_eq_true rfl) rfl (fun X C => ?_)
  refine z_iload_n (pc := 0) C dX9_walkRow_0 3 rfl ?_
  refine z_iconst (pc := 1) C dX9_walkRow_1 (nI 1) (by decide) ?_
  refine z_isub (pc := 2) C dX9_walkRow_2 ?_
  refine z_istore (pc := 3) (lv' := [(4, _), (0, _), (1, _), (2, _), (3, _)]) C dX9_walkRow_3 (by decide) rfl ?_
  refine z_sub (lv' := [(0, _), (1, _), (2, _), (3, _), (4, _)]) [1, 2, 3, 4, 0] rfl ?_
  have lp5 : ∀ (f : Nat) (r0 : Nat) (T : Nat → Nat) (hh : ZH), (r0 = f ∧ r0 ≤ c ∧ wfS R T ∧ swk R m row c S = swk R m row r0 T ∧ Tri hh x1 x2 t R T ∧ trF h hh) → Zc X mX9_walkRow (zEnd X (fun r hh n' => ∃ w, r = some w ∧ (w = .int (zb (swk R m row c S).1) ∧ Tri hh x1 x2 t R (swk R m row c S).2 ∧ trF h hh) ∧ n' = n) 0 0) 5 [(0, .ref 1019), (1, .int (nI m)), (2, .int (nI row)), (3, .int (nI c)), (4, .int (nI r0 - nI 1))] [] hh n 0 0 := by
    intro f
    induction f using Nat.strongRecOn with
    | _ f ih =>
      intro r0 T hh hk
      obtain ⟨hk, hk2, hS1, he, hX1, hF1⟩ := hk
      refine z_iload (pc := 5) C dX9_walkRow_5 4 rfl ?_
      refine z_if_lt (pc := 7) C 59 dX9_walkRow_7 (by decide) (fun hc7 => ?_) (fun hc7 => ?_)
      · skip
        obtain rfl : r0 = 0 := by
          rcases Nat.eq_zero_or_pos r0 with z | z
          · exact z
          · exact absurd ((sub_ge (a := r0) (b := 1) (by omega) (by decide)).mpr z) (Int32.not_le.mpr hc7)
        refine z_iconst (pc := 59) C dX9_walkRow_59 (zb true) (by decide) ?_
        refine z_zret (pc := 60) C dX9_walkRow_60 rfl (by first | exact zb_nar _ | rfl) (Nat.zero_le _) (Nat.zero_le _) ⟨_, rfl, ?_, rfl⟩
        rw [he]; exact ⟨rfl, hX1, hF1⟩
      · skip
        obtain ⟨r0, rfl⟩ : ∃ q, r0 = q + 1 := ⟨r0 - 1, by have := (sub_ge (a := r0) (b := 1) (by omega) (by decide)).mp (Int32.not_lt.mp hc7); omega⟩
        rw [show nI (r0 + 1) - nI 1 = nI r0 from by rw [pk_sub (by omega)]; rfl]
        obtain ⟨q1, C1⟩ := id hX1
        obtain ⟨hT1, fl1, ft1, u0, -⟩ := id C1
        have e1 : row / 10 ^ r0 ≤ row := Nat.div_le_self _ _
        obtain ⟨e2, e3⟩ := p10 (n := r0) (by omega)
        have e4 : sgl T m (sdg row r0) < R 1 := sgl_lt (hS1.1 m hm 0 (by omega)) (hd r0 (by omega))
        refine z_aload_n (pc := 10) C dX9_walkRow_10 0 rfl ?_
        refine z_iload_n (pc := 11) C dX9_walkRow_11 1 rfl ?_
        refine z_iload_n (pc := 12) C dX9_walkRow_12 2 rfl ?_
        refine z_stn (pc := 13) (i := 3) C dX9_walkRow_13 (by decide) sX9_31 ?_
        refine z_iload (pc := 16) C dX9_walkRow_16 4 rfl ?_
        refine z_stld (pc := 18) (i := 3) C dX9_walkRow_18 (by decide) (by show r0 < 7; omega) ?_
        rw [zSt3 (by omega)]
        first | refine z_idivN (pc := 19) C dX9_walkRow_19 (by omega) (by omega) (by omega) ?_ | refine z_idiv (pc := 19) C dX9_walkRow_19 (by decide) ?_
        refine z_bipush (pc := 20) C dX9_walkRow_20 (nI 10) (by decide) ?_
        first | refine z_iremN (pc := 22) C dX9_walkRow_22 (by omega) (by omega) (by omega) ?_ | refine z_irem (pc := 22) C dX9_walkRow_22 (by decide) ?_
        refine z_top (show nI (row / 10 ^ r0 % 10) = nI (sdg row r0) from rfl) ?_
        have e5 := sdg_lt row r0
        refine z_cV1 (pc := 23) mX9_goal C [_, _] dX9_walkRow_23 lX9_35 mtX9_goal (tX9_goal hX1 hR hm (by omega)) q1 rfl rfl (by decide) (Nat.le_of_ble_eq_true rfl) (Nat.zero_le _) (Nat.zero_le _) ?_
        refine z_istore (pc := 26) (lv' := [(5, _), (0, _), (1, _), (2, _), (3, _), (4, _)]) C dX9_walkRow_26 (by decide) rfl ?_
        refine z_aload_n (pc := 28) C dX9_walkRow_28 1 rfl ?_
        refine z_getf (pc := 29) C dX9_walkRow_29 fX9_17 (by assumption) (by first | rfl | assumption) ?_
        refine z_iload_n (pc := 32) C dX9_walkRow_32 2 rfl ?_
        refine z_iload (pc := 33) C dX9_walkRow_33 0 rfl ?_
        refine z_cV1 (pc := 35) mX5_mayGo C [_, _] dX9_walkRow_35 lX9_39 mtX5_mayGo (tX5_mayGo C1 hR hS1 hm e4) u0 rfl rfl (by decide) (Nat.le_of_ble_eq_true rfl) (Nat.zero_le _) (Nat.zero_le _) ?_
        first | refine z_ifneB (pc := 38) C 43 dX9_walkRow_38 (by decide) (fun hc38 => ?_) (fun hc38 => ?_) | refine z_ifneN (pc := 38) C 43 dX9_walkRow_38 (by decide) (by omega) (fun hc38 => ?_) (fun hc38 => ?_) | refine z_if_ne (pc := 38) C 43 dX9_walkRow_38 (by decide) (fun hc38 => ?_) (fun hc38 => ?_)
        · skip
          refine z_aload_n (pc := 43) C dX9_walkRow_43 1 rfl ?_
          refine z_getf (pc := 44) C dX9_walkRow_44 fX9_17 (by assumption) (by first | rfl | assumption) ?_
          refine z_iload_n (pc := 47) C dX9_walkRow_47 2 rfl ?_
          refine z_iload (pc := 48) C dX9_walkRow_48 0 rfl ?_
          refine z_cV0Q (pc := 50) mX5_go C [_, _] dX9_walkRow_50 lX9_43 mtX5_go (tX5_goQ C1 hR hm) u0 rfl rfl (by decide) (Nat.le_of_ble_eq_true rfl) (Nat.zero_le _) (Nat.zero_le _) ?_
          rintro h3 ⟨C3, G3⟩
          obtain ⟨X3, F3⟩ := hX1.goes C3 G3
          refine z_iinc (pc := 53) (lv' := [(4, _), (5, _), (0, _), (1, _), (2, _), (3, _)]) C dX9_walkRow_53 5 rfl _ rfl (by decide) rfl ?_
          refine z_goto (pc := 56) C 5 dX9_walkRow_56 (by decide) ?_
          refine z_sub (lv' := [(0, _), (1, _), (2, _), (3, _), (4, _)]) [2, 3, 4, 5, 0] rfl ?_
          (rw [dec1]; exact ih r0 (by omega) r0 _ h3 ⟨rfl, by omega, wfS_go hR hS1 hm e4, by rw [he, swk, if_pos (show sMay R T m (sgl T m (sdg row r0)) = true from hc38)], X3, hF1.tr F3⟩)
        · skip
          refine z_iconst (pc := 41) C dX9_walkRow_41 (zb false) (by decide) ?_
          refine z_zret (pc := 42) C dX9_walkRow_42 rfl (by first | exact zb_nar _ | rfl) (Nat.zero_le _) (Nat.zero_le _) ⟨_, rfl, ?_, rfl⟩
          rw [he, swk, if_neg (by rw [show sMay R T m (sgl T m (sdg row r0)) = false from hc38]; decide)]; exact ⟨rfl, hX1, hF1⟩
  exact lp5 c c S h ⟨rfl, Nat.le_refl _, hS, rfl, hX, trF.rf h⟩

set_option maxRecDepth 20000 in
set_option maxHeartbeats 1000000 in
theorem tX11_follows {h : ZH} {st : Nat} {ic tb fa pl : Int32} {t : Nat} {R S : Nat → Nat} {k row n0 : Int32} (hK : h 1000 = some (zO 7 (kfs st ic tb fa pl))) (hC : Scn h 1051 1052 1053 t R S) (hR : wfR R) (hS : wfS R S) (hq : t = 1008 ∨ t = 1039) (hT0 : Trs h) : ZQ1 mX11_follows 6 [.ref 1000, .int k, .int row, .int n0] h (fun w hh => w = .int (aFol R S k row n0).1 ∧ kQ h hh st ic (aFol R S k row n0).2 fa pl) := by
  intro n
  obtain ⟨w1, w3, w4, w5, w0, wP, wM, wK, wX⟩ := id hR
  obtain ⟨wT, wL, wB⟩ := id hS
  obtain ⟨hT, fl, ft, s0, s1, s2, rl, rt⟩ := id hC
  obtain ⟨fc, fh, fn, fk, fs, ff, fw, fe, t0, t1, t2, t3, t4, t5, t6, t7, t8, rc, rh, rn, rk, rs, rf, rv, re⟩ := id hT
  obtain ⟨⟨z1, z2, z0⟩, -⟩ := id hT0
  refine z_enter (lv := [(0, _), (1, _), (2, _), (3, _)]) (by decide) (Nat.le_of_ble_eq_true rfl) rfl (fun X C => ?_)
  refine z_aload_n (pc := 0) C dX11_follows_0 0 rfl ?_
  refine z_iload_n (pc := 1) C dX11_follows_1 1 rfl ?_
  refine z_cV1 (pc := 2) mX11_isKill C [_] dX11_follows_2 lX11_158 mtX11_isKill (tX11_isKill (by first | assumption | omega) (by first | assumption | omega) (by first | assumption | omega)) (by assumption) rfl rfl (by decide) (Nat.le_of_ble_eq_true rfl) (Nat.zero_le _) (Nat.zero_le _) ?_
  first | refine z_ifneB (pc := 5) C 14 dX11_follows_5 (by decide) (fun hc5 => ?_) (fun hc5 => ?_) | refine z_ifneN (pc := 5) C 14 dX11_follows_5 (by decide) (by omega) (fun hc5 => ?_) (fun hc5 => ?_) | refine z_if_ne (pc := 5) C 14 dX11_follows_5 (by decide) (fun hc5 => ?_) (fun hc5 => ?_)
  · skip
    obtain ⟨j, hj, rfl⟩ := zlt_of (by omega) hc5
    have pj := pn_nI (j := j) (by omega)
    have e1 := wL j hj
    refine z_iload_n (pc := 14) C dX11_follows_14 3 rfl ?_
    refine z_if_lt (pc := 15) C 33 dX11_follows_15 (by decide) (fun hc15 => ?_) (fun hc15 => ?_)
    · skip
      have e5 : zlt n0 7 = false := zlt_f1 hc15
      refine z_aload_n (pc := 33) C dX11_follows_33 0 rfl ?_
      refine z_iconst (pc := 34) C dX11_follows_34 (nI 2) (by decide) ?_
      refine z_cV1 (pc := 35) mX11_refuse C [_] dX11_follows_35 lX11_70 mtX11_refuse (tX11_refuse (by first | assumption | omega)) (by assumption) rfl rfl (by decide) (Nat.le_of_ble_eq_true rfl) (Nat.zero_le _) (Nat.zero_le _) ?_
      refine z_iret (pc := 38) C dX11_follows_38 rfl (Nat.zero_le _) (Nat.zero_le _) ⟨_, rfl, ?_, rfl⟩
      refine ⟨by simp [aFol, *], ?_⟩
      first | exact kQ.eq (t := 1) (by simp [aFol, *] <;> rfl) (kQ.of0 _ _ _ _ _ hT0) | exact kQ.eq (t := 2) (by simp [aFol, *] <;> rfl) (kQ.of0 _ _ _ _ _ hT0) | exact kQ.eq (t := 5) (by simp [aFol, *] <;> rfl) (kQ.of _ _ _ _ _ X2.trs F2) | exact kQ.eq (t := 0) (by simp [aFol, *] <;> rfl) (kQ.of _ _ _ _ _ X2.trs F2)
    · skip
      refine z_iload_n (pc := 18) C dX11_follows_18 3 rfl ?_
      refine z_bipush (pc := 19) C dX11_follows_19 (nI 6) (by decide) ?_
      refine z_icmp_gt (pc := 21) C 33 dX11_follows_21 (by decide) (fun hc21 => ?_) (fun hc21 => ?_)
      · skip
        have e5 : zlt n0 7 = false := zlt_f3 (c := 6) (by decide) (Int32.not_le.mpr hc21)
        refine z_aload_n (pc := 33) C dX11_follows_33 0 rfl ?_
        refine z_iconst (pc := 34) C dX11_follows_34 (nI 2) (by decide) ?_
        refine z_cV1 (pc := 35) mX11_refuse C [_] dX11_follows_35 lX11_70 mtX11_refuse (tX11_refuse (by first | assumption | omega)) (by assumption) rfl rfl (by decide) (Nat.le_of_ble_eq_true rfl) (Nat.zero_le _) (Nat.zero_le _) ?_
        refine z_iret (pc := 38) C dX11_follows_38 rfl (Nat.zero_le _) (Nat.zero_le _) ⟨_, rfl, ?_, rfl⟩
        refine ⟨by simp [aFol, *], ?_⟩
        first | exact kQ.eq (t := 1) (by simp [aFol, *] <;> rfl) (kQ.of0 _ _ _ _ _ hT0) | exact kQ.eq (t := 2) (by simp [aFol, *] <;> rfl) (kQ.of0 _ _ _ _ _ hT0) | exact kQ.eq (t := 5) (by simp [aFol, *] <;> rfl) (kQ.of _ _ _ _ _ X2.trs F2) | exact kQ.eq (t := 0) (by simp [aFol, *] <;> rfl) (kQ.of _ _ _ _ _ X2.trs F2)
      · skip
        have e5 : zlt n0 7 = true := zlt_le3 (c := 6) (by decide) hc15 (Int32.not_lt.mp hc21)
        obtain ⟨c, hc, rfl⟩ := zlt_of (by omega) e5
        have pc := pn_nI (j := c) (by omega)
        refine z_aload_n (pc := 24) C dX11_follows_24 0 rfl ?_
        refine z_iload_n (pc := 25) C dX11_follows_25 2 rfl ?_
        refine z_iload_n (pc := 26) C dX11_follows_26 3 rfl ?_
        refine z_cV1 (pc := 27) mX11_isRow C [_, _] dX11_follows_27 lX11_228 mtX11_isRow (tX11_isRow hK hC hR (by omega)) (by assumption) rfl rfl (by decide) (Nat.le_of_ble_eq_true rfl) (Nat.zero_le _) (Nat.zero_le _) ?_
        first | refine z_ifneB (pc := 30) C 39 dX11_follows_30 (by decide) (fun hc30 => ?_) (fun hc30 => ?_) | refine z_ifneN (pc := 30) C 39 dX11_follows_30 (by decide) (by omega) (fun hc30 => ?_) (fun hc30 => ?_) | refine z_if_ne (pc := 30) C 39 dX11_follows_30 (by decide) (fun hc30 => ?_) (fun hc30 => ?_)
        · skip
          obtain ⟨e6, e7⟩ := (Bool.and_eq_true _ _).mp hc30
          obtain ⟨i, hi, rfl⟩ := snn_of e6
          have pi := pn_nI (j := i) hi
          rw [pi] at e7
          have hdd : ∀ x, x < c → sdg i x ≤ R 1 := fun x hx => sdgs_le c x ((Bool.and_eq_true _ _).mp e7).1 hx
          obtain ⟨fl9, ft9, s9⟩ : ∃ fl9 ft9 : Nat → Nat, True := ⟨fl, ft, trivial⟩
          refine z_aload_n (pc := 39) C dX11_follows_39 0 rfl ?_
          refine z_getf (pc := 40) C dX11_follows_40 fX11_19 (by assumption) (by first | rfl | assumption) ?_
          refine z_aload_n (pc := 43) C dX11_follows_43 0 rfl ?_
          refine z_getf (pc := 44) C dX11_follows_44 fX11_53 (by assumption) (by first | rfl | assumption) ?_
          refine z_cV0Q (pc := 47) mX9_begin C [_] dX11_follows_47 lX11_232 mtX9_begin (tX9_beginQ hR hC hq hT0) z0 rfl rfl (by decide) (Nat.le_of_ble_eq_true rfl) (Nat.zero_le _) (Nat.zero_le _) ?_
          rintro h1 ⟨⟨y1, y2, X1⟩, F1⟩
          obtain ⟨q1, C1⟩ := id X1
          have K1 : h1 1000 = _ := (F1 1000 (by decide) (by decide) (by decide) (by decide)).trans hK
          have N1 : h1 1051 = _ := (F1 1051 (by decide) (by decide) (by decide) (by decide)).trans s0
          have N2 : h1 1052 = _ := (F1 1052 (by decide) (by decide) (by decide) (by decide)).trans s1
          refine z_aload_n (pc := 50) C dX11_follows_50 0 rfl ?_
          refine z_getf (pc := 51) C dX11_follows_51 fX11_19 (by assumption) (by first | rfl | assumption) ?_
          refine z_aload_n (pc := 54) C dX11_follows_54 0 rfl ?_
          refine z_getf (pc := 55) C dX11_follows_55 fX11_53 (by assumption) (by first | rfl | assumption) ?_
          refine z_getf (pc := 58) C dX11_follows_58 fX11_164 N1 (by first | rfl | assumption) ?_
          refine z_iload_n (pc := 61) C dX11_follows_61 1 rfl ?_
          refine z_ialdE (pc := 62) C dX11_follows_62 N2 (by omega) (by decide) (rl j hj) ?_
          refine z_iload_n (pc := 63) C dX11_follows_63 2 rfl ?_
          refine z_iload_n (pc := 64) C dX11_follows_64 3 rfl ?_
          refine z_cV1Q (pc := 65) mX9_walkRow C [_, _, _] dX11_follows_65 lX11_235 mtX9_walkRow (tX9_walkRow X1 hq hR hS e1 (by omega) hi hdd) q1 rfl rfl (by decide) (Nat.le_of_ble_eq_true rfl) (Nat.zero_le _) (Nat.zero_le _) ?_
          rintro _ h2 ⟨rfl, X2, F2⟩
          replace F2 := F1.tr F2
          obtain ⟨q2, C2⟩ := id X2
          have K2 : h2 1000 = _ := (F2 1000 (by decide) (by decide) (by decide) (by decide)).trans hK
          obtain ⟨-, _, _, u0, -⟩ := id C2
          have hS2 := swk_wf hR (row := i) e1 c S hS hdd
          first | refine z_ifneB (pc := 68) C 77 dX11_follows_68 (by decide) (fun hc68 => ?_) (fun hc68 => ?_) | refine z_ifneN (pc := 68) C 77 dX11_follows_68 (by decide) (by omega) (fun hc68 => ?_) (fun hc68 => ?_) | refine z_if_ne (pc := 68) C 77 dX11_follows_68 (by decide) (fun hc68 => ?_) (fun hc68 => ?_)
          · skip
            have e8 := hc68
            refine z_aload_n (pc := 77) C dX11_follows_77 0 rfl ?_
            refine z_aload_n (pc := 78) C dX11_follows_78 0 rfl ?_
            refine z_getf (pc := 79) C dX11_follows_79 fX11_19 (by assumption) (by first | rfl | assumption) ?_
            refine z_getf (pc := 82) C dX11_follows_82 fX11_239 (by assumption) (by first | rfl | assumption) ?_
            refine z_iload_n (pc := 85) C dX11_follows_85 1 rfl ?_
            refine z_cV1 (pc := 86) mX5_standOf C [_] dX11_follows_86 lX11_173 mtX5_standOf (tX5_standOf C2 hR hS2 hj) u0 rfl rfl (by decide) (Nat.le_of_ble_eq_true rfl) (Nat.zero_le _) (Nat.zero_le _) ?_
            refine z_cV1 (pc := 89) mX11_answer C [_] dX11_follows_89 lX11_108 mtX11_answer (tX11_answer K2) (by assumption) rfl rfl (by decide) (Nat.le_of_ble_eq_true rfl) (Nat.zero_le _) (Nat.zero_le _) ?_
            refine z_iret (pc := 92) C dX11_follows_92 rfl (Nat.zero_le _) (Nat.zero_le _) ⟨_, rfl, ?_, rfl⟩
            refine ⟨by simp [aFol, *], ?_⟩
            first | exact kQ.eq (t := 1) (by simp [aFol, *] <;> rfl) (kQ.of0 _ _ _ _ _ hT0) | exact kQ.eq (t := 2) (by simp [aFol, *] <;> rfl) (kQ.of0 _ _ _ _ _ hT0) | exact kQ.eq (t := 5) (by simp [aFol, *] <;> rfl) (kQ.of _ _ _ _ _ X2.trs F2) | exact kQ.eq (t := 0) (by simp [aFol, *] <;> rfl) (kQ.of _ _ _ _ _ X2.trs F2)
          · skip
            have e8 := hc68
            refine z_aload_n (pc := 71) C dX11_follows_71 0 rfl ?_
            refine z_iconst (pc := 72) C dX11_follows_72 (nI 5) (by decide) ?_
            refine z_cV1 (pc := 73) mX11_refuse C [_] dX11_follows_73 lX11_70 mtX11_refuse (tX11_refuse K2) (by assumption) rfl rfl (by decide) (Nat.le_of_ble_eq_true rfl) (Nat.zero_le _) (Nat.zero_le _) ?_
            refine z_iret (pc := 76) C dX11_follows_76 rfl (Nat.zero_le _) (Nat.zero_le _) ⟨_, rfl, ?_, rfl⟩
            refine ⟨by simp [aFol, *], ?_⟩
            first | exact kQ.eq (t := 1) (by simp [aFol, *] <;> rfl) (kQ.of0 _ _ _ _ _ hT0) | exact kQ.eq (t := 2) (by simp [aFol, *] <;> rfl) (kQ.of0 _ _ _ _ _ hT0) | exact kQ.eq (t := 5) (by simp [aFol, *] <;> rfl) (kQ.of _ _ _ _ _ X2.trs F2) | exact kQ.eq (t := 0) (by simp [aFol, *] <;> rfl) (kQ.of _ _ _ _ _ X2.trs F2)
        · skip
          have e6 := hc30
          refine z_aload_n (pc := 33) C dX11_follows_33 0 rfl ?_
          refine z_iconst (pc := 34) C dX11_follows_34 (nI 2) (by decide) ?_
          refine z_cV1 (pc := 35) mX11_refuse C [_] dX11_follows_35 lX11_70 mtX11_refuse (tX11_refuse (by first | assumption | omega)) (by assumption) rfl rfl (by decide) (Nat.le_of_ble_eq_true rfl) (Nat.zero_le _) (Nat.zero_le _) ?_
          refine z_iret (pc := 38) C dX11_follows_38 rfl (Nat.zero_le _) (Nat.zero_le _) ⟨_, rfl, ?_, rfl⟩
          refine ⟨by simp [aFol, *], ?_⟩
          first | exact kQ.eq (t := 1) (by simp [aFol, *] <;> rfl) (kQ.of0 _ _ _ _ _ hT0) | exact kQ.eq (t := 2) (by simp [aFol, *] <;> rfl) (kQ.of0 _ _ _ _ _ hT0) | exact kQ.eq (t := 5) (by simp [aFol, *] <;> rfl) (kQ.of _ _ _ _ _ X2.trs F2) | exact kQ.eq (t := 0) (by simp [aFol, *] <;> rfl) (kQ.of _ _ _ _ _ X2.trs F2)
  · skip
    refine z_aload_n (pc := 8) C dX11_follows_8 0 rfl ?_
    refine z_iconst (pc := 9) C dX11_follows_9 (nI 1) (by decide) ?_
    refine z_cV1 (pc := 10) mX11_refuse C [_] dX11_follows_10 lX11_70 mtX11_refuse (tX11_refuse (by first | assumption | omega)) (by assumption) rfl rfl (by decide) (Nat.le_of_ble_eq_true rfl) (Nat.zero_le _) (Nat.zero_le _) ?_
    refine z_iret (pc := 13) C dX11_follows_13 rfl (Nat.zero_le _) (Nat.zero_le _) ⟨_, rfl, ?_, rfl⟩
    refine ⟨by simp [aFol, *], ?_⟩
    first | exact kQ.eq (t := 1) (by simp [aFol, *] <;> rfl) (kQ.of0 _ _ _ _ _ hT0) | exact kQ.eq (t := 2) (by simp [aFol, *] <;> rfl) (kQ.of0 _ _ _ _ _ hT0) | exact kQ.eq (t := 5) (by simp [aFol, *] <;> rfl) (kQ.of _ _ _ _ _ X2.trs F2) | exact kQ.eq (t := 0) (by simp [aFol, *] <;> rfl) (kQ.of _ _ _ _ _ X2.trs F2)

theorem div10 (a k : Nat) : a / 10 ^ k / 10 = a / 10 ^ (k + 1) := by rw [Nat.div_div_eq_div_mul, ← Nat.pow_succ]

set_option maxRecDepth 20000 in
set_option maxHeartbeats 1000000 in
theorem tX12_follows {h : ZH} {v : Nat → Int32} {R S : Nat → Nat} {b : Bool} {k row n0 : Int32} (hM : h 1063 = some (zO 8 (mfs v))) (hA : h 1066 = some (zI 241 R)) (hB : h 1070 = some (zI 40 S)) (hJ : mJ h) (hR : wfR R) (hS : wfS R S) (hF : v 14 = zb b) (hb : wfB b R) : ZQ1 mX12_follows 6 [.ref 1063, .int k, .int row, .int n0] h (fun w hh => w = .int (aFol R S k row n0).1 ∧ mQ h hh (mv v (aFol R S k row n0).2)) := by
  intro n
  obtain ⟨w1, w3, w4, w5, w0, wP, wM, wK, wX⟩ := id hR
  obtain ⟨wT, wL, wB⟩ := id hS
  refine z_enter (lv := [(0, _), (1, _), (2, _), (3, _)]) (by decide) (Nat.le_of_ble_eq_true rfl) rfl (fun X C => ?_)
  refine z_aload_n (pc := 0) C dX12_follows_0 0 rfl ?_
  refine z_cV0 (pc := 1) mX12_good C [] dX12_follows_1 lX12_167 mtX12_good (tX12_good (by first | assumption | omega)) (by assumption) rfl rfl (by decide) (Nat.le_of_ble_eq_true rfl) (Nat.zero_le _) (Nat.zero_le _) ?_
  have hM1 : zup h 1063 (zO 8 (mfs (upd (upd v 0 0) 11 0))) 1063 = some (zO 8 (mfs (upd (upd v 0 0) 11 0))) := zup_same _ _ _
  have hA1 : zup h 1063 (zO 8 (mfs (upd (upd v 0 0) 11 0))) 1066 = some (zI 241 R) := (zup_ne (by decide)).trans hA
  have hB1 : zup h 1063 (zO 8 (mfs (upd (upd v 0 0) 11 0))) 1070 = some (zI 40 S) := (zup_ne (by decide)).trans hB
  have hF1 : upd (upd v 0 0) 11 0 14 = zb b := hF
  generalize hg : zup h 1063 (zO 8 (mfs (upd (upd v 0 0) 11 0))) = h1 at hM1 hA1 hB1 ⊢
  have hJ1 : mJ h1 := by rw [← hg]; exact hJ.up _
  refine z_aload_n (pc := 4) C dX12_follows_4 0 rfl ?_
  refine z_iload_n (pc := 5) C dX12_follows_5 1 rfl ?_
  refine z_cV1 (pc := 6) mX12_isKill C [_] dX12_follows_6 lX12_300 mtX12_isKill (tX12_isKill (by first | assumption | omega) (by first | assumption | omega) (by first | assumption | omega) (by first | assumption | omega)) (by assumption) rfl rfl (by decide) (Nat.le_of_ble_eq_true rfl) (Nat.zero_le _) (Nat.zero_le _) ?_
  rw [wfB_k hb k]
  first | refine z_ifneB (pc := 9) C 18 dX12_follows_9 (by decide) (fun hc9 => ?_) (fun hc9 => ?_) | refine z_ifneN (pc := 9) C 18 dX12_follows_9 (by decide) (by omega) (fun hc9 => ?_) (fun hc9 => ?_) | refine z_if_ne (pc := 9) C 18 dX12_follows_9 (by decide) (fun hc9 => ?_) (fun hc9 => ?_)
  · skip
    obtain ⟨j, hj, rfl⟩ := zlt_of (by omega) hc9
    have pj := pn_nI (j := j) (by omega)
    have e1 := wL j hj
    obtain ⟨T0, hT0⟩ := id hJ1.1
    refine z_iload_n (pc := 18) C dX12_follows_18 3 rfl ?_
    refine z_iconst (pc := 19) C dX12_follows_19 (nI 0) (by decide) ?_
    refine z_bipush (pc := 20) C dX12_follows_20 (nI 6) (by decide) ?_
    refine z_cS1 (pc := 22) mX12_in C [_, _, _] dX12_follows_22 lX12_146 mtX12_in tX12_in rfl rfl (by decide) (Nat.le_of_ble_eq_true rfl) (Nat.zero_le _) (Nat.zero_le _) ?_
    rw [show decide (nI 0 ≤ n0 ∧ n0 ≤ nI 6) = zlt n0 7 from zlt_le2 n0 (by omega)]
    first | refine z_ifeqB (pc := 25) C 32 dX12_follows_25 (by decide) (fun hc25 => ?_) (fun hc25 => ?_) | refine z_ifeqN (pc := 25) C 32 dX12_follows_25 (by decide) (by omega) (fun hc25 => ?_) (fun hc25 => ?_) | refine z_if_eq (pc := 25) C 32 dX12_follows_25 (by decide) (fun hc25 => ?_) (fun hc25 => ?_)
    · skip
      refine z_aload_n (pc := 32) C dX12_follows_32 0 rfl ?_
      refine z_iconst (pc := 33) C dX12_follows_33 (nI 2) (by decide) ?_
      refine z_cV1 (pc := 34) mX12_no C [_] dX12_follows_34 lX12_170 mtX12_no (tX12_no (by first | assumption | omega)) (by assumption) rfl rfl (by decide) (Nat.le_of_ble_eq_true rfl) (Nat.zero_le _) (Nat.zero_le _) ?_
      refine z_iret (pc := 37) C dX12_follows_37 rfl (Nat.zero_le _) (Nat.zero_le _) ⟨_, rfl, ?_, rfl⟩
      refine ⟨by simp [aFol, *], ?_⟩
      first | exact mQ.eq (t := 1) (by simp [aFol, *] <;> rfl) (mQ.no0 hg hJ) | exact mQ.eq (t := 2) (by simp [aFol, *] <;> rfl) (mQ.no0 hg hJ) | exact mQ.eq (t := 1) (by simp [aFol, *] <;> rfl) (mQ.no hg hM2 Q2) | exact mQ.eq (t := 2) (by simp [aFol, *] <;> rfl) (mQ.no hg hM2 Q2) | exact mQ.eq (t := 5) (by simp [aFol, *] <;> rfl) (mQ.no hg hM2 Q2) | exact mQ.eq (t := 0) (by simp [aFol, *] <;> rfl) (mQ.ok hg Q2)
    · skip
      obtain ⟨c, hc, rfl⟩ := zlt_of (by omega) hc25
      have pc := pn_nI (j := c) (by omega)
      obtain ⟨pc1, pc2⟩ := p10 (n := c) (by omega)
      refine z_iload_n (pc := 28) C dX12_follows_28 2 rfl ?_
      refine z_if_ge (pc := 29) C 38 dX12_follows_29 (by decide) (fun hc29 => ?_) (fun hc29 => ?_)
      · skip
        have e5 := snn_t hc29
        obtain ⟨i, hi, rfl⟩ := snn_of e5
        have pi := pn_nI (j := i) hi
        refine z_iconst (pc := 38) C dX12_follows_38 (nI 1) (by decide) ?_
        refine z_istore (pc := 39) (lv' := [(4, _), (0, _), (1, _), (2, _), (3, _)]) C dX12_follows_39 (by decide) rfl ?_
        refine z_iload_n (pc := 41) C dX12_follows_41 3 rfl ?_
        refine z_istore (pc := 42) (lv' := [(5, _), (4, _), (0, _), (1, _), (2, _), (3, _)]) C dX12_follows_42 (by decide) rfl ?_
        refine z_iconst (pc := 44) C dX12_follows_44 (zb true) (by decide) ?_
        refine z_istore (pc := 45) (lv' := [(6, _), (5, _), (4, _), (0, _), (1, _), (2, _), (3, _)]) C dX12_follows_45 (by decide) rfl ?_
        refine z_iconst (pc := 47) C dX12_follows_47 (nI 0) (by decide) ?_
        refine z_istore (pc := 48) (lv' := [(7, _), (6, _), (5, _), (4, _), (0, _), (1, _), (2, _), (3, _)]) C dX12_follows_48 (by decide) rfl ?_
        refine z_sub (lv' := [(0, _), (1, _), (2, _), (3, _), (4, _), (5, _), (6, _), (7, _)]) [4, 5, 6, 7, 3, 2, 1, 0] rfl ?_
        have lp50 : ∀ (f : Nat) (g : Nat) (is : Bool), (g + f = c ∧ is = sdgs R i g) → Zc X mX12_follows (zEnd X (fun r hh n' => ∃ w, r = some w ∧ (w = .int (aFol R S (nI j) (nI i) (nI c)).1 ∧ mQ h hh (mv v (aFol R S (nI j) (nI i) (nI c)).2)) ∧ n' = n) 0 0) 50 [(0, .ref 1063), (1, .int (nI j)), (2, .int (nI i)), (3, .int (nI c)), (4, .int (nI (10 ^ g))), (5, .int (nI (i / 10 ^ g))), (6, .int (zb is)), (7, .int (nI g))] [] h1 n 0 0 := by
          intro f
          induction f using Nat.strongRecOn with
          | _ f ih =>
            intro g is hk
            obtain ⟨hk, he⟩ := hk
            have b3 : i / 10 ^ g ≤ i := Nat.div_le_self _ _
            refine z_iload (pc := 50) C dX12_follows_50 7 rfl ?_
            refine z_iload_n (pc := 52) C dX12_follows_52 3 rfl ?_
            first | refine z_icmpgeN (pc := 53) C 102 dX12_follows_53 (by decide) (by omega) (by omega) (fun hc53 => ?_) (fun hc53 => ?_) | refine z_icmp_ge (pc := 53) C 102 dX12_follows_53 (by decide) (fun hc53 => ?_) (fun hc53 => ?_)
            · skip
              refine z_iload (pc := 102) C dX12_follows_102 6 rfl ?_
              first | refine z_ifeqB (pc := 104) C 112 dX12_follows_104 (by decide) (fun hc104 => ?_) (fun hc104 => ?_) | refine z_ifeqN (pc := 104) C 112 dX12_follows_104 (by decide) (by omega) (fun hc104 => ?_) (fun hc104 => ?_) | refine z_if_eq (pc := 104) C 112 dX12_follows_104 (by decide) (fun hc104 => ?_) (fun hc104 => ?_)
              · skip
                obtain rfl : g = c := (by omega)
                have e6 : sRow R i g = false := by unfold sRow; rw [← he, hc104]; rfl
                refine z_aload_n (pc := 112) C dX12_follows_112 0 rfl ?_
                refine z_iconst (pc := 113) C dX12_follows_113 (nI 2) (by decide) ?_
                refine z_cV1 (pc := 114) mX12_no C [_] dX12_follows_114 lX12_170 mtX12_no (tX12_no (by first | assumption | omega)) (by assumption) rfl rfl (by decide) (Nat.le_of_ble_eq_true rfl) (Nat.zero_le _) (Nat.zero_le _) ?_
                refine z_iret (pc := 117) C dX12_follows_117 rfl (Nat.zero_le _) (Nat.zero_le _) ⟨_, rfl, ?_, rfl⟩
                refine ⟨by simp [aFol, *], ?_⟩
                first | exact mQ.eq (t := 1) (by simp [aFol, *] <;> rfl) (mQ.no0 hg hJ) | exact mQ.eq (t := 2) (by simp [aFol, *] <;> rfl) (mQ.no0 hg hJ) | exact mQ.eq (t := 1) (by simp [aFol, *] <;> rfl) (mQ.no hg hM2 Q2) | exact mQ.eq (t := 2) (by simp [aFol, *] <;> rfl) (mQ.no hg hM2 Q2) | exact mQ.eq (t := 5) (by simp [aFol, *] <;> rfl) (mQ.no hg hM2 Q2) | exact mQ.eq (t := 0) (by simp [aFol, *] <;> rfl) (mQ.ok hg Q2)
              · skip
                refine z_iload (pc := 107) C dX12_follows_107 5 rfl ?_
                first | refine z_ifleN (pc := 109) C 118 dX12_follows_109 (by decide) (by omega) (fun hc109 => ?_) (fun hc109 => ?_) | refine z_if_le (pc := 109) C 118 dX12_follows_109 (by decide) (fun hc109 => ?_) (fun hc109 => ?_)
                · skip
                  obtain rfl : g = c := (by omega)
                  have e6 : sRow R i g = true := by unfold sRow; rw [← he, hc104, decide_eq_true ((Nat.div_eq_zero_iff_lt pc2).mp hc109)]; rfl
                  have hdd : ∀ x, x < g → sdg i x ≤ R 1 := fun x hx => sdgs_le g x (by rw [← he, hc104]) hx
                  refine z_aload_n (pc := 118) C dX12_follows_118 0 rfl ?_
                  refine z_getf (pc := 119) C dX12_follows_119 fX12_32 (by assumption) (by first | rfl | assumption) ?_
                  refine z_iconst (pc := 122) C dX12_follows_122 (nI 0) (by decide) ?_
                  refine z_aload_n (pc := 123) C dX12_follows_123 0 rfl ?_
                  refine z_getf (pc := 124) C dX12_follows_124 fX12_41 (by assumption) (by first | rfl | assumption) ?_
                  refine z_iconst (pc := 127) C dX12_follows_127 (nI 0) (by decide) ?_
                  refine z_bipush (pc := 128) C dX12_follows_128 (nI 40) (by decide) ?_
                  refine z_cS0 (pc := 130) mX12_copy C [_, _, _, _, _] dX12_follows_130 lX12_176 mtX12_copy (tX12_copy hB1 hT0 (by decide) (by decide) (by decide) (by decide) (by decide)) rfl rfl (by decide) (Nat.le_of_ble_eq_true rfl) (Nat.zero_le _) (Nat.zero_le _) ?_
                  have hS1e : ∀ x, x < 40 → ncpy S T0 0 0 40 x = S x := fun x hx => ncpy_00 _ _ hx
                  generalize ncpy S T0 0 0 40 = S1 at hS1e ⊢
                  have hM0 : zup h1 1073 (zI 40 S1) 1063 = _ := (zup_ne (by decide)).trans hM1
                  have hB0 : zup h1 1073 (zI 40 S1) 1070 = _ := (zup_ne (by decide)).trans hB1
                  have hT1 := zup_same h1 1073 (zI 40 S1)
                  have F1 : ∀ a, a ≠ 1073 → zup h1 1073 (zI 40 S1) a = h1 a := fun a q => zup_ne q
                  generalize zup h1 1073 (zI 40 S1) = h0 at hM0 hB0 hT1 F1 ⊢
                  refine z_aload_n (pc := 133) C dX12_follows_133 0 rfl ?_
                  refine z_getf (pc := 134) C dX12_follows_134 fX12_32 (by assumption) (by first | rfl | assumption) ?_
                  refine z_bipush (pc := 137) C dX12_follows_137 (nI 32) (by decide) ?_
                  refine z_iload_n (pc := 139) C dX12_follows_139 1 rfl ?_
                  first | refine z_iaddN (pc := 140) C dX12_follows_140 ?_ | refine z_iadd (pc := 140) C dX12_follows_140 ?_
                  first | refine z_ialdN (pc := 141) C dX12_follows_141 (by assumption) (by omega) (by decide) ?_ | refine z_ialdI (pc := 141) C dX12_follows_141 (by assumption) (by omega) (by decide) ?_
                  refine z_istore (pc := 142) (lv' := [(7, _), (0, _), (1, _), (2, _), (3, _), (4, _), (5, _), (6, _)]) C dX12_follows_142 (by decide) rfl ?_
                  refine z_iconst (pc := 144) C dX12_follows_144 (nI 0) (by decide) ?_
                  refine z_istore (pc := 145) (lv' := [(8, _), (7, _), (0, _), (1, _), (2, _), (3, _), (4, _), (5, _), (6, _)]) C dX12_follows_145 (by decide) rfl ?_
                  refine z_sub (lv' := [(0, _), (1, _), (2, _), (3, _), (4, _), (5, _), (6, _), (7, _), (8, _)]) [2, 3, 4, 5, 6, 7, 8, 1, 0] rfl ?_
                  have lp147 : ∀ (f2 : Nat) (r0 x : Nat) (T : Nat → Nat) (h2 : ZH), (r0 = f2 ∧ r0 + x = g ∧ wfS R T ∧ swk R (S (32 + j)) i g S1 = swk R (S (32 + j)) i r0 T ∧ h2 1073 = some (zI 40 T) ∧ ∀ a, a ≠ 1073 → h2 a = h1 a) → Zc X mX12_follows (zEnd X (fun r hh n' => ∃ w, r = some w ∧ (w = .int (aFol R S (nI j) (nI i) (nI g)).1 ∧ mQ h hh (mv v (aFol R S (nI j) (nI i) (nI g)).2)) ∧ n' = n) 0 0) 147 [(0, .ref 1063), (1, .int (nI j)), (2, .int (nI i)), (3, .int (nI g)), (4, .int (nI (10 ^ r0))), (5, .int (nI (i / 10 ^ g))), (6, .int (zb is)), (7, .int (nI (S (32 + j)))), (8, .int (nI x))] [] h2 n 0 0 := by
                    intro f2
                    induction f2 using Nat.strongRecOn with
                    | _ f2 ih2 =>
                      intro r0 x T h2 hk2
                      obtain ⟨hk2, hx2, hS1, he2, hT2, F2⟩ := hk2
                      have hM2 : h2 1063 = _ := (F2 1063 (by decide)).trans hM1
                      have hA2 : h2 1066 = _ := (F2 1066 (by decide)).trans hA1
                      refine z_iload (pc := 147) C dX12_follows_147 8 rfl ?_
                      refine z_iload_n (pc := 149) C dX12_follows_149 3 rfl ?_
                      first | refine z_icmpgeN (pc := 150) C 246 dX12_follows_150 (by decide) (by omega) (by omega) (fun hc150 => ?_) (fun hc150 => ?_) | refine z_icmp_ge (pc := 150) C 246 dX12_follows_150 (by decide) (fun hc150 => ?_) (fun hc150 => ?_)
                      · skip
                        obtain rfl : r0 = 0 := (by omega)
                        have Q2 : mQ h1 h2 (upd (upd v 0 0) 11 0) := ⟨⟨_, hM2, mV.rf _⟩, hJ1.fr hT2 (fun a _ q => F2 a q), fun a q1 q2 => F2 a (by omega)⟩
                        have hst := sstd_congr hR (swk_wf hR (row := i) e1 g S hS hdd) (T := T) (fun y hy => by rw [show T = (swk R (S (32 + j)) i g S1).2 from by rw [he2]; rfl]; exact (swk_congr (by omega) g S S1 hS1e).2 y (by omega)) hj
                        have hok : (swk R (S (32 + j)) i g S).1 = true := by rw [← (swk_congr (by omega) g S S1 hS1e).1, he2]; rfl
                        refine z_aload_n (pc := 246) C dX12_follows_246 0 rfl ?_
                        refine z_aload_n (pc := 247) C dX12_follows_247 0 rfl ?_
                        refine z_getf (pc := 248) C dX12_follows_248 fX12_41 (by assumption) (by first | rfl | assumption) ?_
                        refine z_iload_n (pc := 251) C dX12_follows_251 1 rfl ?_
                        refine z_cV1 (pc := 252) mX12_standsOf C [_, _] dX12_follows_252 lX12_269 mtX12_standsOf (tX12_standsOf hM2 hA2 hT2 hR hS1 hj) (by assumption) rfl rfl (by decide) (Nat.le_of_ble_eq_true rfl) (Nat.zero_le _) (Nat.zero_le _) ?_
                        refine z_iret (pc := 255) C dX12_follows_255 rfl (Nat.zero_le _) (Nat.zero_le _) ⟨_, rfl, ?_, rfl⟩
                        refine ⟨by simp [aFol, *], ?_⟩
                        first | exact mQ.eq (t := 1) (by simp [aFol, *] <;> rfl) (mQ.no0 hg hJ) | exact mQ.eq (t := 2) (by simp [aFol, *] <;> rfl) (mQ.no0 hg hJ) | exact mQ.eq (t := 1) (by simp [aFol, *] <;> rfl) (mQ.no hg hM2 Q2) | exact mQ.eq (t := 2) (by simp [aFol, *] <;> rfl) (mQ.no hg hM2 Q2) | exact mQ.eq (t := 5) (by simp [aFol, *] <;> rfl) (mQ.no hg hM2 Q2) | exact mQ.eq (t := 0) (by simp [aFol, *] <;> rfl) (mQ.ok hg Q2)
                      · skip
                        obtain ⟨r0, rfl⟩ : ∃ q, r0 = q + 1 := ⟨r0 - 1, by omega⟩
                        obtain ⟨b1, b2⟩ := p10 (n := r0) (by omega)
                        have b3 : i / 10 ^ r0 ≤ i := Nat.div_le_self _ _
                        have b4 := sdg_lt i r0
                        have b5 : 10 ^ (r0 + 1) ≤ 1000000 := (p10 (n := r0 + 1) (by omega)).1
                        have b6 : T (8 * S (32 + j)) < R 1 := hS1.1 _ e1 0 (by omega)
                        have b7 : sgl T (S (32 + j)) (sdg i r0) < R 1 := sgl_lt b6 (hdd r0 (by omega))
                        have b8 := (wP _ b6).2.1
                        refine z_iload (pc := 153) C dX12_follows_153 4 rfl ?_
                        refine z_bipush (pc := 155) C dX12_follows_155 (nI 10) (by decide) ?_
                        first | refine z_idivN (pc := 157) C dX12_follows_157 (by omega) (by omega) (by omega) ?_ | refine z_idiv (pc := 157) C dX12_follows_157 (by decide) ?_
                        refine z_top (show nI (10 ^ (r0 + 1) / 10) = nI (10 ^ r0) from by rw [Nat.pow_succ, Nat.mul_div_cancel _ (by decide)]) ?_
                        refine z_istore (pc := 158) (lv' := [(4, _), (0, _), (1, _), (2, _), (3, _), (5, _), (6, _), (7, _), (8, _)]) C dX12_follows_158 (by decide) rfl ?_
                        refine z_aload_n (pc := 160) C dX12_follows_160 1 rfl ?_
                        refine z_getf (pc := 161) C dX12_follows_161 fX12_41 (by assumption) (by first | rfl | assumption) ?_
                        refine z_bipush (pc := 164) C dX12_follows_164 (nI 8) (by decide) ?_
                        refine z_iload (pc := 166) C dX12_follows_166 7 rfl ?_
                        first | refine z_imulN (pc := 168) C dX12_follows_168 ?_ | refine z_imul (pc := 168) C dX12_follows_168 ?_
                        first | refine z_ialdN (pc := 169) C dX12_follows_169 (by assumption) (by omega) (by decide) ?_ | refine z_ialdI (pc := 169) C dX12_follows_169 (by assumption) (by omega) (by decide) ?_
                        refine z_istore (pc := 170) (lv' := [(9, _), (4, _), (0, _), (1, _), (2, _), (3, _), (5, _), (6, _), (7, _), (8, _)]) C dX12_follows_170 (by decide) rfl ?_
                        refine z_iload_n (pc := 172) C dX12_follows_172 4 rfl ?_
                        refine z_iload (pc := 173) C dX12_follows_173 1 rfl ?_
                        first | refine z_idivN (pc := 175) C dX12_follows_175 (by omega) (by omega) (by omega) ?_ | refine z_idiv (pc := 175) C dX12_follows_175 (by decide) ?_
                        refine z_bipush (pc := 176) C dX12_follows_176 (nI 10) (by decide) ?_
                        first | refine z_iremN (pc := 178) C dX12_follows_178 (by omega) (by omega) (by omega) ?_ | refine z_irem (pc := 178) C dX12_follows_178 (by decide) ?_
                        refine z_top (show nI (i / 10 ^ r0 % 10) = nI (sdg i r0) from rfl) ?_
                        first | refine z_ifneB (pc := 179) C 187 dX12_follows_179 (by decide) (fun hc179 => ?_) (fun hc179 => ?_) | refine z_ifneN (pc := 179) C 187 dX12_follows_179 (by decide) (by omega) (fun hc179 => ?_) (fun hc179 => ?_) | refine z_if_ne (pc := 179) C 187 dX12_follows_179 (by decide) (fun hc179 => ?_) (fun hc179 => ?_)
                        · skip
                          refine z_iload_n (pc := 187) C dX12_follows_187 4 rfl ?_
                          refine z_iload (pc := 188) C dX12_follows_188 1 rfl ?_
                          first | refine z_idivN (pc := 190) C dX12_follows_190 (by omega) (by omega) (by omega) ?_ | refine z_idiv (pc := 190) C dX12_follows_190 (by decide) ?_
                          refine z_bipush (pc := 191) C dX12_follows_191 (nI 10) (by decide) ?_
                          first | refine z_iremN (pc := 193) C dX12_follows_193 (by omega) (by omega) (by omega) ?_ | refine z_irem (pc := 193) C dX12_follows_193 (by decide) ?_
                          refine z_top (show nI (i / 10 ^ r0 % 10) = nI (sdg i r0) from rfl) ?_
                          refine z_iconst (pc := 194) C dX12_follows_194 (nI 1) (by decide) ?_
                          first | refine z_isubN (pc := 195) C dX12_follows_195 (by omega) ?_ | refine z_isub (pc := 195) C dX12_follows_195 ?_
                          refine z_top (show nI (sdg i r0 - 1) = nI (sgl T (S (32 + j)) (sdg i r0)) from by unfold sgl; rw [if_neg (by omega)]) ?_
                          refine z_istore (pc := 196) (lv' := [(10, _), (9, _), (4, _), (0, _), (1, _), (2, _), (3, _), (5, _), (6, _), (7, _), (8, _)]) C dX12_follows_196 (by decide) rfl ?_
                          refine z_iload (pc := 198) C dX12_follows_198 0 rfl ?_
                          refine z_iload (pc := 200) C dX12_follows_200 1 rfl ?_
                          first | refine z_icmpeqN (pc := 202) C 229 dX12_follows_202 (by decide) (by omega) (by omega) (fun hc202 => ?_) (fun hc202 => ?_) | refine z_icmp_eq (pc := 202) C 229 dX12_follows_202 (by decide) (fun hc202 => ?_) (fun hc202 => ?_)
                          · skip
                            have hmy : sMay R T (S (32 + j)) (sgl T (S (32 + j)) (sdg i r0)) = true := by unfold sMay; rw [decide_eq_true hc202]; rfl
                            refine z_aload_n (pc := 229) C dX12_follows_229 3 rfl ?_
                            refine z_getf (pc := 230) C dX12_follows_230 fX12_41 (by assumption) (by first | rfl | assumption) ?_
                            refine z_iload (pc := 233) C dX12_follows_233 9 rfl ?_
                            refine z_iload (pc := 235) C dX12_follows_235 0 rfl ?_
                            refine z_cS0 (pc := 237) mX12_stepOf C [_, _, _] dX12_follows_237 lX12_252 mtX12_stepOf (tX12_stepOf hT2 (by omega)) rfl rfl (by decide) (Nat.le_of_ble_eq_true rfl) (Nat.zero_le _) (Nat.zero_le _) ?_
                            have e9 := ih2 r0 (by omega) r0 (x + 1) _ _ ⟨rfl, by omega, wfS_go hR hS1 e1 b7, by rw [he2, swk, if_pos hmy], zup_same _ _ _, fun a q => (zup_ne q).trans (F2 a q)⟩
                            first | refine z_iincN (pc := 240) (lv' := [(8, _), (10, _), (9, _), (4, _), (0, _), (1, _), (2, _), (3, _), (5, _), (6, _), (7, _)]) C 1 dX12_follows_240 10 rfl (by decide) (by decide) rfl ?_ | refine z_iinc (pc := 240) (lv' := [(8, _), (10, _), (9, _), (4, _), (0, _), (1, _), (2, _), (3, _), (5, _), (6, _), (7, _)]) C dX12_follows_240 10 rfl _ rfl (by decide) rfl ?_
                            refine z_goto (pc := 243) C 147 dX12_follows_243 (by decide) ?_
                            refine z_sub (lv' := [(0, _), (1, _), (2, _), (3, _), (4, _), (5, _), (6, _), (7, _), (8, _)]) [4, 5, 6, 7, 3, 8, 9, 10, 0] rfl ?_
                            exact e9
                          · skip
                            refine z_aload_n (pc := 205) C dX12_follows_205 3 rfl ?_
                            refine z_getf (pc := 206) C dX12_follows_206 fX12_20 (by assumption) (by first | rfl | assumption) ?_
                            refine z_bipush (pc := 209) C dX12_follows_209 (nI 23) (by decide) ?_
                            refine z_iload (pc := 211) C dX12_follows_211 1 rfl ?_
                            first | refine z_iaddN (pc := 213) C dX12_follows_213 ?_ | refine z_iadd (pc := 213) C dX12_follows_213 ?_
                            first | refine z_ialdN (pc := 214) C dX12_follows_214 (by assumption) (by omega) (by decide) ?_ | refine z_ialdI (pc := 214) C dX12_follows_214 (by assumption) (by omega) (by decide) ?_
                            refine z_iload (pc := 215) C dX12_follows_215 0 rfl ?_
                            refine z_cS1 (pc := 217) mX12_hasBit C [_, _] dX12_follows_217 lX12_236 mtX12_hasBit (tX12_hasBit (by omega) (by omega)) rfl rfl (by decide) (Nat.le_of_ble_eq_true rfl) (Nat.zero_le _) (Nat.zero_le _) ?_
                            first | refine z_ifneB (pc := 220) C 229 dX12_follows_220 (by decide) (fun hc220 => ?_) (fun hc220 => ?_) | refine z_ifneN (pc := 220) C 229 dX12_follows_220 (by decide) (by omega) (fun hc220 => ?_) (fun hc220 => ?_) | refine z_if_ne (pc := 220) C 229 dX12_follows_220 (by decide) (fun hc220 => ?_) (fun hc220 => ?_)
                            · skip
                              have hmy : sMay R T (S (32 + j)) (sgl T (S (32 + j)) (sdg i r0)) = true := by unfold sMay; rw [hc220, Bool.or_true]
                              refine z_aload_n (pc := 229) C dX12_follows_229 3 rfl ?_
                              refine z_getf (pc := 230) C dX12_follows_230 fX12_41 (by assumption) (by first | rfl | assumption) ?_
                              refine z_iload (pc := 233) C dX12_follows_233 9 rfl ?_
                              refine z_iload (pc := 235) C dX12_follows_235 0 rfl ?_
                              refine z_cS0 (pc := 237) mX12_stepOf C [_, _, _] dX12_follows_237 lX12_252 mtX12_stepOf (tX12_stepOf hT2 (by omega)) rfl rfl (by decide) (Nat.le_of_ble_eq_true rfl) (Nat.zero_le _) (Nat.zero_le _) ?_
                              have e9 := ih2 r0 (by omega) r0 (x + 1) _ _ ⟨rfl, by omega, wfS_go hR hS1 e1 b7, by rw [he2, swk, if_pos hmy], zup_same _ _ _, fun a q => (zup_ne q).trans (F2 a q)⟩
                              first | refine z_iincN (pc := 240) (lv' := [(8, _), (10, _), (9, _), (4, _), (0, _), (1, _), (2, _), (3, _), (5, _), (6, _), (7, _)]) C 1 dX12_follows_240 10 rfl (by decide) (by decide) rfl ?_ | refine z_iinc (pc := 240) (lv' := [(8, _), (10, _), (9, _), (4, _), (0, _), (1, _), (2, _), (3, _), (5, _), (6, _), (7, _)]) C dX12_follows_240 10 rfl _ rfl (by decide) rfl ?_
                              refine z_goto (pc := 243) C 147 dX12_follows_243 (by decide) ?_
                              refine z_sub (lv' := [(0, _), (1, _), (2, _), (3, _), (4, _), (5, _), (6, _), (7, _), (8, _)]) [4, 5, 6, 7, 3, 8, 9, 10, 0] rfl ?_
                              exact e9
                            · skip
                              have Q2 : mQ h1 h2 (upd (upd v 0 0) 11 0) := ⟨⟨_, hM2, mV.rf _⟩, hJ1.fr hT2 (fun a _ q => F2 a q), fun a q1 q2 => F2 a (by omega)⟩
                              have hok : (swk R (S (32 + j)) i g S).1 = false := by rw [← (swk_congr (by omega) g S S1 hS1e).1, he2, swk, if_neg (by unfold sMay; rw [hc220, decide_eq_false hc202]; decide)]
                              refine z_aload_n (pc := 223) C dX12_follows_223 3 rfl ?_
                              refine z_iconst (pc := 224) C dX12_follows_224 (nI 5) (by decide) ?_
                              refine z_cV1 (pc := 225) mX12_no C [_] dX12_follows_225 lX12_170 mtX12_no (tX12_no hM2) (by assumption) rfl rfl (by decide) (Nat.le_of_ble_eq_true rfl) (Nat.zero_le _) (Nat.zero_le _) ?_
                              refine z_iret (pc := 228) C dX12_follows_228 rfl (Nat.zero_le _) (Nat.zero_le _) ⟨_, rfl, ?_, rfl⟩
                              refine ⟨by simp [aFol, *], ?_⟩
                              first | exact mQ.eq (t := 1) (by simp [aFol, *] <;> rfl) (mQ.no0 hg hJ) | exact mQ.eq (t := 2) (by simp [aFol, *] <;> rfl) (mQ.no0 hg hJ) | exact mQ.eq (t := 1) (by simp [aFol, *] <;> rfl) (mQ.no hg hM2 Q2) | exact mQ.eq (t := 2) (by simp [aFol, *] <;> rfl) (mQ.no hg hM2 Q2) | exact mQ.eq (t := 5) (by simp [aFol, *] <;> rfl) (mQ.no hg hM2 Q2) | exact mQ.eq (t := 0) (by simp [aFol, *] <;> rfl) (mQ.ok hg Q2)
                        · skip
                          refine z_iload (pc := 182) C dX12_follows_182 0 rfl ?_
                          refine z_top (show nI (T (8 * S (32 + j))) = nI (sgl T (S (32 + j)) (sdg i r0)) from by unfold sgl; rw [if_pos hc179]) ?_
                          refine z_goto (pc := 184) C 196 dX12_follows_184 (by decide) ?_
                          refine z_istore (pc := 196) (lv' := [(10, _), (9, _), (4, _), (0, _), (1, _), (2, _), (3, _), (5, _), (6, _), (7, _), (8, _)]) C dX12_follows_196 (by decide) rfl ?_
                          refine z_iload (pc := 198) C dX12_follows_198 0 rfl ?_
                          refine z_iload (pc := 200) C dX12_follows_200 1 rfl ?_
                          first | refine z_icmpeqN (pc := 202) C 229 dX12_follows_202 (by decide) (by omega) (by omega) (fun hc202 => ?_) (fun hc202 => ?_) | refine z_icmp_eq (pc := 202) C 229 dX12_follows_202 (by decide) (fun hc202 => ?_) (fun hc202 => ?_)
                          · skip
                            have hmy : sMay R T (S (32 + j)) (sgl T (S (32 + j)) (sdg i r0)) = true := by unfold sMay; rw [decide_eq_true hc202]; rfl
                            refine z_aload_n (pc := 229) C dX12_follows_229 3 rfl ?_
                            refine z_getf (pc := 230) C dX12_follows_230 fX12_41 (by assumption) (by first | rfl | assumption) ?_
                            refine z_iload (pc := 233) C dX12_follows_233 9 rfl ?_
                            refine z_iload (pc := 235) C dX12_follows_235 0 rfl ?_
                            refine z_cS0 (pc := 237) mX12_stepOf C [_, _, _] dX12_follows_237 lX12_252 mtX12_stepOf (tX12_stepOf hT2 (by omega)) rfl rfl (by decide) (Nat.le_of_ble_eq_true rfl) (Nat.zero_le _) (Nat.zero_le _) ?_
                            have e9 := ih2 r0 (by omega) r0 (x + 1) _ _ ⟨rfl, by omega, wfS_go hR hS1 e1 b7, by rw [he2, swk, if_pos hmy], zup_same _ _ _, fun a q => (zup_ne q).trans (F2 a q)⟩
                            first | refine z_iincN (pc := 240) (lv' := [(8, _), (10, _), (9, _), (4, _), (0, _), (1, _), (2, _), (3, _), (5, _), (6, _), (7, _)]) C 1 dX12_follows_240 10 rfl (by decide) (by decide) rfl ?_ | refine z_iinc (pc := 240) (lv' := [(8, _), (10, _), (9, _), (4, _), (0, _), (1, _), (2, _), (3, _), (5, _), (6, _), (7, _)]) C dX12_follows_240 10 rfl _ rfl (by decide) rfl ?_
                            refine z_goto (pc := 243) C 147 dX12_follows_243 (by decide) ?_
                            refine z_sub (lv' := [(0, _), (1, _), (2, _), (3, _), (4, _), (5, _), (6, _), (7, _), (8, _)]) [4, 5, 6, 7, 3, 8, 9, 10, 0] rfl ?_
                            exact e9
                          · skip
                            refine z_aload_n (pc := 205) C dX12_follows_205 3 rfl ?_
                            refine z_getf (pc := 206) C dX12_follows_206 fX12_20 (by assumption) (by first | rfl | assumption) ?_
                            refine z_bipush (pc := 209) C dX12_follows_209 (nI 23) (by decide) ?_
                            refine z_iload (pc := 211) C dX12_follows_211 1 rfl ?_
                            first | refine z_iaddN (pc := 213) C dX12_follows_213 ?_ | refine z_iadd (pc := 213) C dX12_follows_213 ?_
                            first | refine z_ialdN (pc := 214) C dX12_follows_214 (by assumption) (by omega) (by decide) ?_ | refine z_ialdI (pc := 214) C dX12_follows_214 (by assumption) (by omega) (by decide) ?_
                            refine z_iload (pc := 215) C dX12_follows_215 0 rfl ?_
                            refine z_cS1 (pc := 217) mX12_hasBit C [_, _] dX12_follows_217 lX12_236 mtX12_hasBit (tX12_hasBit (by omega) (by omega)) rfl rfl (by decide) (Nat.le_of_ble_eq_true rfl) (Nat.zero_le _) (Nat.zero_le _) ?_
                            first | refine z_ifneB (pc := 220) C 229 dX12_follows_220 (by decide) (fun hc220 => ?_) (fun hc220 => ?_) | refine z_ifneN (pc := 220) C 229 dX12_follows_220 (by decide) (by omega) (fun hc220 => ?_) (fun hc220 => ?_) | refine z_if_ne (pc := 220) C 229 dX12_follows_220 (by decide) (fun hc220 => ?_) (fun hc220 => ?_)
                            · skip
                              have hmy : sMay R T (S (32 + j)) (sgl T (S (32 + j)) (sdg i r0)) = true := by unfold sMay; rw [hc220, Bool.or_true]
                              refine z_aload_n (pc := 229) C dX12_follows_229 3 rfl ?_
                              refine z_getf (pc := 230) C dX12_follows_230 fX12_41 (by assumption) (by first | rfl | assumption) ?_
                              refine z_iload (pc := 233) C dX12_follows_233 9 rfl ?_
                              refine z_iload (pc := 235) C dX12_follows_235 0 rfl ?_
                              refine z_cS0 (pc := 237) mX12_stepOf C [_, _, _] dX12_follows_237 lX12_252 mtX12_stepOf (tX12_stepOf hT2 (by omega)) rfl rfl (by decide) (Nat.le_of_ble_eq_true rfl) (Nat.zero_le _) (Nat.zero_le _) ?_
                              have e9 := ih2 r0 (by omega) r0 (x + 1) _ _ ⟨rfl, by omega, wfS_go hR hS1 e1 b7, by rw [he2, swk, if_pos hmy], zup_same _ _ _, fun a q => (zup_ne q).trans (F2 a q)⟩
                              first | refine z_iincN (pc := 240) (lv' := [(8, _), (10, _), (9, _), (4, _), (0, _), (1, _), (2, _), (3, _), (5, _), (6, _), (7, _)]) C 1 dX12_follows_240 10 rfl (by decide) (by decide) rfl ?_ | refine z_iinc (pc := 240) (lv' := [(8, _), (10, _), (9, _), (4, _), (0, _), (1, _), (2, _), (3, _), (5, _), (6, _), (7, _)]) C dX12_follows_240 10 rfl _ rfl (by decide) rfl ?_
                              refine z_goto (pc := 243) C 147 dX12_follows_243 (by decide) ?_
                              refine z_sub (lv' := [(0, _), (1, _), (2, _), (3, _), (4, _), (5, _), (6, _), (7, _), (8, _)]) [4, 5, 6, 7, 3, 8, 9, 10, 0] rfl ?_
                              exact e9
                            · skip
                              have Q2 : mQ h1 h2 (upd (upd v 0 0) 11 0) := ⟨⟨_, hM2, mV.rf _⟩, hJ1.fr hT2 (fun a _ q => F2 a q), fun a q1 q2 => F2 a (by omega)⟩
                              have hok : (swk R (S (32 + j)) i g S).1 = false := by rw [← (swk_congr (by omega) g S S1 hS1e).1, he2, swk, if_neg (by unfold sMay; rw [hc220, decide_eq_false hc202]; decide)]
                              refine z_aload_n (pc := 223) C dX12_follows_223 3 rfl ?_
                              refine z_iconst (pc := 224) C dX12_follows_224 (nI 5) (by decide) ?_
                              refine z_cV1 (pc := 225) mX12_no C [_] dX12_follows_225 lX12_170 mtX12_no (tX12_no hM2) (by assumption) rfl rfl (by decide) (Nat.le_of_ble_eq_true rfl) (Nat.zero_le _) (Nat.zero_le _) ?_
                              refine z_iret (pc := 228) C dX12_follows_228 rfl (Nat.zero_le _) (Nat.zero_le _) ⟨_, rfl, ?_, rfl⟩
                              refine ⟨by simp [aFol, *], ?_⟩
                              first | exact mQ.eq (t := 1) (by simp [aFol, *] <;> rfl) (mQ.no0 hg hJ) | exact mQ.eq (t := 2) (by simp [aFol, *] <;> rfl) (mQ.no0 hg hJ) | exact mQ.eq (t := 1) (by simp [aFol, *] <;> rfl) (mQ.no hg hM2 Q2) | exact mQ.eq (t := 2) (by simp [aFol, *] <;> rfl) (mQ.no hg hM2 Q2) | exact mQ.eq (t := 5) (by simp [aFol, *] <;> rfl) (mQ.no hg hM2 Q2) | exact mQ.eq (t := 0) (by simp [aFol, *] <;> rfl) (mQ.ok hg Q2)
                  exact lp147 g g 0 S1 h0 ⟨rfl, by omega, wfS_congr hR hS (fun x hx => hS1e x (by omega)), rfl, hT1, F1⟩
                · skip
                  obtain rfl : g = c := (by omega)
                  have e6 : sRow R i g = false := by unfold sRow; rw [decide_eq_false (fun z => by rw [Nat.div_eq_of_lt z] at hc109; omega), Bool.and_false]
                  refine z_aload_n (pc := 112) C dX12_follows_112 0 rfl ?_
                  refine z_iconst (pc := 113) C dX12_follows_113 (nI 2) (by decide) ?_
                  refine z_cV1 (pc := 114) mX12_no C [_] dX12_follows_114 lX12_170 mtX12_no (tX12_no (by first | assumption | omega)) (by assumption) rfl rfl (by decide) (Nat.le_of_ble_eq_true rfl) (Nat.zero_le _) (Nat.zero_le _) ?_
                  refine z_iret (pc := 117) C dX12_follows_117 rfl (Nat.zero_le _) (Nat.zero_le _) ⟨_, rfl, ?_, rfl⟩
                  refine ⟨by simp [aFol, *], ?_⟩
                  first | exact mQ.eq (t := 1) (by simp [aFol, *] <;> rfl) (mQ.no0 hg hJ) | exact mQ.eq (t := 2) (by simp [aFol, *] <;> rfl) (mQ.no0 hg hJ) | exact mQ.eq (t := 1) (by simp [aFol, *] <;> rfl) (mQ.no hg hM2 Q2) | exact mQ.eq (t := 2) (by simp [aFol, *] <;> rfl) (mQ.no hg hM2 Q2) | exact mQ.eq (t := 5) (by simp [aFol, *] <;> rfl) (mQ.no hg hM2 Q2) | exact mQ.eq (t := 0) (by simp [aFol, *] <;> rfl) (mQ.ok hg Q2)
            · skip
              refine z_iload (pc := 56) C dX12_follows_56 6 rfl ?_
              first | refine z_ifeqB (pc := 58) C 79 dX12_follows_58 (by decide) (fun hc58 => ?_) (fun hc58 => ?_) | refine z_ifeqN (pc := 58) C 79 dX12_follows_58 (by decide) (by omega) (fun hc58 => ?_) (fun hc58 => ?_) | refine z_if_eq (pc := 58) C 79 dX12_follows_58 (by decide) (fun hc58 => ?_) (fun hc58 => ?_)
              · skip
                have e7 : false = sdgs R i (g + 1) := by rw [sdgs, ← he, hc58]; rfl
                refine z_iconst (pc := 79) C dX12_follows_79 (zb false) (by decide) ?_
                refine z_istore (pc := 80) (lv' := [(6, _), (0, _), (1, _), (2, _), (3, _), (4, _), (5, _), (7, _)]) C dX12_follows_80 (by decide) rfl ?_
                refine z_iload (pc := 82) C dX12_follows_82 6 rfl ?_
                refine z_bipush (pc := 84) C dX12_follows_84 (nI 10) (by decide) ?_
                first | refine z_idivN (pc := 86) C dX12_follows_86 (by omega) (by omega) (by omega) ?_ | refine z_idiv (pc := 86) C dX12_follows_86 (by decide) ?_
                rw [div10]
                refine z_istore (pc := 87) (lv' := [(5, _), (6, _), (0, _), (1, _), (2, _), (3, _), (4, _), (7, _)]) C dX12_follows_87 (by decide) rfl ?_
                refine z_iload (pc := 89) C dX12_follows_89 6 rfl ?_
                refine z_bipush (pc := 91) C dX12_follows_91 (nI 10) (by decide) ?_
                first | refine z_imulN (pc := 93) C dX12_follows_93 ?_ | refine z_imul (pc := 93) C dX12_follows_93 ?_
                refine z_istore (pc := 94) (lv' := [(4, _), (5, _), (6, _), (0, _), (1, _), (2, _), (3, _), (7, _)]) C dX12_follows_94 (by decide) rfl ?_
                first | refine z_iincN (pc := 96) (lv' := [(7, _), (4, _), (5, _), (6, _), (0, _), (1, _), (2, _), (3, _)]) C 1 dX12_follows_96 7 rfl (by decide) (by decide) rfl ?_ | refine z_iinc (pc := 96) (lv' := [(7, _), (4, _), (5, _), (6, _), (0, _), (1, _), (2, _), (3, _)]) C dX12_follows_96 7 rfl _ rfl (by decide) rfl ?_
                refine z_goto (pc := 99) C 50 dX12_follows_99 (by decide) ?_
                refine z_sub (lv' := [(0, _), (1, _), (2, _), (3, _), (4, _), (5, _), (6, _), (7, _)]) [4, 5, 6, 7, 1, 2, 3, 0] rfl ?_
                exact ih (f - 1) (by omega) (g + 1) _ ⟨by omega, e7⟩
              · skip
                refine z_iload (pc := 61) C dX12_follows_61 5 rfl ?_
                refine z_bipush (pc := 63) C dX12_follows_63 (nI 10) (by decide) ?_
                first | refine z_iremN (pc := 65) C dX12_follows_65 (by omega) (by omega) (by omega) ?_ | refine z_irem (pc := 65) C dX12_follows_65 (by decide) ?_
                refine z_top (show nI (i / 10 ^ g % 10) = nI (sdg i g) from rfl) ?_
                have e8 := sdg_lt i g
                refine z_aload_n (pc := 66) C dX12_follows_66 0 rfl ?_
                refine z_getf (pc := 67) C dX12_follows_67 fX12_20 (by assumption) (by first | rfl | assumption) ?_
                refine z_iconst (pc := 70) C dX12_follows_70 (nI 1) (by decide) ?_
                first | refine z_ialdN (pc := 71) C dX12_follows_71 (by assumption) (by omega) (by decide) ?_ | refine z_ialdI (pc := 71) C dX12_follows_71 (by assumption) (by omega) (by decide) ?_
                first | refine z_icmpgtN (pc := 72) C 79 dX12_follows_72 (by decide) (by omega) (by omega) (fun hc72 => ?_) (fun hc72 => ?_) | refine z_icmp_gt (pc := 72) C 79 dX12_follows_72 (by decide) (fun hc72 => ?_) (fun hc72 => ?_)
                · skip
                  have e7 : false = sdgs R i (g + 1) := by rw [sdgs, ← he, hc58, decide_eq_false (by omega)]; rfl
                  refine z_iconst (pc := 79) C dX12_follows_79 (zb false) (by decide) ?_
                  refine z_istore (pc := 80) (lv' := [(6, _), (0, _), (1, _), (2, _), (3, _), (4, _), (5, _), (7, _)]) C dX12_follows_80 (by decide) rfl ?_
                  refine z_iload (pc := 82) C dX12_follows_82 6 rfl ?_
                  refine z_bipush (pc := 84) C dX12_follows_84 (nI 10) (by decide) ?_
                  first | refine z_idivN (pc := 86) C dX12_follows_86 (by omega) (by omega) (by omega) ?_ | refine z_idiv (pc := 86) C dX12_follows_86 (by decide) ?_
                  rw [div10]
                  refine z_istore (pc := 87) (lv' := [(5, _), (6, _), (0, _), (1, _), (2, _), (3, _), (4, _), (7, _)]) C dX12_follows_87 (by decide) rfl ?_
                  refine z_iload (pc := 89) C dX12_follows_89 6 rfl ?_
                  refine z_bipush (pc := 91) C dX12_follows_91 (nI 10) (by decide) ?_
                  first | refine z_imulN (pc := 93) C dX12_follows_93 ?_ | refine z_imul (pc := 93) C dX12_follows_93 ?_
                  refine z_istore (pc := 94) (lv' := [(4, _), (5, _), (6, _), (0, _), (1, _), (2, _), (3, _), (7, _)]) C dX12_follows_94 (by decide) rfl ?_
                  first | refine z_iincN (pc := 96) (lv' := [(7, _), (4, _), (5, _), (6, _), (0, _), (1, _), (2, _), (3, _)]) C 1 dX12_follows_96 7 rfl (by decide) (by decide) rfl ?_ | refine z_iinc (pc := 96) (lv' := [(7, _), (4, _), (5, _), (6, _), (0, _), (1, _), (2, _), (3, _)]) C dX12_follows_96 7 rfl _ rfl (by decide) rfl ?_
                  refine z_goto (pc := 99) C 50 dX12_follows_99 (by decide) ?_
                  refine z_sub (lv' := [(0, _), (1, _), (2, _), (3, _), (4, _), (5, _), (6, _), (7, _)]) [4, 5, 6, 7, 1, 2, 3, 0] rfl ?_
                  exact ih (f - 1) (by omega) (g + 1) _ ⟨by omega, e7⟩
                · skip
                  have e7 : true = sdgs R i (g + 1) := by rw [sdgs, ← he, hc58, decide_eq_true hc72]; rfl
                  refine z_iconst (pc := 75) C dX12_follows_75 (zb true) (by decide) ?_
                  refine z_goto (pc := 76) C 80 dX12_follows_76 (by decide) ?_
                  refine z_istore (pc := 80) (lv' := [(6, _), (0, _), (1, _), (2, _), (3, _), (4, _), (5, _), (7, _)]) C dX12_follows_80 (by decide) rfl ?_
                  refine z_iload (pc := 82) C dX12_follows_82 6 rfl ?_
                  refine z_bipush (pc := 84) C dX12_follows_84 (nI 10) (by decide) ?_
                  first | refine z_idivN (pc := 86) C dX12_follows_86 (by omega) (by omega) (by omega) ?_ | refine z_idiv (pc := 86) C dX12_follows_86 (by decide) ?_
                  rw [div10]
                  refine z_istore (pc := 87) (lv' := [(5, _), (6, _), (0, _), (1, _), (2, _), (3, _), (4, _), (7, _)]) C dX12_follows_87 (by decide) rfl ?_
                  refine z_iload (pc := 89) C dX12_follows_89 6 rfl ?_
                  refine z_bipush (pc := 91) C dX12_follows_91 (nI 10) (by decide) ?_
                  first | refine z_imulN (pc := 93) C dX12_follows_93 ?_ | refine z_imul (pc := 93) C dX12_follows_93 ?_
                  refine z_istore (pc := 94) (lv' := [(4, _), (5, _), (6, _), (0, _), (1, _), (2, _), (3, _), (7, _)]) C dX12_follows_94 (by decide) rfl ?_
                  first | refine z_iincN (pc := 96) (lv' := [(7, _), (4, _), (5, _), (6, _), (0, _), (1, _), (2, _), (3, _)]) C 1 dX12_follows_96 7 rfl (by decide) (by decide) rfl ?_ | refine z_iinc (pc := 96) (lv' := [(7, _), (4, _), (5, _), (6, _), (0, _), (1, _), (2, _), (3, _)]) C dX12_follows_96 7 rfl _ rfl (by decide) rfl ?_
                  refine z_goto (pc := 99) C 50 dX12_follows_99 (by decide) ?_
                  refine z_sub (lv' := [(0, _), (1, _), (2, _), (3, _), (4, _), (5, _), (6, _), (7, _)]) [4, 5, 6, 7, 1, 2, 3, 0] rfl ?_
                  exact ih (f - 1) (by omega) (g + 1) _ ⟨by omega, e7⟩
        (refine z_sub (lv' := [(0, _), (1, _), (2, _), (3, _), (4, _), (5, .int (nI (i / 10 ^ 0))), (6, _), (7, _)]) [0, 1, 2, 3, 4, 5, 6, 7] (by rw [Nat.pow_zero, Nat.div_one]; rfl) ?_; exact lp50 c 0 true ⟨by omega, rfl⟩)
      · skip
        have e5 := snn_f hc29
        refine z_aload_n (pc := 32) C dX12_follows_32 0 rfl ?_
        refine z_iconst (pc := 33) C dX12_follows_33 (nI 2) (by decide) ?_
        refine z_cV1 (pc := 34) mX12_no C [_] dX12_follows_34 lX12_170 mtX12_no (tX12_no (by first | assumption | omega)) (by assumption) rfl rfl (by decide) (Nat.le_of_ble_eq_true rfl) (Nat.zero_le _) (Nat.zero_le _) ?_
        refine z_iret (pc := 37) C dX12_follows_37 rfl (Nat.zero_le _) (Nat.zero_le _) ⟨_, rfl, ?_, rfl⟩
        refine ⟨by simp [aFol, *], ?_⟩
        first | exact mQ.eq (t := 1) (by simp [aFol, *] <;> rfl) (mQ.no0 hg hJ) | exact mQ.eq (t := 2) (by simp [aFol, *] <;> rfl) (mQ.no0 hg hJ) | exact mQ.eq (t := 1) (by simp [aFol, *] <;> rfl) (mQ.no hg hM2 Q2) | exact mQ.eq (t := 2) (by simp [aFol, *] <;> rfl) (mQ.no hg hM2 Q2) | exact mQ.eq (t := 5) (by simp [aFol, *] <;> rfl) (mQ.no hg hM2 Q2) | exact mQ.eq (t := 0) (by simp [aFol, *] <;> rfl) (mQ.ok hg Q2)
  · skip
    refine z_aload_n (pc := 12) C dX12_follows_12 0 rfl ?_
    refine z_iconst (pc := 13) C dX12_follows_13 (nI 1) (by decide) ?_
    refine z_cV1 (pc := 14) mX12_no C [_] dX12_follows_14 lX12_170 mtX12_no (tX12_no (by first | assumption | omega)) (by assumption) rfl rfl (by decide) (Nat.le_of_ble_eq_true rfl) (Nat.zero_le _) (Nat.zero_le _) ?_
    refine z_iret (pc := 17) C dX12_follows_17 rfl (Nat.zero_le _) (Nat.zero_le _) ⟨_, rfl, ?_, rfl⟩
    refine ⟨by simp [aFol, *], ?_⟩
    first | exact mQ.eq (t := 1) (by simp [aFol, *] <;> rfl) (mQ.no0 hg hJ) | exact mQ.eq (t := 2) (by simp [aFol, *] <;> rfl) (mQ.no0 hg hJ) | exact mQ.eq (t := 1) (by simp [aFol, *] <;> rfl) (mQ.no hg hM2 Q2) | exact mQ.eq (t := 2) (by simp [aFol, *] <;> rfl) (mQ.no hg hM2 Q2) | exact mQ.eq (t := 5) (by simp [aFol, *] <;> rfl) (mQ.no hg hM2 Q2) | exact mQ.eq (t := 0) (by simp [aFol, *] <;> rfl) (mQ.ok hg Q2)
