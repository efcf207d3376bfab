abbrev TO : Type := (Nat × Nat × Nat) ⊕ (Nat × Nat)
def oB (o : TO) (f : Nat × Nat × Nat → TO) : TO := match o with
  | .inl t => f t
  | .inr e => .inr e
def oF (o : TO) : Bool := match o with
  | .inl _ => false
  | .inr _ => true
theorem oF_f {o : TO} (h : oF o = false) : ∃ t, o = .inl t := by
  cases o with
  | inl t => exact ⟨t, rfl⟩
  | inr e => cases h
theorem oF_t {o : TO} (h : oF o = true) : ∃ e, o = .inr e := by
  cases o with
  | inl t => cases h
  | inr e => exact ⟨e, rfl⟩
theorem MO.f {h : ZH} {v : Nat → Int32} {B : Nat → Nat} {n : Nat} {o : TO} (hO : MO h v B n o) : v 13 = zb (oF o) := by
  cases o with
  | inl t => exact hO.2
  | inr e => exact hO.2.1
theorem MO.m {h : ZH} {v : Nat → Int32} {B : Nat → Nat} {n : Nat} {o : TO} (hO : MO h v B n o) : h 1063 = some (zO 8 (mfs v)) := by
  cases o with
  | inl t => exact hO.1.1
  | inr e => exact hO.1
def oW (B : Nat → Nat) (o : TO) (i : Nat) : Bool := match o with
  | .inl t => sspl B t i
  | .inr _ => false
def oT (B : Nat → Nat) (n : Nat) (o : TO) (i : Nat) : TO := oB o (fun t => .inl (if sspl B t i then sNx B n t else t))
def oP (B : Nat → Nat) (n : Nat) (o : TO) : TO := oB o (fun t => .inl (sNx B n t))
def oX (o : TO) (f : Nat) : TO := oB o (fun t => .inr (f, t.2.1))
def oM (B : Nat → Nat) (n : Nat) (o : TO) (i : Nat) : TO := oB o (fun t => sMu B n t i)
/-- a name of the fresh ones that is the token's word -/
def sfnP (R B : Nat → Nat) (t : Nat × Nat × Nat) (x : Nat) : Bool := decide (0 < R (61 + x) ∧ R (61 + x) = t.2.2 - t.2.1 ∧ ∀ j, j < t.2.2 - t.2.1 → R (81 + 8 * x + j) = B (t.2.1 + j))
def sfnd (R B : Nat → Nat) (t : Nat × Nat × Nat) : Option Nat := sfst (sfnP R B t) 20 0
theorem sfnd_lt {R B : Nat → Nat} {t : Nat × Nat × Nat} {x : Nat} (h : sfnd R B t = some x) : x < 20 := by have := (sfst_some _ _ _ h).2.1; omega
def sKy (B : Nat → Nat) (t : Nat × Nat × Nat) : Bool := sspl B t 0 || sspl B t 1 || sspl B t 2 || sspl B t 3 || sspl B t 6 || sspl B t 4 || sspl B t 7 || sspl B t 5
def sIn (B : Nat → Nat) (t : Nat × Nat × Nat) : Bool := decide (t.1 = 1) && !sKy B t
def sMn0 (B : Nat → Nat) (t : Nat × Nat × Nat) : TO := if sIn B t then .inl t else .inr (1, t.2.1)
def snm (R B : Nat → Nat) (t : Nat × Nat × Nat) (x : Nat) : Nat → Nat := nup (ncpy B R t.2.1 (81 + 8 * x) (t.2.2 - t.2.1)) (61 + x) (t.2.2 - t.2.1)
def sNw (R B : Nat → Nat) (n : Nat) (t : Nat × Nat × Nat) : TO := if sIn B t then (if sfnd R B t = none then .inl (sNx B n t) else .inr (3, t.2.1)) else .inr (1, t.2.1)
def sNmd (R B : Nat → Nat) (lo hi : Nat) (t : Nat × Nat × Nat) : TO := if sIn B t then (match sfnd R B t with
  | some x => if lo ≤ x ∧ x ≤ hi then .inl t else .inr (2, t.2.1)
  | none => .inr (2, t.2.1)) else .inr (1, t.2.1)
def sNv (R B : Nat → Nat) (lo hi : Nat) (o : TO) : Nat := match oB o (sNmd R B lo hi) with
  | .inl t => (sfnd R B t).getD 0 - lo
  | .inr _ => 0
def sVal (B : Nat → Nat) (t : Nat × Nat × Nat) : Nat := svl (fun i => B (t.2.1 + i)) (t.2.2 - t.2.1)
def sWh (B : Nat → Nat) (n hi : Nat) (t : Nat × Nat × Nat) : TO := if t.1 = 2 then (if sVal B t ≤ hi then .inl (sNx B n t) else .inr (4, t.2.1)) else .inr (1, t.2.1)
def sAf (B : Nat → Nat) (n i hi : Nat) (o : TO) : TO := oB (oM B n o i) (sWh B n hi)
def sAv (B : Nat → Nat) (n i hi : Nat) (o : TO) : Nat := match sAf B n i hi o with
  | .inl _ => (match oM B n o i with
    | .inl t => sVal B t
    | .inr _ => 0)
  | .inr _ => 0
theorem svl_le {g : Nat → Nat} : ∀ k, (∀ j, j < k → g j ≤ 57) → svl g k + 1 ≤ 10 ^ k := by
  intro k
  induction k with
  | zero => intro _; exact Nat.le_refl _
  | succ k ih =>
    intro h
    have h1 := ih (fun j hj => h j (by omega))
    have h2 := h k (by omega)
    rw [svl, Nat.pow_succ]
    omega
theorem sVal_lt {B : Nat → Nat} {n : Nat} {t : Nat × Nat × Nat} (h : sTk B n t) (h2 : t.1 = 2) : sVal B t < 1000 := by
  obtain ⟨-, -, -, -, -, -, -, h8, -⟩ := h
  obtain ⟨a, b, c⟩ := h8 h2
  have := svl_le (g := fun i => B (t.2.1 + i)) (t.2.2 - t.2.1) (fun j hj => (c j hj).2)
  have h3 : 10 ^ (t.2.2 - t.2.1) ≤ 10 ^ 3 := Nat.pow_le_pow_right (by decide) b
  show svl _ _ < 1000
  have h4 : (10 : Nat) ^ 3 = 1000 := rfl
  omega

set_option maxRecDepth 20000 in
set_option maxHeartbeats 1000000 in
theorem tX12_isWordN {h : ZH} {v : Nat → Int32} {i : Nat} (hM : h 1063 = some (zO 8 (mfs v))) (hf : v 13 = zb true) : ZD mX12_isWord 4 [.ref 1063, .ref i] h (some (.int (zb false))) h := by
  intro n
  refine z_enter (lv := [(0, _), (1, _)]) (by decide) (Nat.le_of_ble_eq_true rfl) rfl (fun X C => ?_)
  refine z_aload_n (pc := 0) C dX12_isWord_0 0 rfl ?_
  refine z_getf (pc := 1) C dX12_isWord_1 fX12_94 (by assumption) (by first | rfl | assumption) ?_
  rw [hf]
  first | refine z_ifneB (pc := 4) C 26 dX12_isWord_4 (by decide) (fun hc4 => ?_) (fun hc4 => ?_) | refine z_ifneN (pc := 4) C 26 dX12_isWord_4 (by decide) (by omega) (fun hc4 => ?_) (fun hc4 => ?_) | refine z_if_ne (pc := 4) C 26 dX12_isWord_4 (by decide) (fun hc4 => ?_) (fun hc4 => ?_)
  · skip
    refine z_iconst (pc := 26) C dX12_isWord_26 (zb false) (by decide) ?_
    refine z_zret (pc := 27) C dX12_isWord_27 rfl (by first | exact zb_nar _ | rfl) (Nat.zero_le _) (Nat.zero_le _) ⟨?_, ?_, rfl⟩
    · first | rfl | simp_all
    · rfl
  · cases hc4

set_option maxRecDepth 20000 in
set_option maxHeartbeats 1000000 in
theorem tX12_takesWordN {h : ZH} {v : Nat → Int32} {i : Nat} (hM : h 1063 = some (zO 8 (mfs v))) (hf : v 13 = zb true) : ZD mX12_takesWord 5 [.ref 1063, .ref i] h (some (.int (zb false))) h := by
  intro n
  refine z_enter (lv := [(0, _), (1, _)]) (by decide) (Nat.le_of_ble_eq_true rfl) rfl (fun X C => ?_)
  refine z_aload_n (pc := 0) C dX12_takesWord_0 0 rfl ?_
  refine z_aload_n (pc := 1) C dX12_takesWord_1 1 rfl ?_
  refine z_cV1 (pc := 2) mX12_isWord C [_] dX12_takesWord_2 lX12_111 mtX12_isWord (tX12_isWordN hM hf) (by assumption) rfl rfl (by decide) (Nat.le_of_ble_eq_true rfl) (Nat.zero_le _) (Nat.zero_le _) ?_
  first | refine z_ifneB (pc := 5) C 10 dX12_takesWord_5 (by decide) (fun hc5 => ?_) (fun hc5 => ?_) | refine z_ifneN (pc := 5) C 10 dX12_takesWord_5 (by decide) (by omega) (fun hc5 => ?_) (fun hc5 => ?_) | refine z_if_ne (pc := 5) C 10 dX12_takesWord_5 (by decide) (fun hc5 => ?_) (fun hc5 => ?_)
  · cases hc5
  · skip
    refine z_iconst (pc := 8) C dX12_takesWord_8 (zb false) (by decide) ?_
    refine z_zret (pc := 9) C dX12_takesWord_9 rfl (by first | exact zb_nar _ | rfl) (Nat.zero_le _) (Nat.zero_le _) ⟨?_, ?_, rfl⟩
    · first | rfl | simp_all
    · rfl

set_option maxRecDepth 20000 in
set_option maxHeartbeats 1000000 in
theorem tX12_passN {h : ZH} {v : Nat → Int32} (hM : h 1063 = some (zO 8 (mfs v))) (hf : v 13 = zb true) : ZD mX12_pass 2 [.ref 1063] h none h := by
  intro n
  refine z_enter (lv := [(0, _)]) (by decide) (Nat.le_of_ble_eq_true rfl) rfl (fun X C => ?_)
  refine z_aload_n (pc := 0) C dX12_pass_0 0 rfl ?_
  refine z_getf (pc := 1) C dX12_pass_1 fX12_94 (by assumption) (by first | rfl | assumption) ?_
  rw [hf]
  first | refine z_ifneB (pc := 4) C 11 dX12_pass_4 (by decide) (fun hc4 => ?_) (fun hc4 => ?_) | refine z_ifneN (pc := 4) C 11 dX12_pass_4 (by decide) (by omega) (fun hc4 => ?_) (fun hc4 => ?_) | refine z_if_ne (pc := 4) C 11 dX12_pass_4 (by decide) (fun hc4 => ?_) (fun hc4 => ?_)
  · skip
    refine z_vret (pc := 11) C dX12_pass_11 rfl (Nat.zero_le _) (Nat.zero_le _) ⟨?_, ?_, rfl⟩
    · rfl
    · rfl
  · cases hc4

set_option maxRecDepth 20000 in
set_option maxHeartbeats 1000000 in
theorem tX12_passY {h : ZH} {v : Nat → Int32} {B : Nat → Nat} {n0 : Nat} {t : Nat × Nat × Nat} (hS : MS h v B n0 t) (hf : v 13 = zb false) (ht : t.1 ≠ 4) : ZQ0 mX12_pass 2 [.ref 1063] h (fun hh => (∃ v', MS hh v' B n0 (sNx B n0 t) ∧ rV v v') ∧ rF h hh) := by
  intro n
  have hM := hS.1
  refine z_enter (lv := [(0, _)]) (by decide) (Nat.le_of_ble_eq_true rfl) rfl (fun X C => ?_)
  refine z_aload_n (pc := 0) C dX12_pass_0 0 rfl ?_
  refine z_getf (pc := 1) C dX12_pass_1 fX12_94 (by assumption) (by first | rfl | assumption) ?_
  rw [hf]
  first | refine z_ifneB (pc := 4) C 11 dX12_pass_4 (by decide) (fun hc4 => ?_) (fun hc4 => ?_) | refine z_ifneN (pc := 4) C 11 dX12_pass_4 (by decide) (by omega) (fun hc4 => ?_) (fun hc4 => ?_) | refine z_if_ne (pc := 4) C 11 dX12_pass_4 (by decide) (fun hc4 => ?_) (fun hc4 => ?_)
  · cases hc4
  · skip
    refine z_aload_n (pc := 7) C dX12_pass_7 0 rfl ?_
    refine z_cV0Q (pc := 8) mX12_goOn C [] dX12_pass_8 lX12_115 mtX12_goOn (tX12_goOnQ hS ht) (by assumption) rfl rfl (by decide) (Nat.le_of_ble_eq_true rfl) (Nat.zero_le _) (Nat.zero_le _) ?_
    rintro h1 hQ
    refine z_vret (pc := 11) C dX12_pass_11 rfl (Nat.zero_le _) (Nat.zero_le _) ⟨rfl, ?_, rfl⟩
    exact hQ

section ZMO
variable {h : ZH} {v : Nat → Int32} {B : Nat → Nat} {n0 : Nat} {o : TO}
theorem tX12_isWordO {i : Nat} (hO : MO h v B n0 o) (hi : i < 20) : ZD mX12_isWord 4 [.ref 1063, .ref i] h (some (.int (zb (oW B o i)))) h := by
  cases o with
  | inl t => have := tX12_isWord (b0 := false) hO.1 hO.2 hi; exact this
  | inr e => exact tX12_isWordN hO.m hO.2.1
theorem tX12_takesWordO {i : Nat} (hO : MO h v B n0 o) (hi : i < 20) : ZQ1 mX12_takesWord 5 [.ref 1063, .ref i] h (fun w hh => w = .int (zb (oW B o i)) ∧ (∃ v', MO hh v' B n0 (oT B n0 o i) ∧ rW v v') ∧ rF h hh) := by
  cases o with
  | inl t =>
    refine (tX12_takesWord hO.1 hO.2 hi).mono ?_
    rintro w hh ⟨h1, ⟨v', h2, h3⟩, h4⟩
    exact ⟨h1, ⟨v', ⟨h2, (h3 13 (by decide)).trans hO.2⟩, h3.w⟩, h4⟩
  | inr e => exact (tX12_takesWordN hO.m hO.2.1).q1 ⟨rfl, ⟨v, hO, rW.rf v⟩, rF.rf h⟩
theorem tX12_mustO {i : Nat} (hO : MO h v B n0 o) (hi : i < 20) : ZQ0 mX12_must 6 [.ref 1063, .ref i] h (fun hh => (∃ v', MO hh v' B n0 (oM B n0 o i) ∧ rW v v') ∧ rF h hh) := by
  cases o with
  | inl t => exact tX12_mustY hO.1 hO.2 hi
  | inr e => exact (tX12_mustN hO.m hO.2.1).q0 ⟨⟨v, hO, rW.rf v⟩, rF.rf h⟩
theorem tX12_passO (hO : MO h v B n0 o) (ht : ∀ t, o = .inl t → t.1 ≠ 4) : ZQ0 mX12_pass 2 [.ref 1063] h (fun hh => (∃ v', MO hh v' B n0 (oP B n0 o) ∧ rW v v') ∧ rF h hh) := by
  cases o with
  | inl t =>
    refine (tX12_passY hO.1 hO.2 (ht t rfl)).mono ?_
    rintro hh ⟨⟨v', h2, h3⟩, h4⟩
    exact ⟨⟨v', ⟨h2, (h3 13 (by decide)).trans hO.2⟩, h3.w⟩, h4⟩
  | inr e => exact (tX12_passN hO.m hO.2.1).q0 ⟨⟨v, hO, rW.rf v⟩, rF.rf h⟩
theorem tX12_wrongO {f : Nat} {y : Int32} (hO : MO h v B n0 o) (hy : ∀ t, o = .inl t → y = nI t.2.1) : ZQ0 mX12_wrong 0 [.ref 1063, .int (nI f), .int y] h (fun hh => (∃ v', MO hh v' B n0 (oX o f) ∧ rW v v') ∧ rF h hh) := by
  cases o with
  | inl t =>
    rw [hy t rfl]
    exact (tX12_wrongY hO.m hO.2).q0 ⟨⟨_, MF.of hO.1 _ _, MX.w _ _ _⟩, rF.up _ _⟩
  | inr e => exact (tX12_wrongN hO.m hO.2.1).q0 ⟨⟨v, hO, rW.rf v⟩, rF.rf h⟩
theorem MO.at {t : Nat × Nat × Nat} (hO : MO h v B n0 o) : ∀ t, o = .inl t → v 4 = nI t.2.1 := by
  rintro t rfl
  obtain ⟨⟨-, -, -, -, L, -, -, m2, -⟩, -⟩ := hO
  exact m2
end ZMO

set_option maxRecDepth 20000 in
set_option maxHeartbeats 1000000 in
theorem tX12_find {h : ZH} {v : Nat → Int32} {B R : Nat → Nat} {n0 : Nat} {t : Nat × Nat × Nat} (hS : MS h v B n0 t) (hR7 : h 1067 = some (zI 241 R)) (hw : t.1 = 1) (hRb : ∀ j, j < 241 → R j < 2147483648) : ZD mX12_find 0 [.ref 1063] h (some (.int (zm (sfnd R B t)))) h := by
  intro n
  obtain ⟨hM, h3, h4, hk, L, h5, m1, m2, m3, m4, m5⟩ := id hS
  obtain ⟨t1, t2, t3, t4, t5, t6, t7, t8, t9⟩ := id hk
  obtain ⟨n1, n2⟩ := m4 hw
  obtain ⟨w1, w2, w3⟩ := t7 hw
  refine z_enter (lv := [(0, _)]) (by decide) (Nat.le_of_ble_eq_true rfl) rfl (fun X C => ?_)
  refine z_iconst (pc := 0) C dX12_find_0 (nI 0) (by decide) ?_
  refine z_istore_n (pc := 1) (lv' := [(1, _), (0, _)]) C dX12_find_1 (by decide) rfl ?_
  refine z_sub (lv' := [(0, _), (1, _)]) [1, 0] rfl ?_
  have lp2 : ∀ (f : Nat) (x : Nat), (x + f = 20 ∧ sfnd R B t = sfst (sfnP R B t) f x) → Zc X mX12_find (zEnd X (fun r hh n' => r = (some (.int (zm (sfnd R B t)))) ∧ hh = h ∧ n' = n) 0 0) 2 [(0, .ref 1063), (1, .int (nI x))] [] h n 0 0 := by
    intro f
    induction f using Nat.strongRecOn with
    | _ f ih =>
      intro x hk1
      obtain ⟨hk1, he1⟩ := hk1
      refine z_iload_n (pc := 2) C dX12_find_2 1 rfl ?_
      refine z_bipush (pc := 3) C dX12_find_3 (nI 20) (by decide) ?_
      first | refine z_icmpgeN (pc := 5) C 103 dX12_find_5 (by decide) (by omega) (by omega) (fun hc5 => ?_) (fun hc5 => ?_) | refine z_icmp_ge (pc := 5) C 103 dX12_find_5 (by decide) (fun hc5 => ?_) (fun hc5 => ?_)
      · skip
        refine z_iconst (pc := 103) C dX12_find_103 (zm none) (by decide) ?_
        refine z_iret (pc := 104) C dX12_find_104 rfl (Nat.zero_le _) (Nat.zero_le _) ⟨?_, ?_, rfl⟩
        · rw [he1, show f = 0 by omega]; rfl
        · rfl
      · skip
        refine z_aload_n (pc := 8) C dX12_find_8 0 rfl ?_
        refine z_getf (pc := 9) C dX12_find_9 fX12_23 (by assumption) (by first | rfl | assumption) ?_
        refine z_bipush (pc := 12) C dX12_find_12 (nI 61) (by decide) ?_
        refine z_iload_n (pc := 14) C dX12_find_14 1 rfl ?_
        first | refine z_iaddN (pc := 15) C dX12_find_15 ?_ | refine z_iadd (pc := 15) C dX12_find_15 ?_
        first | refine z_ialdN (pc := 16) C dX12_find_16 (by assumption) (by omega) (by decide) ?_ | refine z_ialdI (pc := 16) C dX12_find_16 (by assumption) (by omega) (by decide) ?_
        have b1 := hRb (61 + x) (by omega)
        first | refine z_ifleN (pc := 17) C 40 dX12_find_17 (by decide) (by omega) (fun hc17 => ?_) (fun hc17 => ?_) | refine z_if_le (pc := 17) C 40 dX12_find_17 (by decide) (fun hc17 => ?_) (fun hc17 => ?_)
        · skip
          have e0 : ¬ (0 < R (61 + x) ∧ R (61 + x) = t.2.2 - t.2.1) := fun z => by omega
          refine z_iconst (pc := 40) C dX12_find_40 (zb false) (by decide) ?_
          refine z_istore_n (pc := 41) (lv' := [(2, _), (0, _), (1, _)]) C dX12_find_41 (by decide) rfl ?_
          refine z_iconst (pc := 42) C dX12_find_42 (nI 0) (by decide) ?_
          refine z_istore_n (pc := 43) (lv' := [(3, _), (2, _), (0, _), (1, _)]) C dX12_find_43 (by decide) rfl ?_
          refine z_sub (lv' := [(0, _), (1, _), (2, _), (3, _)]) [2, 3, 1, 0] rfl ?_
          have lp44 : ∀ (f2 : Nat) (j : Nat) (g : Bool), (j + f2 = (t.2.2 - t.2.1) ∧ g = (fun j => decide ((0 < R (61 + x) ∧ R (61 + x) = (t.2.2 - t.2.1)) ∧ ∀ q, q < j → R (81 + 8 * x + q) = B (t.2.1 + q))) j) → Zc X mX12_find (zEnd X (fun r hh n' => r = (some (.int (zm (sfnd R B t)))) ∧ hh = h ∧ n' = n) 0 0) 44 [(0, .ref 1063), (1, .int (nI x)), (2, .int (zb g)), (3, .int (nI j))] [] h n 0 0 := by
            intro f2
            induction f2 using Nat.strongRecOn with
            | _ f2 ih2 =>
              intro j g hk2
              obtain ⟨hk2, he2⟩ := hk2
              refine z_iload_n (pc := 44) C dX12_find_44 3 rfl ?_
              refine z_aload_n (pc := 45) C dX12_find_45 0 rfl ?_
              refine z_getf (pc := 46) C dX12_find_46 fX12_78 (by assumption) (by first | rfl | assumption) ?_
              refine z_top n1 ?_
              first | refine z_icmpgeN (pc := 49) C 91 dX12_find_49 (by decide) (by omega) (by omega) (fun hc49 => ?_) (fun hc49 => ?_) | refine z_icmp_ge (pc := 49) C 91 dX12_find_49 (by decide) (fun hc49 => ?_) (fun hc49 => ?_)
              · skip
                have ex : g = sfnP R B t x := by rw [he2]; obtain rfl : j = t.2.2 - t.2.1 := (by omega); unfold sfnP; show decide _ = decide _; congr 1; exact propext ⟨fun z => ⟨z.1.1, z.1.2, z.2⟩, fun z => ⟨⟨z.1, z.2.1⟩, z.2.2⟩⟩
                refine z_iload_n (pc := 91) C dX12_find_91 2 rfl ?_
                first | refine z_ifeqB (pc := 92) C 97 dX12_find_92 (by decide) (fun hc92 => ?_) (fun hc92 => ?_) | refine z_ifeqN (pc := 92) C 97 dX12_find_92 (by decide) (by omega) (fun hc92 => ?_) (fun hc92 => ?_) | refine z_if_eq (pc := 92) C 97 dX12_find_92 (by decide) (fun hc92 => ?_) (fun hc92 => ?_)
                · skip
                  first | refine z_iincN (pc := 97) (lv' := [(1, _), (0, _), (2, _), (3, _)]) C 1 dX12_find_97 1 rfl (by decide) (by decide) rfl ?_ | refine z_iinc (pc := 97) (lv' := [(1, _), (0, _), (2, _), (3, _)]) C dX12_find_97 1 rfl _ rfl (by decide) rfl ?_
                  refine z_goto (pc := 100) C 2 dX12_find_100 (by decide) ?_
                  refine z_sub (lv' := [(0, _), (1, _)]) [1, 0] rfl ?_
                  exact ih (f - 1) (by omega) (x + 1) ⟨by omega, by rw [he1]; obtain ⟨f, rfl⟩ : ∃ y, f = y + 1 := ⟨f - 1, by omega⟩; rw [sfst, if_neg (by rw [← ex, hc92]; decide)]; rfl⟩
                · skip
                  refine z_iload_n (pc := 95) C dX12_find_95 1 rfl ?_
                  refine z_iret (pc := 96) C dX12_find_96 rfl (Nat.zero_le _) (Nat.zero_le _) ⟨?_, ?_, rfl⟩
                  · rw [he1]; obtain ⟨f, rfl⟩ : ∃ y, f = y + 1 := ⟨f - 1, by omega⟩; rw [sfst, if_pos (by rw [← ex, hc92])]; rfl
                  · rfl
              · skip
                refine z_iload_n (pc := 52) C dX12_find_52 2 rfl ?_
                first | refine z_ifeqB (pc := 53) C 91 dX12_find_53 (by decide) (fun hc53 => ?_) (fun hc53 => ?_) | refine z_ifeqN (pc := 53) C 91 dX12_find_53 (by decide) (by omega) (fun hc53 => ?_) (fun hc53 => ?_) | refine z_if_eq (pc := 53) C 91 dX12_find_53 (by decide) (fun hc53 => ?_) (fun hc53 => ?_)
                · skip
                  have ex : g = sfnP R B t x := by
                    rw [hc53]
                    refine (decide_eq_false (fun z => ?_)).symm
                    rw [he2] at hc53
                    exact absurd ⟨⟨z.1, z.2.1⟩, fun q hq => z.2.2 q (by omega)⟩ (of_decide_eq_false hc53)
                  refine z_iload_n (pc := 91) C dX12_find_91 2 rfl ?_
                  first | refine z_ifeqB (pc := 92) C 97 dX12_find_92 (by decide) (fun hc92 => ?_) (fun hc92 => ?_) | refine z_ifeqN (pc := 92) C 97 dX12_find_92 (by decide) (by omega) (fun hc92 => ?_) (fun hc92 => ?_) | refine z_if_eq (pc := 92) C 97 dX12_find_92 (by decide) (fun hc92 => ?_) (fun hc92 => ?_)
                  · skip
                    first | refine z_iincN (pc := 97) (lv' := [(1, _), (0, _), (2, _), (3, _)]) C 1 dX12_find_97 1 rfl (by decide) (by decide) rfl ?_ | refine z_iinc (pc := 97) (lv' := [(1, _), (0, _), (2, _), (3, _)]) C dX12_find_97 1 rfl _ rfl (by decide) rfl ?_
                    refine z_goto (pc := 100) C 2 dX12_find_100 (by decide) ?_
                    refine z_sub (lv' := [(0, _), (1, _)]) [1, 0] rfl ?_
                    exact ih (f - 1) (by omega) (x + 1) ⟨by omega, by rw [he1]; obtain ⟨f, rfl⟩ : ∃ y, f = y + 1 := ⟨f - 1, by omega⟩; rw [sfst, if_neg (by rw [← ex, hc92]; decide)]; rfl⟩
                  · skip
                    refine z_iload_n (pc := 95) C dX12_find_95 1 rfl ?_
                    refine z_iret (pc := 96) C dX12_find_96 rfl (Nat.zero_le _) (Nat.zero_le _) ⟨?_, ?_, rfl⟩
                    · rw [he1]; obtain ⟨f, rfl⟩ : ∃ y, f = y + 1 := ⟨f - 1, by omega⟩; rw [sfst, if_pos (by rw [← ex, hc92])]; rfl
                    · rfl
                · skip
                  refine z_aload_n (pc := 56) C dX12_find_56 0 rfl ?_
                  refine z_getf (pc := 57) C dX12_find_57 fX12_23 (by assumption) (by first | rfl | assumption) ?_
                  refine z_bipush (pc := 60) C dX12_find_60 (nI 81) (by decide) ?_
                  refine z_bipush (pc := 62) C dX12_find_62 (nI 8) (by decide) ?_
                  refine z_iload_n (pc := 64) C dX12_find_64 1 rfl ?_
                  first | refine z_imulN (pc := 65) C dX12_find_65 ?_ | refine z_imul (pc := 65) C dX12_find_65 ?_
                  first | refine z_iaddN (pc := 66) C dX12_find_66 ?_ | refine z_iadd (pc := 66) C dX12_find_66 ?_
                  refine z_iload_n (pc := 67) C dX12_find_67 3 rfl ?_
                  first | refine z_iaddN (pc := 68) C dX12_find_68 ?_ | refine z_iadd (pc := 68) C dX12_find_68 ?_
                  first | refine z_ialdN (pc := 69) C dX12_find_69 (by assumption) (by omega) (by decide) ?_ | refine z_ialdI (pc := 69) C dX12_find_69 (by assumption) (by omega) (by decide) ?_
                  refine z_aload_n (pc := 70) C dX12_find_70 0 rfl ?_
                  refine z_getf (pc := 71) C dX12_find_71 fX12_17 (by assumption) (by first | rfl | assumption) ?_
                  refine z_iload_n (pc := 74) C dX12_find_74 3 rfl ?_
                  first | refine z_ialdN (pc := 75) C dX12_find_75 (by assumption) (by omega) (by decide) ?_ | refine z_ialdI (pc := 75) C dX12_find_75 (by assumption) (by omega) (by decide) ?_
                  have b2 := hRb (81 + 8 * x + j) (by omega)
                  have e3 := w3 j (by omega)
                  have e4 := n2 j (by omega)
                  first | refine z_icmpneN (pc := 76) C 83 dX12_find_76 (by decide) (by omega) (by omega) (fun hc76 => ?_) (fun hc76 => ?_) | refine z_icmp_ne (pc := 76) C 83 dX12_find_76 (by decide) (fun hc76 => ?_) (fun hc76 => ?_)
                  · skip
                    have e9 : false = (fun j => decide ((0 < R (61 + x) ∧ R (61 + x) = (t.2.2 - t.2.1)) ∧ ∀ q, q < j → R (81 + 8 * x + q) = B (t.2.1 + q))) (j + 1) := (decide_eq_false (fun z => hc76 ((z.2 j (by omega)).trans (n2 j (by omega)).symm))).symm
                    refine z_iconst (pc := 83) C dX12_find_83 (zb false) (by decide) ?_
                    refine z_istore_n (pc := 84) (lv' := [(2, _), (0, _), (1, _), (3, _)]) C dX12_find_84 (by decide) rfl ?_
                    first | refine z_iincN (pc := 85) (lv' := [(3, _), (2, _), (0, _), (1, _)]) C 1 dX12_find_85 3 rfl (by decide) (by decide) rfl ?_ | refine z_iinc (pc := 85) (lv' := [(3, _), (2, _), (0, _), (1, _)]) C dX12_find_85 3 rfl _ rfl (by decide) rfl ?_
                    refine z_goto (pc := 88) C 44 dX12_find_88 (by decide) ?_
                    refine z_sub (lv' := [(0, _), (1, _), (2, _), (3, _)]) [2, 3, 1, 0] rfl ?_
                    exact ih2 (f2 - 1) (by omega) (j + 1) _ ⟨by omega, e9⟩
                  · skip
                    have e9 : true = (fun j => decide ((0 < R (61 + x) ∧ R (61 + x) = (t.2.2 - t.2.1)) ∧ ∀ q, q < j → R (81 + 8 * x + q) = B (t.2.1 + q))) (j + 1) := by refine (decide_eq_true ?_).symm; rw [he2] at hc53; have z := of_decide_eq_true hc53; exact ⟨z.1, fun q hq => by by_cases y : q = j; (subst y; exact hc76.trans (n2 q (by omega))); exact z.2 q (by omega)⟩
                    refine z_iconst (pc := 79) C dX12_find_79 (zb true) (by decide) ?_
                    refine z_goto (pc := 80) C 84 dX12_find_80 (by decide) ?_
                    refine z_istore_n (pc := 84) (lv' := [(2, _), (0, _), (1, _), (3, _)]) C dX12_find_84 (by decide) rfl ?_
                    first | refine z_iincN (pc := 85) (lv' := [(3, _), (2, _), (0, _), (1, _)]) C 1 dX12_find_85 3 rfl (by decide) (by decide) rfl ?_ | refine z_iinc (pc := 85) (lv' := [(3, _), (2, _), (0, _), (1, _)]) C dX12_find_85 3 rfl _ rfl (by decide) rfl ?_
                    refine z_goto (pc := 88) C 44 dX12_find_88 (by decide) ?_
                    refine z_sub (lv' := [(0, _), (1, _), (2, _), (3, _)]) [2, 3, 1, 0] rfl ?_
                    exact ih2 (f2 - 1) (by omega) (j + 1) _ ⟨by omega, e9⟩
          first | exact lp44 (t.2.2 - t.2.1) 0 true ⟨by omega, (decide_eq_true ⟨e0, fun q hq => by omega⟩).symm⟩ | exact lp44 (t.2.2 - t.2.1) 0 false ⟨by omega, (decide_eq_false (fun z => e0 z.1)).symm⟩
        · skip
          refine z_aload_n (pc := 20) C dX12_find_20 0 rfl ?_
          refine z_getf (pc := 21) C dX12_find_21 fX12_23 (by assumption) (by first | rfl | assumption) ?_
          refine z_bipush (pc := 24) C dX12_find_24 (nI 61) (by decide) ?_
          refine z_iload_n (pc := 26) C dX12_find_26 1 rfl ?_
          first | refine z_iaddN (pc := 27) C dX12_find_27 ?_ | refine z_iadd (pc := 27) C dX12_find_27 ?_
          first | refine z_ialdN (pc := 28) C dX12_find_28 (by assumption) (by omega) (by decide) ?_ | refine z_ialdI (pc := 28) C dX12_find_28 (by assumption) (by omega) (by decide) ?_
          refine z_aload_n (pc := 29) C dX12_find_29 0 rfl ?_
          refine z_getf (pc := 30) C dX12_find_30 fX12_78 (by assumption) (by first | rfl | assumption) ?_
          refine z_top n1 ?_
          first | refine z_icmpneN (pc := 33) C 40 dX12_find_33 (by decide) (by omega) (by omega) (fun hc33 => ?_) (fun hc33 => ?_) | refine z_icmp_ne (pc := 33) C 40 dX12_find_33 (by decide) (fun hc33 => ?_) (fun hc33 => ?_)
          · skip
            have e0 : ¬ (0 < R (61 + x) ∧ R (61 + x) = t.2.2 - t.2.1) := fun z => by omega
            refine z_iconst (pc := 40) C dX12_find_40 (zb false) (by decide) ?_
            refine z_istore_n (pc := 41) (lv' := [(2, _), (0, _), (1, _)]) C dX12_find_41 (by decide) rfl ?_
            refine z_iconst (pc := 42) C dX12_find_42 (nI 0) (by decide) ?_
            refine z_istore_n (pc := 43) (lv' := [(3, _), (2, _), (0, _), (1, _)]) C dX12_find_43 (by decide) rfl ?_
            refine z_sub (lv' := [(0, _), (1, _), (2, _), (3, _)]) [2, 3, 1, 0] rfl ?_
            have lp44 : ∀ (f2 : Nat) (j : Nat) (g : Bool), (j + f2 = (t.2.2 - t.2.1) ∧ g = (fun j => decide ((0 < R (61 + x) ∧ R (61 + x) = (t.2.2 - t.2.1)) ∧ ∀ q, q < j → R (81 + 8 * x + q) = B (t.2.1 + q))) j) → Zc X mX12_find (zEnd X (fun r hh n' => r = (some (.int (zm (sfnd R B t)))) ∧ hh = h ∧ n' = n) 0 0) 44 [(0, .ref 1063), (1, .int (nI x)), (2, .int (zb g)), (3, .int (nI j))] [] h n 0 0 := by
              intro f2
              induction f2 using Nat.strongRecOn with
              | _ f2 ih2 =>
                intro j g hk2
                obtain ⟨hk2, he2⟩ := hk2
                refine z_iload_n (pc := 44) C dX12_find_44 3 rfl ?_
                refine z_aload_n (pc := 45) C dX12_find_45 0 rfl ?_
                refine z_getf (pc := 46) C dX12_find_46 fX12_78 (by assumption) (by first | rfl | assumption) ?_
                refine z_top n1 ?_
                first | refine z_icmpgeN (pc := 49) C 91 dX12_find_49 (by decide) (by omega) (by omega) (fun hc49 => ?_) (fun hc49 => ?_) | refine z_icmp_ge (pc := 49) C 91 dX12_find_49 (by decide) (fun hc49 => ?_) (fun hc49 => ?_)
                · skip
                  have ex : g = sfnP R B t x := by rw [he2]; obtain rfl : j = t.2.2 - t.2.1 := (by omega); unfold sfnP; show decide _ = decide _; congr 1; exact propext ⟨fun z => ⟨z.1.1, z.1.2, z.2⟩, fun z => ⟨⟨z.1, z.2.1⟩, z.2.2⟩⟩
                  refine z_iload_n (pc := 91) C dX12_find_91 2 rfl ?_
                  first | refine z_ifeqB (pc := 92) C 97 dX12_find_92 (by decide) (fun hc92 => ?_) (fun hc92 => ?_) | refine z_ifeqN (pc := 92) C 97 dX12_find_92 (by decide) (by omega) (fun hc92 => ?_) (fun hc92 => ?_) | refine z_if_eq (pc := 92) C 97 dX12_find_92 (by decide) (fun hc92 => ?_) (fun hc92 => ?_)
                  · skip
                    first | refine z_iincN (pc := 97) (lv' := [(1, _), (0, _), (2, _), (3, _)]) C 1 dX12_find_97 1 rfl (by decide) (by decide) rfl ?_ | refine z_iinc (pc := 97) (lv' := [(1, _), (0, _), (2, _), (3, _)]) C dX12_find_97 1 rfl _ rfl (by decide) rfl ?_
                    refine z_goto (pc := 100) C 2 dX12_find_100 (by decide) ?_
                    refine z_sub (lv' := [(0, _), (1, _)]) [1, 0] rfl ?_
                    exact ih (f - 1) (by omega) (x + 1) ⟨by omega, by rw [he1]; obtain ⟨f, rfl⟩ : ∃ y, f = y + 1 := ⟨f - 1, by omega⟩; rw [sfst, if_neg (by rw [← ex, hc92]; decide)]; rfl⟩
                  · skip
                    refine z_iload_n (pc := 95) C dX12_find_95 1 rfl ?_
                    refine z_iret (pc := 96) C dX12_find_96 rfl (Nat.zero_le _) (Nat.zero_le _) ⟨?_, ?_, rfl⟩
                    · rw [he1]; obtain ⟨f, rfl⟩ : ∃ y, f = y + 1 := ⟨f - 1, by omega⟩; rw [sfst, if_pos (by rw [← ex, hc92])]; rfl
                    · rfl
                · skip
                  refine z_iload_n (pc := 52) C dX12_find_52 2 rfl ?_
                  first | refine z_ifeqB (pc := 53) C 91 dX12_find_53 (by decide) (fun hc53 => ?_) (fun hc53 => ?_) | refine z_ifeqN (pc := 53) C 91 dX12_find_53 (by decide) (by omega) (fun hc53 => ?_) (fun hc53 => ?_) | refine z_if_eq (pc := 53) C 91 dX12_find_53 (by decide) (fun hc53 => ?_) (fun hc53 => ?_)
                  · skip
                    have ex : g = sfnP R B t x := by
                      rw [hc53]
                      refine (decide_eq_false (fun z => ?_)).symm
                      rw [he2] at hc53
                      exact absurd ⟨⟨z.1, z.2.1⟩, fun q hq => z.2.2 q (by omega)⟩ (of_decide_eq_false hc53)
                    refine z_iload_n (pc := 91) C dX12_find_91 2 rfl ?_
                    first | refine z_ifeqB (pc := 92) C 97 dX12_find_92 (by decide) (fun hc92 => ?_) (fun hc92 => ?_) | refine z_ifeqN (pc := 92) C 97 dX12_find_92 (by decide) (by omega) (fun hc92 => ?_) (fun hc92 => ?_) | refine z_if_eq (pc := 92) C 97 dX12_find_92 (by decide) (fun hc92 => ?_) (fun hc92 => ?_)
                    · skip
                      first | refine z_iincN (pc := 97) (lv' := [(1, _), (0, _), (2, _), (3, _)]) C 1 dX12_find_97 1 rfl (by decide) (by decide) rfl ?_ | refine z_iinc (pc := 97) (lv' := [(1, _), (0, _), (2, _), (3, _)]) C dX12_find_97 1 rfl _ rfl (by decide) rfl ?_
                      refine z_goto (pc := 100) C 2 dX12_find_100 (by decide) ?_
                      refine z_sub (lv' := [(0, _), (1, _)]) [1, 0] rfl ?_
                      exact ih (f - 1) (by omega) (x + 1) ⟨by omega, by rw [he1]; obtain ⟨f, rfl⟩ : ∃ y, f = y + 1 := ⟨f - 1, by omega⟩; rw [sfst, if_neg (by rw [← ex, hc92]; decide)]; rfl⟩
                    · skip
                      refine z_iload_n (pc := 95) C dX12_find_95 1 rfl ?_
                      refine z_iret (pc := 96) C dX12_find_96 rfl (Nat.zero_le _) (Nat.zero_le _) ⟨?_, ?_, rfl⟩
                      · rw [he1]; obtain ⟨f, rfl⟩ : ∃ y, f = y + 1 := ⟨f - 1, by omega⟩; rw [sfst, if_pos (by rw [← ex, hc92])]; rfl
                      · rfl
                  · skip
                    refine z_aload_n (pc := 56) C dX12_find_56 0 rfl ?_
                    refine z_getf (pc := 57) C dX12_find_57 fX12_23 (by assumption) (by first | rfl | assumption) ?_
                    refine z_bipush (pc := 60) C dX12_find_60 (nI 81) (by decide) ?_
                    refine z_bipush (pc := 62) C dX12_find_62 (nI 8) (by decide) ?_
                    refine z_iload_n (pc := 64) C dX12_find_64 1 rfl ?_
                    first | refine z_imulN (pc := 65) C dX12_find_65 ?_ | refine z_imul (pc := 65) C dX12_find_65 ?_
                    first | refine z_iaddN (pc := 66) C dX12_find_66 ?_ | refine z_iadd (pc := 66) C dX12_find_66 ?_
                    refine z_iload_n (pc := 67) C dX12_find_67 3 rfl ?_
                    first | refine z_iaddN (pc := 68) C dX12_find_68 ?_ | refine z_iadd (pc := 68) C dX12_find_68 ?_
                    first | refine z_ialdN (pc := 69) C dX12_find_69 (by assumption) (by omega) (by decide) ?_ | refine z_ialdI (pc := 69) C dX12_find_69 (by assumption) (by omega) (by decide) ?_
                    refine z_aload_n (pc := 70) C dX12_find_70 0 rfl ?_
                    refine z_getf (pc := 71) C dX12_find_71 fX12_17 (by assumption) (by first | rfl | assumption) ?_
                    refine z_iload_n (pc := 74) C dX12_find_74 3 rfl ?_
                    first | refine z_ialdN (pc := 75) C dX12_find_75 (by assumption) (by omega) (by decide) ?_ | refine z_ialdI (pc := 75) C dX12_find_75 (by assumption) (by omega) (by decide) ?_
                    have b2 := hRb (81 + 8 * x + j) (by omega)
                    have e3 := w3 j (by omega)
                    have e4 := n2 j (by omega)
                    first | refine z_icmpneN (pc := 76) C 83 dX12_find_76 (by decide) (by omega) (by omega) (fun hc76 => ?_) (fun hc76 => ?_) | refine z_icmp_ne (pc := 76) C 83 dX12_find_76 (by decide) (fun hc76 => ?_) (fun hc76 => ?_)
                    · skip
                      have e9 : false = (fun j => decide ((0 < R (61 + x) ∧ R (61 + x) = (t.2.2 - t.2.1)) ∧ ∀ q, q < j → R (81 + 8 * x + q) = B (t.2.1 + q))) (j + 1) := (decide_eq_false (fun z => hc76 ((z.2 j (by omega)).trans (n2 j (by omega)).symm))).symm
                      refine z_iconst (pc := 83) C dX12_find_83 (zb false) (by decide) ?_
                      refine z_istore_n (pc := 84) (lv' := [(2, _), (0, _), (1, _), (3, _)]) C dX12_find_84 (by decide) rfl ?_
                      first | refine z_iincN (pc := 85) (lv' := [(3, _), (2, _), (0, _), (1, _)]) C 1 dX12_find_85 3 rfl (by decide) (by decide) rfl ?_ | refine z_iinc (pc := 85) (lv' := [(3, _), (2, _), (0, _), (1, _)]) C dX12_find_85 3 rfl _ rfl (by decide) rfl ?_
                      refine z_goto (pc := 88) C 44 dX12_find_88 (by decide) ?_
                      refine z_sub (lv' := [(0, _), (1, _), (2, _), (3, _)]) [2, 3, 1, 0] rfl ?_
                      exact ih2 (f2 - 1) (by omega) (j + 1) _ ⟨by omega, e9⟩
                    · skip
                      have e9 : true = (fun j => decide ((0 < R (61 + x) ∧ R (61 + x) = (t.2.2 - t.2.1)) ∧ ∀ q, q < j → R (81 + 8 * x + q) = B (t.2.1 + q))) (j + 1) := by refine (decide_eq_true ?_).symm; rw [he2] at hc53; have z := of_decide_eq_true hc53; exact ⟨z.1, fun q hq => by by_cases y : q = j; (subst y; exact hc76.trans (n2 q (by omega))); exact z.2 q (by omega)⟩
                      refine z_iconst (pc := 79) C dX12_find_79 (zb true) (by decide) ?_
                      refine z_goto (pc := 80) C 84 dX12_find_80 (by decide) ?_
                      refine z_istore_n (pc := 84) (lv' := [(2, _), (0, _), (1, _), (3, _)]) C dX12_find_84 (by decide) rfl ?_
                      first | refine z_iincN (pc := 85) (lv' := [(3, _), (2, _), (0, _), (1, _)]) C 1 dX12_find_85 3 rfl (by decide) (by decide) rfl ?_ | refine z_iinc (pc := 85) (lv' := [(3, _), (2, _), (0, _), (1, _)]) C dX12_find_85 3 rfl _ rfl (by decide) rfl ?_
                      refine z_goto (pc := 88) C 44 dX12_find_88 (by decide) ?_
                      refine z_sub (lv' := [(0, _), (1, _), (2, _), (3, _)]) [2, 3, 1, 0] rfl ?_
                      exact ih2 (f2 - 1) (by omega) (j + 1) _ ⟨by omega, e9⟩
            first | exact lp44 (t.2.2 - t.2.1) 0 true ⟨by omega, (decide_eq_true ⟨e0, fun q hq => by omega⟩).symm⟩ | exact lp44 (t.2.2 - t.2.1) 0 false ⟨by omega, (decide_eq_false (fun z => e0 z.1)).symm⟩
          · skip
            have e0 : 0 < R (61 + x) ∧ R (61 + x) = t.2.2 - t.2.1 := ⟨hc17, hc33⟩
            refine z_iconst (pc := 36) C dX12_find_36 (zb true) (by decide) ?_
            refine z_goto (pc := 37) C 41 dX12_find_37 (by decide) ?_
            refine z_istore_n (pc := 41) (lv' := [(2, _), (0, _), (1, _)]) C dX12_find_41 (by decide) rfl ?_
            refine z_iconst (pc := 42) C dX12_find_42 (nI 0) (by decide) ?_
            refine z_istore_n (pc := 43) (lv' := [(3, _), (2, _), (0, _), (1, _)]) C dX12_find_43 (by decide) rfl ?_
            refine z_sub (lv' := [(0, _), (1, _), (2, _), (3, _)]) [2, 3, 1, 0] rfl ?_
            have lp44 : ∀ (f2 : Nat) (j : Nat) (g : Bool), (j + f2 = (t.2.2 - t.2.1) ∧ g = (fun j => decide ((0 < R (61 + x) ∧ R (61 + x) = (t.2.2 - t.2.1)) ∧ ∀ q, q < j → R (81 + 8 * x + q) = B (t.2.1 + q))) j) → Zc X mX12_find (zEnd X (fun r hh n' => r = (some (.int (zm (sfnd R B t)))) ∧ hh = h ∧ n' = n) 0 0) 44 [(0, .ref 1063), (1, .int (nI x)), (2, .int (zb g)), (3, .int (nI j))] [] h n 0 0 := by
              intro f2
              induction f2 using Nat.strongRecOn with
              | _ f2 ih2 =>
                intro j g hk2
                obtain ⟨hk2, he2⟩ := hk2
                refine z_iload_n (pc := 44) C dX12_find_44 3 rfl ?_
                refine z_aload_n (pc := 45) C dX12_find_45 0 rfl ?_
                refine z_getf (pc := 46) C dX12_find_46 fX12_78 (by assumption) (by first | rfl | assumption) ?_
                refine z_top n1 ?_
                first | refine z_icmpgeN (pc := 49) C 91 dX12_find_49 (by decide) (by omega) (by omega) (fun hc49 => ?_) (fun hc49 => ?_) | refine z_icmp_ge (pc := 49) C 91 dX12_find_49 (by decide) (fun hc49 => ?_) (fun hc49 => ?_)
                · skip
                  have ex : g = sfnP R B t x := by rw [he2]; obtain rfl : j = t.2.2 - t.2.1 := (by omega); unfold sfnP; show decide _ = decide _; congr 1; exact propext ⟨fun z => ⟨z.1.1, z.1.2, z.2⟩, fun z => ⟨⟨z.1, z.2.1⟩, z.2.2⟩⟩
                  refine z_iload_n (pc := 91) C dX12_find_91 2 rfl ?_
                  first | refine z_ifeqB (pc := 92) C 97 dX12_find_92 (by decide) (fun hc92 => ?_) (fun hc92 => ?_) | refine z_ifeqN (pc := 92) C 97 dX12_find_92 (by decide) (by omega) (fun hc92 => ?_) (fun hc92 => ?_) | refine z_if_eq (pc := 92) C 97 dX12_find_92 (by decide) (fun hc92 => ?_) (fun hc92 => ?_)
                  · skip
                    first | refine z_iincN (pc := 97) (lv' := [(1, _), (0, _), (2, _), (3, _)]) C 1 dX12_find_97 1 rfl (by decide) (by decide) rfl ?_ | refine z_iinc (pc := 97) (lv' := [(1, _), (0, _), (2, _), (3, _)]) C dX12_find_97 1 rfl _ rfl (by decide) rfl ?_
                    refine z_goto (pc := 100) C 2 dX12_find_100 (by decide) ?_
                    refine z_sub (lv' := [(0, _), (1, _)]) [1, 0] rfl ?_
                    exact ih (f - 1) (by omega) (x + 1) ⟨by omega, by rw [he1]; obtain ⟨f, rfl⟩ : ∃ y, f = y + 1 := ⟨f - 1, by omega⟩; rw [sfst, if_neg (by rw [← ex, hc92]; decide)]; rfl⟩
                  · skip
                    refine z_iload_n (pc := 95) C dX12_find_95 1 rfl ?_
                    refine z_iret (pc := 96) C dX12_find_96 rfl (Nat.zero_le _) (Nat.zero_le _) ⟨?_, ?_, rfl⟩
                    · rw [he1]; obtain ⟨f, rfl⟩ : ∃ y, f = y + 1 := ⟨f - 1, by omega⟩; rw [sfst, if_pos (by rw [← ex, hc92])]; rfl
                    · rfl
                · skip
                  refine z_iload_n (pc := 52) C dX12_find_52 2 rfl ?_
                  first | refine z_ifeqB (pc := 53) C 91 dX12_find_53 (by decide) (fun hc53 => ?_) (fun hc53 => ?_) | refine z_ifeqN (pc := 53) C 91 dX12_find_53 (by decide) (by omega) (fun hc53 => ?_) (fun hc53 => ?_) | refine z_if_eq (pc := 53) C 91 dX12_find_53 (by decide) (fun hc53 => ?_) (fun hc53 => ?_)
                  · skip
                    have ex : g = sfnP R B t x := by
                      rw [hc53]
                      refine (decide_eq_false (fun z => ?_)).symm
                      rw [he2] at hc53
                      exact absurd ⟨⟨z.1, z.2.1⟩, fun q hq => z.2.2 q (by omega)⟩ (of_decide_eq_false hc53)
                    refine z_iload_n (pc := 91) C dX12_find_91 2 rfl ?_
                    first | refine z_ifeqB (pc := 92) C 97 dX12_find_92 (by decide) (fun hc92 => ?_) (fun hc92 => ?_) | refine z_ifeqN (pc := 92) C 97 dX12_find_92 (by decide) (by omega) (fun hc92 => ?_) (fun hc92 => ?_) | refine z_if_eq (pc := 92) C 97 dX12_find_92 (by decide) (fun hc92 => ?_) (fun hc92 => ?_)
                    · skip
                      first | refine z_iincN (pc := 97) (lv' := [(1, _), (0, _), (2, _), (3, _)]) C 1 dX12_find_97 1 rfl (by decide) (by decide) rfl ?_ | refine z_iinc (pc := 97) (lv' := [(1, _), (0, _), (2, _), (3, _)]) C dX12_find_97 1 rfl _ rfl (by decide) rfl ?_
                      refine z_goto (pc := 100) C 2 dX12_find_100 (by decide) ?_
                      refine z_sub (lv' := [(0, _), (1, _)]) [1, 0] rfl ?_
                      exact ih (f - 1) (by omega) (x + 1) ⟨by omega, by rw [he1]; obtain ⟨f, rfl⟩ : ∃ y, f = y + 1 := ⟨f - 1, by omega⟩; rw [sfst, if_neg (by rw [← ex, hc92]; decide)]; rfl⟩
                    · skip
                      refine z_iload_n (pc := 95) C dX12_find_95 1 rfl ?_
                      refine z_iret (pc := 96) C dX12_find_96 rfl (Nat.zero_le _) (Nat.zero_le _) ⟨?_, ?_, rfl⟩
                      · rw [he1]; obtain ⟨f, rfl⟩ : ∃ y, f = y + 1 := ⟨f - 1, by omega⟩; rw [sfst, if_pos (by rw [← ex, hc92])]; rfl
                      · rfl
                  · skip
                    refine z_aload_n (pc := 56) C dX12_find_56 0 rfl ?_
                    refine z_getf (pc := 57) C dX12_find_57 fX12_23 (by assumption) (by first | rfl | assumption) ?_
                    refine z_bipush (pc := 60) C dX12_find_60 (nI 81) (by decide) ?_
                    refine z_bipush (pc := 62) C dX12_find_62 (nI 8) (by decide) ?_
                    refine z_iload_n (pc := 64) C dX12_find_64 1 rfl ?_
                    first | refine z_imulN (pc := 65) C dX12_find_65 ?_ | refine z_imul (pc := 65) C dX12_find_65 ?_
                    first | refine z_iaddN (pc := 66) C dX12_find_66 ?_ | refine z_iadd (pc := 66) C dX12_find_66 ?_
                    refine z_iload_n (pc := 67) C dX12_find_67 3 rfl ?_
                    first | refine z_iaddN (pc := 68) C dX12_find_68 ?_ | refine z_iadd (pc := 68) C dX12_find_68 ?_
                    first | refine z_ialdN (pc := 69) C dX12_find_69 (by assumption) (by omega) (by decide) ?_ | refine z_ialdI (pc := 69) C dX12_find_69 (by assumption) (by omega) (by decide) ?_
                    refine z_aload_n (pc := 70) C dX12_find_70 0 rfl ?_
                    refine z_getf (pc := 71) C dX12_find_71 fX12_17 (by assumption) (by first | rfl | assumption) ?_
                    refine z_iload_n (pc := 74) C dX12_find_74 3 rfl ?_
                    first | refine z_ialdN (pc := 75) C dX12_find_75 (by assumption) (by omega) (by decide) ?_ | refine z_ialdI (pc := 75) C dX12_find_75 (by assumption) (by omega) (by decide) ?_
                    have b2 := hRb (81 + 8 * x + j) (by omega)
                    have e3 := w3 j (by omega)
                    have e4 := n2 j (by omega)
                    first | refine z_icmpneN (pc := 76) C 83 dX12_find_76 (by decide) (by omega) (by omega) (fun hc76 => ?_) (fun hc76 => ?_) | refine z_icmp_ne (pc := 76) C 83 dX12_find_76 (by decide) (fun hc76 => ?_) (fun hc76 => ?_)
                    · skip
                      have e9 : false = (fun j => decide ((0 < R (61 + x) ∧ R (61 + x) = (t.2.2 - t.2.1)) ∧ ∀ q, q < j → R (81 + 8 * x + q) = B (t.2.1 + q))) (j + 1) := (decide_eq_false (fun z => hc76 ((z.2 j (by omega)).trans (n2 j (by omega)).symm))).symm
                      refine z_iconst (pc := 83) C dX12_find_83 (zb false) (by decide) ?_
                      refine z_istore_n (pc := 84) (lv' := [(2, _), (0, _), (1, _), (3, _)]) C dX12_find_84 (by decide) rfl ?_
                      first | refine z_iincN (pc := 85) (lv' := [(3, _), (2, _), (0, _), (1, _)]) C 1 dX12_find_85 3 rfl (by decide) (by decide) rfl ?_ | refine z_iinc (pc := 85) (lv' := [(3, _), (2, _), (0, _), (1, _)]) C dX12_find_85 3 rfl _ rfl (by decide) rfl ?_
                      refine z_goto (pc := 88) C 44 dX12_find_88 (by decide) ?_
                      refine z_sub (lv' := [(0, _), (1, _), (2, _), (3, _)]) [2, 3, 1, 0] rfl ?_
                      exact ih2 (f2 - 1) (by omega) (j + 1) _ ⟨by omega, e9⟩
                    · skip
                      have e9 : true = (fun j => decide ((0 < R (61 + x) ∧ R (61 + x) = (t.2.2 - t.2.1)) ∧ ∀ q, q < j → R (81 + 8 * x + q) = B (t.2.1 + q))) (j + 1) := by refine (decide_eq_true ?_).symm; rw [he2] at hc53; have z := of_decide_eq_true hc53; exact ⟨z.1, fun q hq => by by_cases y : q = j; (subst y; exact hc76.trans (n2 q (by omega))); exact z.2 q (by omega)⟩
                      refine z_iconst (pc := 79) C dX12_find_79 (zb true) (by decide) ?_
                      refine z_goto (pc := 80) C 84 dX12_find_80 (by decide) ?_
                      refine z_istore_n (pc := 84) (lv' := [(2, _), (0, _), (1, _), (3, _)]) C dX12_find_84 (by decide) rfl ?_
                      first | refine z_iincN (pc := 85) (lv' := [(3, _), (2, _), (0, _), (1, _)]) C 1 dX12_find_85 3 rfl (by decide) (by decide) rfl ?_ | refine z_iinc (pc := 85) (lv' := [(3, _), (2, _), (0, _), (1, _)]) C dX12_find_85 3 rfl _ rfl (by decide) rfl ?_
                      refine z_goto (pc := 88) C 44 dX12_find_88 (by decide) ?_
                      refine z_sub (lv' := [(0, _), (1, _), (2, _), (3, _)]) [2, 3, 1, 0] rfl ?_
                      exact ih2 (f2 - 1) (by omega) (j + 1) _ ⟨by omega, e9⟩
            first | exact lp44 (t.2.2 - t.2.1) 0 true ⟨by omega, (decide_eq_true ⟨e0, fun q hq => by omega⟩).symm⟩ | exact lp44 (t.2.2 - t.2.1) 0 false ⟨by omega, (decide_eq_false (fun z => e0 z.1)).symm⟩
  exact lp2 20 0 ⟨rfl, rfl⟩

set_option maxRecDepth 20000 in
set_option maxHeartbeats 1000000 in
theorem tX12_mustName {h : ZH} {v : Nat → Int32} {B : Nat → Nat} {n0 : Nat} {t : Nat × Nat × Nat} (hS : MS h v B n0 t) (hf : v 13 = zb false) : ZQ0 mX12_mustName 5 [.ref 1063] h (fun hh => (∃ v', MO hh v' B n0 (sMn0 B t) ∧ rW v v') ∧ rF h hh) := by
  intro n
  obtain ⟨hM, h3, h4, hk, L, h5, m1, m2, m3, m4, m5⟩ := id hS
  obtain ⟨t1, t2, t3, t4, t5, t6, t7, t8, t9⟩ := id hk
  have e0 := mtk_le t.1
  refine z_enter (lv := [(0, _)]) (by decide) (Nat.le_of_ble_eq_true rfl) rfl (fun X C => ?_)
  refine z_aload_n (pc := 0) C dX12_mustName_0 0 rfl ?_
  refine z_getf (pc := 1) C dX12_mustName_1 fX12_84 (by assumption) (by first | rfl | assumption) ?_
  refine z_top m1 ?_
  refine z_iconst (pc := 4) C dX12_mustName_4 (nI 2) (by decide) ?_
  first | refine z_icmpneN (pc := 5) C 80 dX12_mustName_5 (by decide) (by omega) (by omega) (fun hc5 => ?_) (fun hc5 => ?_) | refine z_icmp_ne (pc := 5) C 80 dX12_mustName_5 (by decide) (fun hc5 => ?_) (fun hc5 => ?_)
  · skip
    have ei : sIn B t = false := by unfold sIn; rw [decide_eq_false (fun z => hc5 (mtk_2.mpr z))]; rfl
    refine z_aload_n (pc := 80) C dX12_mustName_80 0 rfl ?_
    refine z_iconst (pc := 81) C dX12_mustName_81 (nI 1) (by decide) ?_
    refine z_aload_n (pc := 82) C dX12_mustName_82 0 rfl ?_
    refine z_getf (pc := 83) C dX12_mustName_83 fX12_75 (by assumption) (by first | rfl | assumption) ?_
    refine z_top m2 ?_
    refine z_cV0 (pc := 86) mX12_wrong C [_, _] dX12_mustName_86 lX12_121 mtX12_wrong (tX12_wrongY hM hf) (by assumption) rfl rfl (by decide) (Nat.le_of_ble_eq_true rfl) (Nat.zero_le _) (Nat.zero_le _) ?_
    refine z_vret (pc := 89) C dX12_mustName_89 rfl (Nat.zero_le _) (Nat.zero_le _) ⟨rfl, ?_, rfl⟩
    unfold sMn0; rw [ei]; first | exact ⟨⟨v, ⟨hS, hf⟩, rW.rf v⟩, rF.rf h⟩ | exact ⟨⟨_, MF.of hS _ _, MX.w _ _ _⟩, rF.up _ _⟩
  · skip
    refine z_aload_n (pc := 8) C dX12_mustName_8 0 rfl ?_
    refine z_ldcS (pc := 9) (ix := 125) (i := 0) (tx := "forest") C dX12_mustName_9 (show (RX12, 125, "forest", 0) ∈ zSR by simp [zSR]) ?_
    refine z_cV1 (pc := 11) mX12_isWord C [_] dX12_mustName_11 lX12_111 mtX12_isWord (tX12_isWord (b0 := false) hS hf (by decide)) (by assumption) rfl rfl (by decide) (Nat.le_of_ble_eq_true rfl) (Nat.zero_le _) (Nat.zero_le _) ?_
    first | refine z_ifneB (pc := 14) C 80 dX12_mustName_14 (by decide) (fun hc14 => ?_) (fun hc14 => ?_) | refine z_ifneN (pc := 14) C 80 dX12_mustName_14 (by decide) (by omega) (fun hc14 => ?_) (fun hc14 => ?_) | refine z_if_ne (pc := 14) C 80 dX12_mustName_14 (by decide) (fun hc14 => ?_) (fun hc14 => ?_)
    · skip
      have ei : sIn B t = false := by unfold sIn sKy; simp [show sspl B t 0 = true from hc14]
      refine z_aload_n (pc := 80) C dX12_mustName_80 0 rfl ?_
      refine z_iconst (pc := 81) C dX12_mustName_81 (nI 1) (by decide) ?_
      refine z_aload_n (pc := 82) C dX12_mustName_82 0 rfl ?_
      refine z_getf (pc := 83) C dX12_mustName_83 fX12_75 (by assumption) (by first | rfl | assumption) ?_
      refine z_top m2 ?_
      refine z_cV0 (pc := 86) mX12_wrong C [_, _] dX12_mustName_86 lX12_121 mtX12_wrong (tX12_wrongY hM hf) (by assumption) rfl rfl (by decide) (Nat.le_of_ble_eq_true rfl) (Nat.zero_le _) (Nat.zero_le _) ?_
      refine z_vret (pc := 89) C dX12_mustName_89 rfl (Nat.zero_le _) (Nat.zero_le _) ⟨rfl, ?_, rfl⟩
      unfold sMn0; rw [ei]; first | exact ⟨⟨v, ⟨hS, hf⟩, rW.rf v⟩, rF.rf h⟩ | exact ⟨⟨_, MF.of hS _ _, MX.w _ _ _⟩, rF.up _ _⟩
    · skip
      refine z_aload_n (pc := 17) C dX12_mustName_17 0 rfl ?_
      refine z_ldcS (pc := 18) (ix := 127) (i := 1) (tx := "place") C dX12_mustName_18 (show (RX12, 127, "place", 1) ∈ zSR by simp [zSR]) ?_
      refine z_cV1 (pc := 20) mX12_isWord C [_] dX12_mustName_20 lX12_111 mtX12_isWord (tX12_isWord (b0 := false) hS hf (by decide)) (by assumption) rfl rfl (by decide) (Nat.le_of_ble_eq_true rfl) (Nat.zero_le _) (Nat.zero_le _) ?_
      first | refine z_ifneB (pc := 23) C 80 dX12_mustName_23 (by decide) (fun hc23 => ?_) (fun hc23 => ?_) | refine z_ifneN (pc := 23) C 80 dX12_mustName_23 (by decide) (by omega) (fun hc23 => ?_) (fun hc23 => ?_) | refine z_if_ne (pc := 23) C 80 dX12_mustName_23 (by decide) (fun hc23 => ?_) (fun hc23 => ?_)
      · skip
        have ei : sIn B t = false := by unfold sIn sKy; simp [show sspl B t 1 = true from hc23]
        refine z_aload_n (pc := 80) C dX12_mustName_80 0 rfl ?_
        refine z_iconst (pc := 81) C dX12_mustName_81 (nI 1) (by decide) ?_
        refine z_aload_n (pc := 82) C dX12_mustName_82 0 rfl ?_
        refine z_getf (pc := 83) C dX12_mustName_83 fX12_75 (by assumption) (by first | rfl | assumption) ?_
        refine z_top m2 ?_
        refine z_cV0 (pc := 86) mX12_wrong C [_, _] dX12_mustName_86 lX12_121 mtX12_wrong (tX12_wrongY hM hf) (by assumption) rfl rfl (by decide) (Nat.le_of_ble_eq_true rfl) (Nat.zero_le _) (Nat.zero_le _) ?_
        refine z_vret (pc := 89) C dX12_mustName_89 rfl (Nat.zero_le _) (Nat.zero_le _) ⟨rfl, ?_, rfl⟩
        unfold sMn0; rw [ei]; first | exact ⟨⟨v, ⟨hS, hf⟩, rW.rf v⟩, rF.rf h⟩ | exact ⟨⟨_, MF.of hS _ _, MX.w _ _ _⟩, rF.up _ _⟩
      · skip
        refine z_aload_n (pc := 26) C dX12_mustName_26 0 rfl ?_
        refine z_ldcS (pc := 27) (ix := 128) (i := 2) (tx := "path") C dX12_mustName_27 (show (RX12, 128, "path", 2) ∈ zSR by simp [zSR]) ?_
        refine z_cV1 (pc := 29) mX12_isWord C [_] dX12_mustName_29 lX12_111 mtX12_isWord (tX12_isWord (b0 := false) hS hf (by decide)) (by assumption) rfl rfl (by decide) (Nat.le_of_ble_eq_true rfl) (Nat.zero_le _) (Nat.zero_le _) ?_
        first | refine z_ifneB (pc := 32) C 80 dX12_mustName_32 (by decide) (fun hc32 => ?_) (fun hc32 => ?_) | refine z_ifneN (pc := 32) C 80 dX12_mustName_32 (by decide) (by omega) (fun hc32 => ?_) (fun hc32 => ?_) | refine z_if_ne (pc := 32) C 80 dX12_mustName_32 (by decide) (fun hc32 => ?_) (fun hc32 => ?_)
        · skip
          have ei : sIn B t = false := by unfold sIn sKy; simp [show sspl B t 2 = true from hc32]
          refine z_aload_n (pc := 80) C dX12_mustName_80 0 rfl ?_
          refine z_iconst (pc := 81) C dX12_mustName_81 (nI 1) (by decide) ?_
          refine z_aload_n (pc := 82) C dX12_mustName_82 0 rfl ?_
          refine z_getf (pc := 83) C dX12_mustName_83 fX12_75 (by assumption) (by first | rfl | assumption) ?_
          refine z_top m2 ?_
          refine z_cV0 (pc := 86) mX12_wrong C [_, _] dX12_mustName_86 lX12_121 mtX12_wrong (tX12_wrongY hM hf) (by assumption) rfl rfl (by decide) (Nat.le_of_ble_eq_true rfl) (Nat.zero_le _) (Nat.zero_le _) ?_
          refine z_vret (pc := 89) C dX12_mustName_89 rfl (Nat.zero_le _) (Nat.zero_le _) ⟨rfl, ?_, rfl⟩
          unfold sMn0; rw [ei]; first | exact ⟨⟨v, ⟨hS, hf⟩, rW.rf v⟩, rF.rf h⟩ | exact ⟨⟨_, MF.of hS _ _, MX.w _ _ _⟩, rF.up _ _⟩
        · skip
          refine z_aload_n (pc := 35) C dX12_mustName_35 0 rfl ?_
          refine z_ldcS (pc := 36) (ix := 130) (i := 3) (tx := "man") C dX12_mustName_36 (show (RX12, 130, "man", 3) ∈ zSR by simp [zSR]) ?_
          refine z_cV1 (pc := 38) mX12_isWord C [_] dX12_mustName_38 lX12_111 mtX12_isWord (tX12_isWord (b0 := false) hS hf (by decide)) (by assumption) rfl rfl (by decide) (Nat.le_of_ble_eq_true rfl) (Nat.zero_le _) (Nat.zero_le _) ?_
          first | refine z_ifneB (pc := 41) C 80 dX12_mustName_41 (by decide) (fun hc41 => ?_) (fun hc41 => ?_) | refine z_ifneN (pc := 41) C 80 dX12_mustName_41 (by decide) (by omega) (fun hc41 => ?_) (fun hc41 => ?_) | refine z_if_ne (pc := 41) C 80 dX12_mustName_41 (by decide) (fun hc41 => ?_) (fun hc41 => ?_)
          · skip
            have ei : sIn B t = false := by unfold sIn sKy; simp [show sspl B t 3 = true from hc41]
            refine z_aload_n (pc := 80) C dX12_mustName_80 0 rfl ?_
            refine z_iconst (pc := 81) C dX12_mustName_81 (nI 1) (by decide) ?_
            refine z_aload_n (pc := 82) C dX12_mustName_82 0 rfl ?_
            refine z_getf (pc := 83) C dX12_mustName_83 fX12_75 (by assumption) (by first | rfl | assumption) ?_
            refine z_top m2 ?_
            refine z_cV0 (pc := 86) mX12_wrong C [_, _] dX12_mustName_86 lX12_121 mtX12_wrong (tX12_wrongY hM hf) (by assumption) rfl rfl (by decide) (Nat.le_of_ble_eq_true rfl) (Nat.zero_le _) (Nat.zero_le _) ?_
            refine z_vret (pc := 89) C dX12_mustName_89 rfl (Nat.zero_le _) (Nat.zero_le _) ⟨rfl, ?_, rfl⟩
            unfold sMn0; rw [ei]; first | exact ⟨⟨v, ⟨hS, hf⟩, rW.rf v⟩, rF.rf h⟩ | exact ⟨⟨_, MF.of hS _ _, MX.w _ _ _⟩, rF.up _ _⟩
          · skip
            refine z_aload_n (pc := 44) C dX12_mustName_44 0 rfl ?_
            refine z_ldcS (pc := 45) (ix := 132) (i := 6) (tx := "walk") C dX12_mustName_45 (show (RX12, 132, "walk", 6) ∈ zSR by simp [zSR]) ?_
            refine z_cV1 (pc := 47) mX12_isWord C [_] dX12_mustName_47 lX12_111 mtX12_isWord (tX12_isWord (b0 := false) hS hf (by decide)) (by assumption) rfl rfl (by decide) (Nat.le_of_ble_eq_true rfl) (Nat.zero_le _) (Nat.zero_le _) ?_
            first | refine z_ifneB (pc := 50) C 80 dX12_mustName_50 (by decide) (fun hc50 => ?_) (fun hc50 => ?_) | refine z_ifneN (pc := 50) C 80 dX12_mustName_50 (by decide) (by omega) (fun hc50 => ?_) (fun hc50 => ?_) | refine z_if_ne (pc := 50) C 80 dX12_mustName_50 (by decide) (fun hc50 => ?_) (fun hc50 => ?_)
            · skip
              have ei : sIn B t = false := by unfold sIn sKy; simp [show sspl B t 6 = true from hc50]
              refine z_aload_n (pc := 80) C dX12_mustName_80 0 rfl ?_
              refine z_iconst (pc := 81) C dX12_mustName_81 (nI 1) (by decide) ?_
              refine z_aload_n (pc := 82) C dX12_mustName_82 0 rfl ?_
              refine z_getf (pc := 83) C dX12_mustName_83 fX12_75 (by assumption) (by first | rfl | assumption) ?_
              refine z_top m2 ?_
              refine z_cV0 (pc := 86) mX12_wrong C [_, _] dX12_mustName_86 lX12_121 mtX12_wrong (tX12_wrongY hM hf) (by assumption) rfl rfl (by decide) (Nat.le_of_ble_eq_true rfl) (Nat.zero_le _) (Nat.zero_le _) ?_
              refine z_vret (pc := 89) C dX12_mustName_89 rfl (Nat.zero_le _) (Nat.zero_le _) ⟨rfl, ?_, rfl⟩
              unfold sMn0; rw [ei]; first | exact ⟨⟨v, ⟨hS, hf⟩, rW.rf v⟩, rF.rf h⟩ | exact ⟨⟨_, MF.of hS _ _, MX.w _ _ _⟩, rF.up _ _⟩
            · skip
              refine z_aload_n (pc := 53) C dX12_mustName_53 0 rfl ?_
              refine z_ldcS (pc := 54) (ix := 134) (i := 4) (tx := "kill") C dX12_mustName_54 (show (RX12, 134, "kill", 4) ∈ zSR by simp [zSR]) ?_
              refine z_cV1 (pc := 56) mX12_isWord C [_] dX12_mustName_56 lX12_111 mtX12_isWord (tX12_isWord (b0 := false) hS hf (by decide)) (by assumption) rfl rfl (by decide) (Nat.le_of_ble_eq_true rfl) (Nat.zero_le _) (Nat.zero_le _) ?_
              first | refine z_ifneB (pc := 59) C 80 dX12_mustName_59 (by decide) (fun hc59 => ?_) (fun hc59 => ?_) | refine z_ifneN (pc := 59) C 80 dX12_mustName_59 (by decide) (by omega) (fun hc59 => ?_) (fun hc59 => ?_) | refine z_if_ne (pc := 59) C 80 dX12_mustName_59 (by decide) (fun hc59 => ?_) (fun hc59 => ?_)
              · skip
                have ei : sIn B t = false := by unfold sIn sKy; simp [show sspl B t 4 = true from hc59]
                refine z_aload_n (pc := 80) C dX12_mustName_80 0 rfl ?_
                refine z_iconst (pc := 81) C dX12_mustName_81 (nI 1) (by decide) ?_
                refine z_aload_n (pc := 82) C dX12_mustName_82 0 rfl ?_
                refine z_getf (pc := 83) C dX12_mustName_83 fX12_75 (by assumption) (by first | rfl | assumption) ?_
                refine z_top m2 ?_
                refine z_cV0 (pc := 86) mX12_wrong C [_, _] dX12_mustName_86 lX12_121 mtX12_wrong (tX12_wrongY hM hf) (by assumption) rfl rfl (by decide) (Nat.le_of_ble_eq_true rfl) (Nat.zero_le _) (Nat.zero_le _) ?_
                refine z_vret (pc := 89) C dX12_mustName_89 rfl (Nat.zero_le _) (Nat.zero_le _) ⟨rfl, ?_, rfl⟩
                unfold sMn0; rw [ei]; first | exact ⟨⟨v, ⟨hS, hf⟩, rW.rf v⟩, rF.rf h⟩ | exact ⟨⟨_, MF.of hS _ _, MX.w _ _ _⟩, rF.up _ _⟩
              · skip
                refine z_aload_n (pc := 62) C dX12_mustName_62 0 rfl ?_
                refine z_ldcS (pc := 63) (ix := 136) (i := 7) (tx := "taken") C dX12_mustName_63 (show (RX12, 136, "taken", 7) ∈ zSR by simp [zSR]) ?_
                refine z_cV1 (pc := 65) mX12_isWord C [_] dX12_mustName_65 lX12_111 mtX12_isWord (tX12_isWord (b0 := false) hS hf (by decide)) (by assumption) rfl rfl (by decide) (Nat.le_of_ble_eq_true rfl) (Nat.zero_le _) (Nat.zero_le _) ?_
                first | refine z_ifneB (pc := 68) C 80 dX12_mustName_68 (by decide) (fun hc68 => ?_) (fun hc68 => ?_) | refine z_ifneN (pc := 68) C 80 dX12_mustName_68 (by decide) (by omega) (fun hc68 => ?_) (fun hc68 => ?_) | refine z_if_ne (pc := 68) C 80 dX12_mustName_68 (by decide) (fun hc68 => ?_) (fun hc68 => ?_)
                · skip
                  have ei : sIn B t = false := by unfold sIn sKy; simp [show sspl B t 7 = true from hc68]
                  refine z_aload_n (pc := 80) C dX12_mustName_80 0 rfl ?_
                  refine z_iconst (pc := 81) C dX12_mustName_81 (nI 1) (by decide) ?_
                  refine z_aload_n (pc := 82) C dX12_mustName_82 0 rfl ?_
                  refine z_getf (pc := 83) C dX12_mustName_83 fX12_75 (by assumption) (by first | rfl | assumption) ?_
                  refine z_top m2 ?_
                  refine z_cV0 (pc := 86) mX12_wrong C [_, _] dX12_mustName_86 lX12_121 mtX12_wrong (tX12_wrongY hM hf) (by assumption) rfl rfl (by decide) (Nat.le_of_ble_eq_true rfl) (Nat.zero_le _) (Nat.zero_le _) ?_
                  refine z_vret (pc := 89) C dX12_mustName_89 rfl (Nat.zero_le _) (Nat.zero_le _) ⟨rfl, ?_, rfl⟩
                  unfold sMn0; rw [ei]; first | exact ⟨⟨v, ⟨hS, hf⟩, rW.rf v⟩, rF.rf h⟩ | exact ⟨⟨_, MF.of hS _ _, MX.w _ _ _⟩, rF.up _ _⟩
                · skip
                  refine z_aload_n (pc := 71) C dX12_mustName_71 0 rfl ?_
                  refine z_ldcS (pc := 72) (ix := 138) (i := 5) (tx := "stray") C dX12_mustName_72 (show (RX12, 138, "stray", 5) ∈ zSR by simp [zSR]) ?_
                  refine z_cV1 (pc := 74) mX12_isWord C [_] dX12_mustName_74 lX12_111 mtX12_isWord (tX12_isWord (b0 := false) hS hf (by decide)) (by assumption) rfl rfl (by decide) (Nat.le_of_ble_eq_true rfl) (Nat.zero_le _) (Nat.zero_le _) ?_
                  first | refine z_ifeqB (pc := 77) C 89 dX12_mustName_77 (by decide) (fun hc77 => ?_) (fun hc77 => ?_) | refine z_ifeqN (pc := 77) C 89 dX12_mustName_77 (by decide) (by omega) (fun hc77 => ?_) (fun hc77 => ?_) | refine z_if_eq (pc := 77) C 89 dX12_mustName_77 (by decide) (fun hc77 => ?_) (fun hc77 => ?_)
                  · skip
                    have ei : sIn B t = true := by unfold sIn sKy; rw [decide_eq_true (mtk_2.mp hc5), show sspl B t 0 = false from hc14, show sspl B t 1 = false from hc23, show sspl B t 2 = false from hc32, show sspl B t 3 = false from hc41, show sspl B t 6 = false from hc50, show sspl B t 4 = false from hc59, show sspl B t 7 = false from hc68, show sspl B t 5 = false from hc77]; rfl
                    refine z_vret (pc := 89) C dX12_mustName_89 rfl (Nat.zero_le _) (Nat.zero_le _) ⟨rfl, ?_, rfl⟩
                    unfold sMn0; rw [ei]; first | exact ⟨⟨v, ⟨hS, hf⟩, rW.rf v⟩, rF.rf h⟩ | exact ⟨⟨_, MF.of hS _ _, MX.w _ _ _⟩, rF.up _ _⟩
                  · skip
                    have ei : sIn B t = false := by unfold sIn sKy; simp [show sspl B t 5 = true from hc77]
                    refine z_aload_n (pc := 80) C dX12_mustName_80 0 rfl ?_
                    refine z_iconst (pc := 81) C dX12_mustName_81 (nI 1) (by decide) ?_
                    refine z_aload_n (pc := 82) C dX12_mustName_82 0 rfl ?_
                    refine z_getf (pc := 83) C dX12_mustName_83 fX12_75 (by assumption) (by first | rfl | assumption) ?_
                    refine z_top m2 ?_
                    refine z_cV0 (pc := 86) mX12_wrong C [_, _] dX12_mustName_86 lX12_121 mtX12_wrong (tX12_wrongY hM hf) (by assumption) rfl rfl (by decide) (Nat.le_of_ble_eq_true rfl) (Nat.zero_le _) (Nat.zero_le _) ?_
                    refine z_vret (pc := 89) C dX12_mustName_89 rfl (Nat.zero_le _) (Nat.zero_le _) ⟨rfl, ?_, rfl⟩
                    unfold sMn0; rw [ei]; first | exact ⟨⟨v, ⟨hS, hf⟩, rW.rf v⟩, rF.rf h⟩ | exact ⟨⟨_, MF.of hS _ _, MX.w _ _ _⟩, rF.up _ _⟩

set_option maxRecDepth 20000 in
set_option maxHeartbeats 1000000 in
theorem tX12_newNameN {h : ZH} {v : Nat → Int32} {x : Int32} (hM : h 1063 = some (zO 8 (mfs v))) (hf : v 13 = zb true) : ZD mX12_newName 6 [.ref 1063, .int x] h none h := by
  intro n
  refine z_enter (lv := [(0, _), (1, _)]) (by decide) (Nat.le_of_ble_eq_true rfl) rfl (fun X C => ?_)
  refine z_aload_n (pc := 0) C dX12_newName_0 0 rfl ?_
  refine z_getf (pc := 1) C dX12_newName_1 fX12_94 (by assumption) (by first | rfl | assumption) ?_
  rw [hf]
  first | refine z_ifeqB (pc := 4) C 8 dX12_newName_4 (by decide) (fun hc4 => ?_) (fun hc4 => ?_) | refine z_ifeqN (pc := 4) C 8 dX12_newName_4 (by decide) (by omega) (fun hc4 => ?_) (fun hc4 => ?_) | refine z_if_eq (pc := 4) C 8 dX12_newName_4 (by decide) (fun hc4 => ?_) (fun hc4 => ?_)
  · cases hc4
  · skip
    refine z_vret (pc := 7) C dX12_newName_7 rfl (Nat.zero_le _) (Nat.zero_le _) ⟨?_, ?_, rfl⟩
    · rfl
    · rfl

set_option maxRecDepth 20000 in
set_option maxHeartbeats 1000000 in
theorem tX12_newNameY {h : ZH} {v : Nat → Int32} {B R : Nat → Nat} {n0 : Nat} {t : Nat × Nat × Nat} {x : Nat} (hS : MS h v B n0 t) (hf : v 13 = zb false) (hR7 : h 1067 = some (zI 241 R)) (hRb : ∀ j, j < 241 → R j < 2147483648) (hx : x < 20) : ZQ0 mX12_newName 6 [.ref 1063, .int (nI x)] h (fun hh => (∃ v', MO hh v' B n0 (sNw R B n0 t) ∧ rW v v') ∧ (∃ R2, hh 1067 = some (zI 241 R2) ∧ (oF (sNw R B n0 t) = false → R2 = snm R B t x)) ∧ ∀ a, a ≠ 1063 → a ≠ 1065 → a ≠ 1067 → hh a = h a) := by
  intro n
  have hM := hS.1
  refine z_enter (lv := [(0, _), (1, _)]) (by decide) (Nat.le_of_ble_eq_true rfl) rfl (fun X C => ?_)
  refine z_aload_n (pc := 0) C dX12_newName_0 0 rfl ?_
  refine z_getf (pc := 1) C dX12_newName_1 fX12_94 (by assumption) (by first | rfl | assumption) ?_
  rw [hf]
  first | refine z_ifeqB (pc := 4) C 8 dX12_newName_4 (by decide) (fun hc4 => ?_) (fun hc4 => ?_) | refine z_ifeqN (pc := 4) C 8 dX12_newName_4 (by decide) (by omega) (fun hc4 => ?_) (fun hc4 => ?_) | refine z_if_eq (pc := 4) C 8 dX12_newName_4 (by decide) (fun hc4 => ?_) (fun hc4 => ?_)
  · skip
    refine z_aload_n (pc := 8) C dX12_newName_8 0 rfl ?_
    refine z_cV0Q (pc := 9) mX12_mustName C [] dX12_newName_9 lX12_140 mtX12_mustName (tX12_mustName hS hf) hM rfl rfl (by decide) (Nat.le_of_ble_eq_true rfl) (Nat.zero_le _) (Nat.zero_le _) ?_
    rintro h1 ⟨⟨v1, hO1, hV1⟩, F1⟩
    have hM1 := hO1.m
    have f1 := hO1.f
    have hR1 : h1 1067 = _ := (F1 1067 (by decide) (by decide)).trans hR7
    have f2 := f1
    have hM2 := hM1
    refine z_aload_n (pc := 12) C dX12_newName_12 0 rfl ?_
    refine z_getf (pc := 13) C dX12_newName_13 fX12_94 hM1 (by first | rfl | assumption) ?_
    rw [f1]
    first | refine z_ifneB (pc := 16) C 35 dX12_newName_16 (by decide) (fun hc16 => ?_) (fun hc16 => ?_) | refine z_ifneN (pc := 16) C 35 dX12_newName_16 (by decide) (by omega) (fun hc16 => ?_) (fun hc16 => ?_) | refine z_if_ne (pc := 16) C 35 dX12_newName_16 (by decide) (fun hc16 => ?_) (fun hc16 => ?_)
    · skip
      obtain ⟨e, he⟩ := oF_t hc16
      have es : sNw R B n0 t = sMn0 B t := by unfold sNw; unfold sMn0 at he ⊢; by_cases z : sIn B t = true; (rw [if_pos z] at he; cases he); rw [if_neg z, if_neg z]
      refine z_aload_n (pc := 35) C dX12_newName_35 0 rfl ?_
      refine z_getf (pc := 36) C dX12_newName_36 fX12_94 hM2 (by first | rfl | assumption) ?_
      rw [f2]
      first | refine z_ifeqB (pc := 39) C 43 dX12_newName_39 (by decide) (fun hc39 => ?_) (fun hc39 => ?_) | refine z_ifeqN (pc := 39) C 43 dX12_newName_39 (by decide) (by omega) (fun hc39 => ?_) (fun hc39 => ?_) | refine z_if_eq (pc := 39) C 43 dX12_newName_39 (by decide) (fun hc39 => ?_) (fun hc39 => ?_)
      · rw [he] at hc39; cases hc39
      · skip
        refine z_vret (pc := 42) C dX12_newName_42 rfl (Nat.zero_le _) (Nat.zero_le _) ⟨rfl, ?_, rfl⟩
        rw [es]; first | exact ⟨⟨v2, hO2, hV1.tr hV2⟩, ⟨R, (F2 1067 (by decide) (by decide)).trans hR1, fun z => by cases z⟩, fun a q1 q2 q3 => (F2 a q1 q2).trans (F1 a q1 q2)⟩ | exact ⟨⟨v1, hO1, hV1⟩, ⟨R, hR1, fun z => by rw [hc16] at z; cases z⟩, fun a q1 q2 q3 => F1 a q1 q2⟩
    · skip
      have ei : sIn B t = true := by
        cases z : sIn B t with
        | true => rfl
        | false => unfold sMn0 at hc16; rw [z] at hc16; cases hc16
      have eo : sMn0 B t = .inl t := by unfold sMn0; rw [if_pos ei]
      rw [eo] at hO1 f1 f2
      obtain ⟨hS1, hf1⟩ := id hO1
      obtain ⟨-, -, -, hk, L, h5, m1, m2, m3, m4, m5⟩ := id hS1
      obtain ⟨t1, t2, t3, t4, t5, t6, t7, t8, t9⟩ := id hk
      have hw : t.1 = 1 := by unfold sIn at ei; simp at ei; exact ei.1
      obtain ⟨n1, n2⟩ := m4 hw
      obtain ⟨w1, w2, w3⟩ := t7 hw
      refine z_aload_n (pc := 19) C dX12_newName_19 0 rfl ?_
      refine z_cV1 (pc := 20) mX12_find C [] dX12_newName_20 lX12_143 mtX12_find (tX12_find hS1 hR1 hw hRb) hM1 rfl rfl (by decide) (Nat.le_of_ble_eq_true rfl) (Nat.zero_le _) (Nat.zero_le _) ?_
      refine z_if_lt (pc := 23) C 35 dX12_newName_23 (by decide) (fun hc23 => ?_) (fun hc23 => ?_)
      · skip
        have en : sfnd R B t = none := by
          cases z : sfnd R B t with
          | none => rfl
          | some y => rw [z] at hc23; have := sfnd_lt z; exact absurd hc23 (nI_pos (by omega))
        have es : sNw R B n0 t = .inl (sNx B n0 t) := by unfold sNw; rw [if_pos ei, if_pos en]
        refine z_aload_n (pc := 35) C dX12_newName_35 0 rfl ?_
        refine z_getf (pc := 36) C dX12_newName_36 fX12_94 hM2 (by first | rfl | assumption) ?_
        rw [f2]
        first | refine z_ifeqB (pc := 39) C 43 dX12_newName_39 (by decide) (fun hc39 => ?_) (fun hc39 => ?_) | refine z_ifeqN (pc := 39) C 43 dX12_newName_39 (by decide) (by omega) (fun hc39 => ?_) (fun hc39 => ?_) | refine z_if_eq (pc := 39) C 43 dX12_newName_39 (by decide) (fun hc39 => ?_) (fun hc39 => ?_)
        · skip
          refine z_iconst (pc := 43) C dX12_newName_43 (nI 0) (by decide) ?_
          refine z_istore_n (pc := 44) (lv' := [(2, _), (0, _), (1, _)]) C dX12_newName_44 (by decide) rfl ?_
          refine z_sub (lv' := [(0, _), (1, _), (2, _)]) [1, 2, 0] rfl ?_
          have lp45 : ∀ (f : Nat) (j : Nat) (h3 : ZH), (j + f = (t.2.2 - t.2.1) ∧ h3 1067 = some (zI 241 (ncpy B R t.2.1 (81 + 8 * x) j)) ∧ ∀ a, a ≠ 1067 → h3 a = h1 a) → Zc X mX12_newName (zEnd X (fun r hh n' => r = none ∧ ((∃ v', MO hh v' B n0 (sNw R B n0 t) ∧ rW v v') ∧ (∃ R2, hh 1067 = some (zI 241 R2) ∧ (oF (sNw R B n0 t) = false → R2 = snm R B t x)) ∧ ∀ a, a ≠ 1063 → a ≠ 1065 → a ≠ 1067 → hh a = h a) ∧ n' = n) 0 0) 45 [(0, .ref 1063), (1, .int (nI x)), (2, .int (nI j))] [] h3 n 0 0 := by
            intro f
            induction f using Nat.strongRecOn with
            | _ f ih =>
              intro j h3 hk2
              obtain ⟨hk2, q7, F3⟩ := hk2
              have hM3 : h3 1063 = _ := (F3 _ (by decide)).trans hM1
              have h53 : h3 1065 = _ := (F3 _ (by decide)).trans h5
              refine z_iload_n (pc := 45) C dX12_newName_45 2 rfl ?_
              refine z_aload_n (pc := 46) C dX12_newName_46 0 rfl ?_
              refine z_getf (pc := 47) C dX12_newName_47 fX12_78 hM3 (by first | rfl | assumption) ?_
              refine z_top n1 ?_
              first | refine z_icmpgeN (pc := 50) C 79 dX12_newName_50 (by decide) (by omega) (by omega) (fun hc50 => ?_) (fun hc50 => ?_) | refine z_icmp_ge (pc := 50) C 79 dX12_newName_50 (by decide) (fun hc50 => ?_) (fun hc50 => ?_)
              · skip
                refine z_aload_n (pc := 79) C dX12_newName_79 0 rfl ?_
                refine z_getf (pc := 80) C dX12_newName_80 fX12_23 hM3 (by first | rfl | assumption) ?_
                refine z_bipush (pc := 83) C dX12_newName_83 (nI 61) (by decide) ?_
                refine z_iload_n (pc := 85) C dX12_newName_85 1 rfl ?_
                first | refine z_iaddN (pc := 86) C dX12_newName_86 ?_ | refine z_iadd (pc := 86) C dX12_newName_86 ?_
                refine z_aload_n (pc := 87) C dX12_newName_87 0 rfl ?_
                refine z_getf (pc := 88) C dX12_newName_88 fX12_78 hM3 (by first | rfl | assumption) ?_
                refine z_top n1 ?_
                first | refine z_iastN (pc := 91) C dX12_newName_91 q7 (by omega) (by decide) ?_ | refine z_iastI (pc := 91) C dX12_newName_91 q7 (by omega) (by decide) ?_
                obtain rfl : j = t.2.2 - t.2.1 := (by omega)
                have hM4 : zup h3 1067 (zI 241 (snm R B t x)) 1063 = _ := (zup_ne (by decide)).trans hM3
                have hS4 : MS (zup h3 1067 (zI 241 (snm R B t x))) v1 B n0 t := by
                  obtain ⟨-, a3, a4, ak, aL, a5, am⟩ := id hS1
                  exact ⟨hM4, a3, (zup_ne (by decide)).trans ((F3 _ (by decide)).trans a4), ak, aL, (zup_ne (by decide)).trans ((F3 _ (by decide)).trans a5), am⟩
                show Zc X _ _ _ _ _ (zup h3 1067 (zI 241 (snm R B t x))) _ _ _
                refine z_aload_n (pc := 92) C dX12_newName_92 0 rfl ?_
                refine z_cV0Q (pc := 93) mX12_goOn C [] dX12_newName_93 lX12_115 mtX12_goOn (tX12_goOnQ hS4 (by rw [hw]; decide)) hM4 rfl rfl (by decide) (Nat.le_of_ble_eq_true rfl) (Nat.zero_le _) (Nat.zero_le _) ?_
                rintro h5a ⟨⟨v5, hS5, hV5⟩, F5⟩
                refine z_vret (pc := 96) C dX12_newName_96 rfl (Nat.zero_le _) (Nat.zero_le _) ⟨rfl, ?_, rfl⟩
                rw [es]; exact ⟨⟨v5, ⟨hS5, (hV5 13 (by decide)).trans hf1⟩, hV1.tr hV5.w⟩, ⟨_, (F5 1067 (by decide) (by decide)).trans (zup_same _ _ _), fun _ => rfl⟩, fun a q1 q2 q3 => (F5 a q1 q2).trans ((zup_ne q3).trans ((F3 a q3).trans (F1 a q1 q2)))⟩
              · skip
                refine z_aload_n (pc := 53) C dX12_newName_53 0 rfl ?_
                refine z_getf (pc := 54) C dX12_newName_54 fX12_23 hM3 (by first | rfl | assumption) ?_
                refine z_bipush (pc := 57) C dX12_newName_57 (nI 81) (by decide) ?_
                refine z_bipush (pc := 59) C dX12_newName_59 (nI 8) (by decide) ?_
                refine z_iload_n (pc := 61) C dX12_newName_61 1 rfl ?_
                first | refine z_imulN (pc := 62) C dX12_newName_62 ?_ | refine z_imul (pc := 62) C dX12_newName_62 ?_
                first | refine z_iaddN (pc := 63) C dX12_newName_63 ?_ | refine z_iadd (pc := 63) C dX12_newName_63 ?_
                refine z_iload_n (pc := 64) C dX12_newName_64 2 rfl ?_
                first | refine z_iaddN (pc := 65) C dX12_newName_65 ?_ | refine z_iadd (pc := 65) C dX12_newName_65 ?_
                refine z_aload_n (pc := 66) C dX12_newName_66 0 rfl ?_
                refine z_getf (pc := 67) C dX12_newName_67 fX12_17 hM3 (by first | rfl | assumption) ?_
                refine z_iload_n (pc := 70) C dX12_newName_70 2 rfl ?_
                first | refine z_ialdN (pc := 71) C dX12_newName_71 h53 (by omega) (by decide) ?_ | refine z_ialdI (pc := 71) C dX12_newName_71 h53 (by omega) (by decide) ?_
                first | refine z_iastN (pc := 72) C dX12_newName_72 q7 (by omega) (by decide) ?_ | refine z_iastI (pc := 72) C dX12_newName_72 q7 (by omega) (by decide) ?_
                first | refine z_iincN (pc := 73) (lv' := [(2, _), (0, _), (1, _)]) C 1 dX12_newName_73 2 rfl (by decide) (by decide) rfl ?_ | refine z_iinc (pc := 73) (lv' := [(2, _), (0, _), (1, _)]) C dX12_newName_73 2 rfl _ rfl (by decide) rfl ?_
                refine z_goto (pc := 76) C 45 dX12_newName_76 (by decide) ?_
                refine z_sub (lv' := [(0, _), (1, _), (2, _)]) [1, 2, 0] rfl ?_
                exact ih (f - 1) (by omega) (j + 1) _ ⟨by omega, by rw [← ncpy_s, n2 j (by omega)]; exact zup_same _ _ _, fun a q => (zup_ne q).trans (F3 a q)⟩
          exact lp45 (t.2.2 - t.2.1) 0 h1 ⟨by omega, by rw [ncpy_0]; exact hR1, fun _ _ => rfl⟩
        · cases hc39
      · skip
        have en : ¬ sfnd R B t = none := fun z => by rw [z] at hc23; exact hc23 (by decide)
        have es : sNw R B n0 t = .inr (3, t.2.1) := by unfold sNw; rw [if_pos ei, if_neg en]
        refine z_aload_n (pc := 26) C dX12_newName_26 0 rfl ?_
        refine z_iconst (pc := 27) C dX12_newName_27 (nI 3) (by decide) ?_
        refine z_aload_n (pc := 28) C dX12_newName_28 0 rfl ?_
        refine z_getf (pc := 29) C dX12_newName_29 fX12_75 hM1 (by first | rfl | assumption) ?_
        refine z_top m2 ?_
        refine z_cV0Q (pc := 32) mX12_wrong C [_, _] dX12_newName_32 lX12_121 mtX12_wrong (tX12_wrongO (f := 3) hO1 (fun t9 ht9 => by cases ht9; rfl)) hM1 rfl rfl (by decide) (Nat.le_of_ble_eq_true rfl) (Nat.zero_le _) (Nat.zero_le _) ?_
        rintro h2 ⟨⟨v2, hO2, hV2⟩, F2⟩
        have f2 := hO2.f
        have hM2 := hO2.m
        refine z_aload_n (pc := 35) C dX12_newName_35 0 rfl ?_
        refine z_getf (pc := 36) C dX12_newName_36 fX12_94 hM2 (by first | rfl | assumption) ?_
        rw [f2]
        first | refine z_ifeqB (pc := 39) C 43 dX12_newName_39 (by decide) (fun hc39 => ?_) (fun hc39 => ?_) | refine z_ifeqN (pc := 39) C 43 dX12_newName_39 (by decide) (by omega) (fun hc39 => ?_) (fun hc39 => ?_) | refine z_if_eq (pc := 39) C 43 dX12_newName_39 (by decide) (fun hc39 => ?_) (fun hc39 => ?_)
        · cases hc39
        · skip
          refine z_vret (pc := 42) C dX12_newName_42 rfl (Nat.zero_le _) (Nat.zero_le _) ⟨rfl, ?_, rfl⟩
          rw [es]; first | exact ⟨⟨v2, hO2, hV1.tr hV2⟩, ⟨R, (F2 1067 (by decide) (by decide)).trans hR1, fun z => by cases z⟩, fun a q1 q2 q3 => (F2 a q1 q2).trans (F1 a q1 q2)⟩ | exact ⟨⟨v1, hO1, hV1⟩, ⟨R, hR1, fun z => by rw [hc16] at z; cases z⟩, fun a q1 q2 q3 => F1 a q1 q2⟩
  · cases hc4
