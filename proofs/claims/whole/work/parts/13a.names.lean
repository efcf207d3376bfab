theorem lcq {x y : Int64} : lg_cmp x y = 0 ↔ x = y := by
  unfold lg_cmp
  constructor
  · intro z
    split at z
    · cases z
    · split at z
      · assumption
      · cases z
  · rintro rfl
    rw [if_neg (Int64.lt_irrefl), if_pos rfl]
theorem nup_lN (f : Nat → Nat) (k v : Nat) : vp_updL (fun i => lN (f i)) k (lN v) = fun i => lN (nup f k v i) := by
  funext j
  by_cases h : j = k <;> simp [vp_updL, nup, h]
theorem let31 {x : Nat} (h : 97 ≤ x ∧ x ≤ 122) : x &&& 31 = x - 96 := by
  rw [show (31 : Nat) = 2 ^ 5 - 1 from rfl, Nat.and_two_pow_sub_one_eq_mod]
  omega
theorem scd_inj : ∀ (k m : Nat) (f g : Nat → Nat), (∀ j, j < k → 97 ≤ f j ∧ f j ≤ 122) → (∀ j, j < m → 97 ≤ g j ∧ g j ≤ 122) → scd f k = scd g m → k = m ∧ ∀ j, j < k → f j = g j := by
  intro k
  induction k with
  | zero =>
    intro m f g hf hg e
    cases m with
    | zero => exact ⟨rfl, fun j hj => absurd hj (Nat.not_lt_zero j)⟩
    | succ m =>
      have := let31 (hg m (by omega))
      have := hg m (by omega)
      rw [scd, scd] at e
      omega
  | succ k ih =>
    intro m f g hf hg e
    have a1 := let31 (hf k (by omega))
    have a2 := hf k (by omega)
    cases m with
    | zero => rw [scd, scd] at e; omega
    | succ m =>
      have b1 := let31 (hg m (by omega))
      have b2 := hg m (by omega)
      rw [scd, scd, a1, b1] at e
      obtain ⟨rfl, h2⟩ := ih m f g (fun j hj => hf j (by omega)) (fun j hj => hg j (by omega)) (by omega)
      refine ⟨rfl, fun j hj => ?_⟩
      by_cases q : j = k
      · subst q; omega
      · exact h2 j (by omega)
theorem scd_congr {f g : Nat → Nat} : ∀ k, (∀ j, j < k → f j = g j) → scd f k = scd g k := by
  intro k
  induction k with
  | zero => intro _; rfl
  | succ k ih => intro h; rw [scd, scd, ih (fun j hj => h j (by omega)), h k (by omega)]
theorem scd_lt {f : Nat → Nat} : ∀ k, scd f k < 32 ^ k := by
  intro k
  induction k with
  | zero => exact Nat.one_pos
  | succ k ih =>
    have h1 : f k &&& 31 < 32 := by
      rw [show (31 : Nat) = 2 ^ 5 - 1 from rfl, Nat.and_two_pow_sub_one_eq_mod]
      exact Nat.mod_lt _ (by decide)
    rw [scd, Nat.pow_succ]
    omega
theorem scd_63 {f : Nat → Nat} {k : Nat} (hk : k ≤ 8) : scd f k < 2 ^ 63 := by
  have h1 := scd_lt (f := f) k
  have h2 : 32 ^ k ≤ 32 ^ 8 := Nat.pow_le_pow_right (by decide) hk
  have h3 : (32 : Nat) ^ 8 < 2 ^ 63 := by decide
  omega
def nSo (x : Nat) : Nat := if x < 7 then 1 else if x < 11 then 3 else if x < 17 then 4 else 5
def nNu (x : Nat) : Nat := if x < 7 then x else if x < 11 then x - 7 else if x < 17 then x - 11 else x - 17
def wCd (B : Nat → Nat) (t : Nat × Nat × Nat) : Nat := scd (fun j => B (t.2.1 + j)) (t.2.2 - t.2.1)
def nCd (R : Nat → Nat) (x : Nat) : Nat := scd (fun j => R (81 + 8 * x + j)) (R (61 + x))
def kCd (i : Nat) : Nat := scd (zCh i) (zLen i)
/-- the table of names against R -/
def NTp (R c so nu ix : Nat → Nat) (nc : Nat) : Prop := 8 ≤ nc ∧ nc = 8 + R 1 + R 3 + R 4 + R 5 ∧ (∀ i, i < 8 → c i = kCd i ∧ so i = 0 ∧ nu i = 0) ∧ (∀ i, 8 ≤ i → i < nc → ix i < 20 ∧ rTo R (ix i) ∧ c i = nCd R (ix i) ∧ so i = nSo (ix i) ∧ nu i = nNu (ix i)) ∧ (∀ x, x < 20 → rTo R x → ∃ i, 8 ≤ i ∧ i < nc ∧ ix i = x) ∧ ∀ i j, i < nc → j < nc → c i = c j → i = j
def NT (h : ZH) (R c so nu : Nat → Nat) : Prop := h 1004 = some (zL 28 (fun i => lN (c i))) ∧ h 1005 = some (zI 28 so) ∧ h 1006 = some (zI 28 nu)
def sEn (c : Nat → Nat) (nc : Nat) (B : Nat → Nat) (t : Nat × Nat × Nat) : Option Nat := if t.1 = 1 then sfst (fun i => decide (c i = wCd B t)) nc 0 else none
theorem kw_ok : ∀ i : Fin 8, zLen i.val ≤ 8 ∧ 0 < zLen i.val ∧ ∀ j : Fin 8, j.val < zLen i.val → 97 ≤ zCh i.val j.val ∧ zCh i.val j.val ≤ 122 := by decide
theorem kw_b {i j : Nat} (hi : i < 8) (hj : j < zLen i) : 97 ≤ zCh i j ∧ zCh i j ≤ 122 := by
  have h := kw_ok ⟨i, hi⟩
  have h1 : zLen i ≤ 8 := h.1
  exact h.2.2 ⟨j, by omega⟩ hj
theorem kw_spl {B : Nat → Nat} {n i : Nat} {t : Nat × Nat × Nat} (hk : sTk B n t) (hw : t.1 = 1) (hi : i < 8) : kCd i = wCd B t ↔ sspl B t i = true := by
  obtain ⟨-, -, -, -, -, -, t7, -⟩ := hk
  obtain ⟨w1, w2, w3⟩ := t7 hw
  unfold sspl
  rw [decide_eq_true_iff]
  constructor
  · intro e
    obtain ⟨a, b⟩ := scd_inj _ _ _ _ (fun j hj => kw_b hi hj) w3 e
    exact ⟨hw, a, fun j hj => (b j hj).symm⟩
  · rintro ⟨-, a, b⟩
    unfold kCd wCd
    rw [← a]
    exact scd_congr _ (fun j hj => (b j hj).symm)
theorem nm_spl {R B : Nat → Nat} {n x : Nat} {t : Nat × Nat × Nat} (hN : rNm R) (hx : x < 20) (ht : rTo R x) (hk : sTk B n t) (hw : t.1 = 1) : nCd R x = wCd B t ↔ sfnP R B t x = true := by
  obtain ⟨-, -, -, -, -, -, t7, -⟩ := hk
  obtain ⟨w1, w2, w3⟩ := t7 hw
  obtain ⟨n1, n2⟩ := hN
  unfold sfnP
  rw [decide_eq_true_iff]
  constructor
  · intro e
    obtain ⟨a, b⟩ := scd_inj _ _ _ _ (n2 x hx).2 w3 e
    exact ⟨(n1 x hx).mpr ht, a, fun j hj => b j (by omega)⟩
  · rintro ⟨-, a, b⟩
    unfold nCd wCd
    rw [a]
    exact scd_congr _ b
theorem kw_ky {B : Nat → Nat} {t : Nat × Nat × Nat} : sKy B t = true ↔ ∃ i, i < 8 ∧ sspl B t i = true := by
  unfold sKy
  simp only [Bool.or_eq_true]
  constructor
  · rintro (((((((h | h) | h) | h) | h) | h) | h) | h)
    · exact ⟨0, by decide, h⟩
    · exact ⟨1, by decide, h⟩
    · exact ⟨2, by decide, h⟩
    · exact ⟨3, by decide, h⟩
    · exact ⟨6, by decide, h⟩
    · exact ⟨4, by decide, h⟩
    · exact ⟨7, by decide, h⟩
    · exact ⟨5, by decide, h⟩
  · rintro ⟨i, hi, h⟩
    rcases (show i = 0 ∨ i = 1 ∨ i = 2 ∨ i = 3 ∨ i = 4 ∨ i = 5 ∨ i = 6 ∨ i = 7 by omega) with rfl | rfl | rfl | rfl | rfl | rfl | rfl | rfl
    all_goals simp only [h, true_or, or_true]
/-- what the table finds of a token -/
theorem sEn_ok {R B c so nu ix : Nat → Nat} {nc n : Nat} {t : Nat × Nat × Nat} (hT : NTp R c so nu ix nc) (hN : rNm R) (hk : sTk B n t) (hw : t.1 = 1) :
    (∀ i, sEn c nc B t = some i → i < nc ∧ (i < 8 → sspl B t i = true) ∧ (8 ≤ i → sIn B t = true ∧ sfnd R B t = some (ix i))) ∧ (sEn c nc B t = none → sIn B t = true ∧ sfnd R B t = none) ∧ ∀ i, i < 8 → sspl B t i = true → sEn c nc B t = some i := by
  obtain ⟨c1, c2, c3, c4, c5, c6⟩ := hT
  have e0 : sEn c nc B t = sfst (fun i => decide (c i = wCd B t)) nc 0 := if_pos hw
  have f1 : ∀ i, sEn c nc B t = some i → i < nc ∧ c i = wCd B t := fun i hi => by
    rw [e0] at hi
    obtain ⟨-, a, b, -⟩ := sfst_some _ _ _ hi
    exact ⟨by omega, of_decide_eq_true b⟩
  have f2 : ∀ i, i < nc → c i = wCd B t → sEn c nc B t = some i := fun i hi e => by
    cases q : sEn c nc B t with
    | none =>
      rw [e0] at q
      have := sfst_none _ _ q i (Nat.zero_le _) (by omega)
      exact absurd e (of_decide_eq_false this)
    | some j =>
      obtain ⟨a, b⟩ := f1 j q
      rw [c6 i j hi a (e.trans b.symm)]
  have f3 : ∀ x, sfnd R B t = some x → ∃ i, 8 ≤ i ∧ i < nc ∧ ix i = x ∧ c i = wCd B t := fun x hx => by
    have l := sfnd_lt hx
    have p := (sfst_some _ _ _ hx).2.2.1
    have tl : rTo R x := (hN.1 x l).mp (of_decide_eq_true p).1
    obtain ⟨i, i1, i2, rfl⟩ := c5 x l tl
    exact ⟨i, i1, i2, rfl, ((c4 i i1 i2).2.2.1).trans ((nm_spl hN l tl hk hw).mpr p)⟩
  have sin : (∀ i, i < 8 → sspl B t i = false) → sIn B t = true := fun z => by
    unfold sIn
    have : sKy B t = false := by
      cases q : sKy B t with
      | false => rfl
      | true => obtain ⟨i, hi, h⟩ := kw_ky.mp q; rw [z i hi] at h; cases h
    rw [this, decide_eq_true hw]; rfl
  have f4 : ∀ i, i < 8 → sspl B t i = true → sEn c nc B t = some i := fun i hi e => f2 i (by omega) ((c3 i hi).1.trans ((kw_spl hk hw hi).mpr e))
  refine ⟨fun i hi => ?_, fun hi => ?_, f4⟩
  · obtain ⟨a, b⟩ := f1 i hi
    refine ⟨a, fun q => (kw_spl hk hw q).mp ((c3 i q).1.symm.trans b), fun q => ?_⟩
    refine ⟨sin (fun j hj => ?_), ?_⟩
    · cases z : sspl B t j with
      | false => rfl
      | true => have := (f4 j hj z).symm.trans hi; cases this; omega
    · obtain ⟨d1, d2, d3, -⟩ := c4 i q a
      have p := (nm_spl hN d1 d2 hk hw).mp (d3.symm.trans b)
      cases z : sfnd R B t with
      | none =>
        have := sfst_none _ _ z (ix i) (Nat.zero_le _) (by omega)
        rw [p] at this; cases this
      | some x =>
        obtain ⟨j, j1, j2, rfl, j4⟩ := f3 x z
        rw [c6 i j a j2 (b.trans j4.symm)]
  · refine ⟨sin (fun j hj => ?_), ?_⟩
    · cases z : sspl B t j with
      | false => rfl
      | true => have := (f4 j hj z).symm.trans hi; cases this
    · cases z : sfnd R B t with
      | none => rfl
      | some x =>
        obtain ⟨j, j1, j2, j3, j4⟩ := f3 x z
        have := (f2 j j2 j4).symm.trans hi; cases this
abbrev rdf (ff fa : Int32) (nc s : Nat) : List Value := [.ref 1002, .int ff, .int fa, .ref 1004, .ref 1005, .ref 1006, .int (nI nc), .ref s]

def fo (h : ZH) (nc s : Nat) (o : TO) : ZH := match o with
  | .inl _ => h
  | .inr e => zup h 1001 (zO 2 (rdf (nI e.1) (nI e.2) nc s))
def sFv (R B : Nat → Nat) (lo hi : Nat) (t : Nat × Nat × Nat) : Int32 := match sNmd R B lo hi t with
  | .inl _ => nI (sNv R B lo hi (.inl t))
  | .inr _ => -1
theorem nSo_in {q lo hi x : Nat} (hq : (q = 1 ∧ lo = 0 ∧ hi = 6) ∨ (q = 3 ∧ lo = 7 ∧ hi = 10) ∨ (q = 4 ∧ lo = 11 ∧ hi = 16)) (hx : x < 20) : (nSo x = q ↔ lo ≤ x ∧ x ≤ hi) ∧ (nSo x = q → nNu x = x - lo) ∧ nSo x ≤ 5 ∧ nNu x < 20 := by
  unfold nSo nNu
  repeat' split
  all_goals omega

set_option maxRecDepth 20000 in
set_option maxHeartbeats 1000000 in
theorem tX4_fail {h : ZH} {ff fa : Int32} {nc s len n0 : Nat} {B : Nat → Nat} {t : Nat × Nat × Nat} {f : Nat} (h1 : h 1001 = some (zO 2 (rdf ff fa nc s))) (hT : TpA h len n0 B t) : ZD mX4_fail 0 [.ref 1001, .int (nI f)] h (some (.int (zb false))) (zup h 1001 (zO 2 (rdf (nI f) (nI t.2.1) nc s))) := by
  intro n
  have h2 := hT.2
  refine z_enter (lv := [(0, _), (1, _)]) (by decide) (Nat.le_of_ble_eq_true rfl) rfl (fun X C => ?_)
  refine z_aload_n (pc := 0) C dX4_fail_0 0 rfl ?_
  refine z_iload_n (pc := 1) C dX4_fail_1 1 rfl ?_
  refine z_putf (pc := 2) (fs' := [_, _, _, _, _, _, _, _]) C dX4_fail_2 gX4_66 h1 (fun _ => ⟨rfl, rfl⟩) (by exact Nat.le_of_ble_eq_true rfl) (by rfl) ?_
  refine z_aload_n (pc := 5) C dX4_fail_5 0 rfl ?_
  refine z_aload_n (pc := 6) C dX4_fail_6 0 rfl ?_
  refine z_getf (pc := 7) C dX4_fail_7 fX4_12 (zup_same _ _ _) (by first | rfl | assumption) ?_
  refine z_getf (pc := 10) C dX4_fail_10 fX4_96 ((zup_ne (by decide)).trans h2) (by first | rfl | assumption) ?_
  refine z_putf (pc := 13) (fs' := [_, _, _, _, _, _, _, _]) C dX4_fail_13 gX4_69 (zup_same _ _ _) (fun _ => ⟨rfl, rfl⟩) (by exact Nat.le_of_ble_eq_true rfl) (by rfl) ?_
  rw [zup_zup]
  refine z_iconst (pc := 16) C dX4_fail_16 (zb false) (by decide) ?_
  refine z_zret (pc := 17) C dX4_fail_17 rfl (by first | exact zb_nar _ | rfl) (Nat.zero_le _) (Nat.zero_le _) ⟨?_, ?_, rfl⟩
  · first | rfl | simp_all
  · rfl

set_option maxRecDepth 20000 in
set_option maxHeartbeats 1000000 in
theorem tX4_failed {h : ZH} {ff fa : Int32} {nc s len n0 : Nat} {B : Nat → Nat} {t : Nat × Nat × Nat} {f : Nat} (h1 : h 1001 = some (zO 2 (rdf ff fa nc s))) (hT : TpA h len n0 B t) : ZD mX4_failed 1 [.ref 1001, .int (nI f)] h (some (.int (-1))) (zup h 1001 (zO 2 (rdf (nI f) (nI t.2.1) nc s))) := by
  intro n
  refine z_enter (lv := [(0, _), (1, _)]) (by decide) (Nat.le_of_ble_eq_true rfl) rfl (fun X C => ?_)
  refine z_aload_n (pc := 0) C dX4_failed_0 0 rfl ?_
  refine z_iload_n (pc := 1) C dX4_failed_1 1 rfl ?_
  refine z_cV1 (pc := 2) mX4_fail C [_] dX4_failed_2 lX4_90 mtX4_fail (tX4_fail h1 hT) h1 rfl rfl (by decide) (Nat.le_of_ble_eq_true rfl) (Nat.zero_le _) (Nat.zero_le _) ?_
  refine z_pop (pc := 5) C dX4_failed_5 rfl ?_
  refine z_iconst (pc := 6) C dX4_failed_6 (-1) (by decide) ?_
  refine z_iret (pc := 7) C dX4_failed_7 rfl (Nat.zero_le _) (Nat.zero_le _) ⟨?_, ?_, rfl⟩
  · first | rfl | simp_all
  · rfl

set_option maxRecDepth 20000 in
set_option maxHeartbeats 1000000 in
theorem tX4_entryOfWord {h : ZH} {ff fa : Int32} {nc s len n0 : Nat} {B : Nat → Nat} {t : Nat × Nat × Nat} {c : Nat → Nat} (h1 : h 1001 = some (zO 2 (rdf ff fa nc s))) (hT : TpA h len n0 B t) (h4 : h 1004 = some (zL 28 (fun i => lN (c i)))) (hn : nc ≤ 28) (hk : sTk B n0 t) (hc : ∀ i, i < nc → c i < 2 ^ 63) : ZD mX4_entryOfWord 0 [.ref 1001] h (some (.int (zm (sEn c nc B t)))) h := by
  intro n
  have h2 := hT.2
  have ht5 := hk.1
  refine z_enter (lv := [(0, _)]) (by decide) (Nat.le_of_ble_eq_true rfl) rfl (fun X C => ?_)
  refine z_iconst (pc := 0) C dX4_entryOfWord_0 (nI 0) (by decide) ?_
  refine z_istore_n (pc := 1) (lv' := [(1, _), (0, _)]) C dX4_entryOfWord_1 (by decide) rfl ?_
  refine z_sub (lv' := [(0, _), (1, _)]) [1, 0] rfl ?_
  have lp2 : ∀ (f : Nat) (x : Nat), (x + f = nc ∧ sEn c nc B t = (if t.1 = 1 then sfst (fun i => decide (c i = wCd B t)) f x else none)) → Zc X mX4_entryOfWord (zEnd X (fun r hh n' => r = (some (.int (zm (sEn c nc B t)))) ∧ hh = h ∧ n' = n) 0 0) 2 [(0, .ref 1001), (1, .int (nI x))] [] h n 0 0 := by
    intro f
    induction f using Nat.strongRecOn with
    | _ f ih =>
      intro x hk1
      obtain ⟨hk1, he1⟩ := hk1
      refine z_iload_n (pc := 2) C dX4_entryOfWord_2 1 rfl ?_
      refine z_aload_n (pc := 3) C dX4_entryOfWord_3 0 rfl ?_
      refine z_getf (pc := 4) C dX4_entryOfWord_4 fX4_63 h1 (by first | rfl | assumption) ?_
      first | refine z_icmpgeN (pc := 7) C 46 dX4_entryOfWord_7 (by decide) (by omega) (by omega) (fun hc7 => ?_) (fun hc7 => ?_) | refine z_icmp_ge (pc := 7) C 46 dX4_entryOfWord_7 (by decide) (fun hc7 => ?_) (fun hc7 => ?_)
      · skip
        refine z_iconst (pc := 46) C dX4_entryOfWord_46 (zm none) (by decide) ?_
        refine z_iret (pc := 47) C dX4_entryOfWord_47 rfl (Nat.zero_le _) (Nat.zero_le _) ⟨?_, ?_, rfl⟩
        · rw [he1]; first | rw [if_neg hc18] | (rw [show f = 0 by omega]; split; rfl; rfl)
        · rfl
      · skip
        refine z_aload_n (pc := 10) C dX4_entryOfWord_10 0 rfl ?_
        refine z_getf (pc := 11) C dX4_entryOfWord_11 fX4_12 h1 (by first | rfl | assumption) ?_
        refine z_getf (pc := 14) C dX4_entryOfWord_14 fX4_87 h2 (by first | rfl | assumption) ?_
        refine z_iconst (pc := 17) C dX4_entryOfWord_17 (nI 1) (by decide) ?_
        first | refine z_icmpneN (pc := 18) C 46 dX4_entryOfWord_18 (by decide) (by omega) (by omega) (fun hc18 => ?_) (fun hc18 => ?_) | refine z_icmp_ne (pc := 18) C 46 dX4_entryOfWord_18 (by decide) (fun hc18 => ?_) (fun hc18 => ?_)
        · skip
          refine z_iconst (pc := 46) C dX4_entryOfWord_46 (zm none) (by decide) ?_
          refine z_iret (pc := 47) C dX4_entryOfWord_47 rfl (Nat.zero_le _) (Nat.zero_le _) ⟨?_, ?_, rfl⟩
          · rw [he1]; first | rw [if_neg hc18] | (rw [show f = 0 by omega]; split; rfl; rfl)
          · rfl
        · skip
          refine z_aload_n (pc := 21) C dX4_entryOfWord_21 0 rfl ?_
          refine z_getf (pc := 22) C dX4_entryOfWord_22 fX4_18 h1 (by first | rfl | assumption) ?_
          refine z_iload_n (pc := 25) C dX4_entryOfWord_25 1 rfl ?_
          refine z_laldN (pc := 26) C dX4_entryOfWord_26 h4 (by omega) (by decide) ?_
          refine z_aload_n (pc := 27) C dX4_entryOfWord_27 0 rfl ?_
          refine z_getf (pc := 28) C dX4_entryOfWord_28 fX4_12 h1 (by first | rfl | assumption) ?_
          refine z_getf (pc := 31) C dX4_entryOfWord_31 fX4_217 h2 (by first | rfl | assumption) ?_
          refine z_lcmp (pc := 34) C dX4_entryOfWord_34 ?_
          refine z_if_ne (pc := 35) C 40 dX4_entryOfWord_35 (by decide) (fun hc35 => ?_) (fun hc35 => ?_)
          · skip
            have e9 : ¬ c x = wCd B t := fun z => hc35 (lcq.mpr (by show lN (c x) = lN (wCd B t); rw [z]))
            first | refine z_iincN (pc := 40) (lv' := [(1, _), (0, _)]) C 1 dX4_entryOfWord_40 1 rfl (by decide) (by decide) rfl ?_ | refine z_iinc (pc := 40) (lv' := [(1, _), (0, _)]) C dX4_entryOfWord_40 1 rfl _ rfl (by decide) rfl ?_
            refine z_goto (pc := 43) C 2 dX4_entryOfWord_43 (by decide) ?_
            refine z_sub (lv' := [(0, _), (1, _)]) [1, 0] rfl ?_
            exact ih (f - 1) (by omega) (x + 1) ⟨by omega, by rw [he1, if_pos hc18, if_pos hc18]; obtain ⟨f, rfl⟩ : ∃ y, f = y + 1 := ⟨f - 1, by omega⟩; rw [sfst, if_neg (by rw [decide_eq_false e9]; decide)]; rfl⟩
          · skip
            have e9 : c x = wCd B t := (pk_lEQ (hc x (by omega)) (scd_63 (hk.2.2.2.2.2.2.1 hc18).2.1)).mp (lcq.mp hc35)
            refine z_iload_n (pc := 38) C dX4_entryOfWord_38 1 rfl ?_
            refine z_iret (pc := 39) C dX4_entryOfWord_39 rfl (Nat.zero_le _) (Nat.zero_le _) ⟨?_, ?_, rfl⟩
            · rw [he1, if_pos hc18]; obtain ⟨f, rfl⟩ : ∃ y, f = y + 1 := ⟨f - 1, by omega⟩; rw [sfst, if_pos (decide_eq_true e9)]; rfl
            · rfl
  exact lp2 nc 0 ⟨by omega, rfl⟩
