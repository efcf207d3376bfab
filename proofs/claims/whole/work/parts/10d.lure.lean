/-- the first digit at which something is found -/
def sdl (F : Nat → Option Nat) (ok : Nat → Bool) (u : Nat) : Nat → Nat → Option Nat
  | 0, _ => none
  | f + 1, d => if ok d then (match F d with
    | some r => some (u * d + r)
    | none => sdl F ok u f (d + 1)) else sdl F ok u f (d + 1)
def sOk (R T : Nat → Nat) (m d : Nat) : Bool := decide (d = 0) || (R (23 + T (8 * m))).testBit (d - 1)
/-- the first row of just so many steps that brings the kill to p -/
def slu (R : Nat → Nat) (k p m : Nat) : Nat → (Nat → Nat) → Option Nat
  | 0, T => if sstd R T k = some p then some 0 else none
  | l + 1, T => sdl (fun d => slu R k p m l (sgo T m (sgl T m d))) (sOk R T m) (10 ^ l) (R 1 + 1) 0
theorem sdl_ok {F : Nat → Option Nat} {ok : Nat → Bool} {u f d r : Nat} (h : ok d = true) (h2 : F d = some r) : sdl F ok u (f + 1) d = some (u * d + r) := by rw [sdl, if_pos h, h2]
theorem sdl_no {F : Nat → Option Nat} {ok : Nat → Bool} {u f d : Nat} (h : ok d = true) (h2 : F d = none) : sdl F ok u (f + 1) d = sdl F ok u f (d + 1) := by rw [sdl, if_pos h, h2]
theorem sdl_sk {F : Nat → Option Nat} {ok : Nat → Bool} {u f d : Nat} (h : ok d = false) : sdl F ok u (f + 1) d = sdl F ok u f (d + 1) := by rw [sdl, h]; rfl
theorem sdl_lt {F : Nat → Option Nat} {ok : Nat → Bool} {u : Nat} (hF : ∀ d r, F d = some r → r < u) : ∀ f d r, d + f ≤ 8 → sdl F ok u f d = some r → r < 8 * u := by
  intro f
  induction f with
  | zero => intro d r _ h; cases h
  | succ f ih =>
    intro d r hd h
    cases e : ok d with
    | false => rw [sdl_sk e] at h; exact ih _ _ (by omega) h
    | true =>
      cases e2 : F d with
      | none => rw [sdl_no e e2] at h; exact ih _ _ (by omega) h
      | some x =>
        rw [sdl_ok e e2] at h
        cases h
        have h1 := hF d x e2
        have h2 : u * d ≤ u * 7 := Nat.mul_le_mul_left u (by omega)
        omega
theorem slu_lt {R : Nat → Nat} (h1 : R 1 ≤ 7) {k p m : Nat} : ∀ l T r, slu R k p m l T = some r → r < 10 ^ l := by
  intro l
  induction l with
  | zero => intro T r h; rw [slu] at h; split at h <;> cases h; exact Nat.one_pos
  | succ l ih =>
    intro T r h
    have := sdl_lt (u := 10 ^ l) (fun d r hr => ih _ r hr) (R 1 + 1) 0 r (by omega) h
    rw [Nat.pow_succ]
    omega
theorem sdl_some {F : Nat → Option Nat} {ok : Nat → Bool} {u : Nat} : ∀ f d, (sdl F ok u f d).isSome = true ↔ ∃ e, d ≤ e ∧ e < d + f ∧ ok e = true ∧ (F e).isSome = true := by
  intro f
  induction f with
  | zero => intro d; exact ⟨fun h => (by cases h), fun ⟨e, h1, h2, _⟩ => (by omega)⟩
  | succ f ih =>
    intro d
    cases e : ok d with
    | false =>
      rw [sdl_sk e, ih]
      constructor
      · rintro ⟨x, h1, h2, h3⟩; exact ⟨x, by omega, by omega, h3⟩
      · rintro ⟨x, h1, h2, h3, h4⟩
        by_cases q : x = d
        · subst q; rw [e] at h3; cases h3
        · exact ⟨x, by omega, by omega, h3, h4⟩
    | true =>
      cases e2 : F d with
      | some r => rw [sdl_ok e e2]; exact ⟨fun _ => ⟨d, Nat.le_refl _, by omega, e, by rw [e2]; rfl⟩, fun _ => rfl⟩
      | none =>
        rw [sdl_no e e2, ih]
        constructor
        · rintro ⟨x, h1, h2, h3⟩; exact ⟨x, by omega, by omega, h3⟩
        · rintro ⟨x, h1, h2, h3, h4⟩
          by_cases q : x = d
          · subst q; rw [e2] at h4; cases h4
          · exact ⟨x, by omega, by omega, h3, h4⟩
def slo (G : Nat → Option Nat) : Nat → Nat → Option (Nat × Nat)
  | 0, _ => none
  | f + 1, i => match G i with
    | some r => some (i, r)
    | none => slo G f (i + 1)
theorem slo_y {G : Nat → Option Nat} {f i r : Nat} (h : G i = some r) : slo G (f + 1) i = some (i, r) := by rw [slo, h]
theorem slo_n {G : Nat → Option Nat} {f i : Nat} (h : G i = none) : slo G (f + 1) i = slo G f (i + 1) := by rw [slo, h]
theorem slo_le {G : Nat → Option Nat} : ∀ f i x, slo G f i = some x → x.1 < i + f ∧ G x.1 = some x.2 ∧ i ≤ x.1 := by
  intro f
  induction f with
  | zero => intro i x h; cases h
  | succ f ih =>
    intro i x h
    cases e : G i with
    | some r => rw [slo_y e] at h; cases h; exact ⟨by show i < _; omega, e, Nat.le_refl _⟩
    | none => rw [slo_n e] at h; obtain ⟨h1, h2, h3⟩ := ih _ _ h; exact ⟨by omega, h2, by omega⟩
theorem slo_min {G : Nat → Option Nat} : ∀ f i j r, i ≤ j → j < i + f → G j = some r → ∃ x, slo G f i = some x ∧ x.1 ≤ j := by
  intro f
  induction f with
  | zero => intro i j r h1 h2; omega
  | succ f ih =>
    intro i j r h1 h2 h
    cases e : G i with
    | some q => exact ⟨(i, q), slo_y e, h1⟩
    | none =>
      rw [slo_n e]
      refine ih (i + 1) j r ?_ (by omega) h
      by_cases q : i = j
      · subst q; rw [e] at h; cases h
      · omega
def sLur (R S : Nat → Nat) (k p : Nat) : Option (Nat × Nat) := slo (fun l => slu R k p (S (32 + k)) l S) 6 0
def sbt (o : Option Nat) : Nat := match o with
  | some p => 1 <<< p
  | none => 0
/-- or of what is found at the digits -/
def sor (F : Nat → Nat) (ok : Nat → Bool) : Nat → Nat → Nat
  | 0, a => a
  | d + 1, a => if ok d then sor F ok d a ||| F d else sor F ok d a
def spl (R : Nat → Nat) (k m : Nat) : Nat → (Nat → Nat) → Nat
  | 0, T => sbt (sstd R T k)
  | l + 1, T => sor (fun d => spl R k m l (sgo T m (sgl T m d))) (sOk R T m) (R 1 + 1) (sbt (sstd R T k))
theorem sor_tb {F : Nat → Nat} {ok : Nat → Bool} {a p : Nat} : ∀ n, (sor F ok n a).testBit p = true ↔ a.testBit p = true ∨ ∃ d, d < n ∧ ok d = true ∧ (F d).testBit p = true := by
  intro n
  induction n with
  | zero => exact ⟨Or.inl, fun h => h.elim id (fun ⟨d, hd, _⟩ => by omega)⟩
  | succ n ih =>
    rw [sor]
    cases e : ok n with
    | false =>
      show (sor F ok n a).testBit p = true ↔ _
      rw [ih]
      constructor
      · rintro (h | ⟨d, h1, h2⟩)
        · exact Or.inl h
        · exact Or.inr ⟨d, by omega, h2⟩
      · rintro (h | ⟨d, h1, h2, h3⟩)
        · exact Or.inl h
        · by_cases q : d = n
          · subst q; rw [e] at h2; cases h2
          · exact Or.inr ⟨d, by omega, h2, h3⟩
    | true =>
      show (sor F ok n a ||| F n).testBit p = true ↔ _
      rw [Nat.testBit_or, Bool.or_eq_true, ih]
      constructor
      · rintro ((h | ⟨d, h1, h2⟩) | h)
        · exact Or.inl h
        · exact Or.inr ⟨d, by omega, h2⟩
        · exact Or.inr ⟨n, by omega, e, h⟩
      · rintro (h | ⟨d, h1, h2, h3⟩)
        · exact Or.inl (Or.inl h)
        · by_cases q : d = n
          · subst q; exact Or.inr h3
          · exact Or.inl (Or.inr ⟨d, by omega, h2, h3⟩)
theorem sbt_tb (o : Option Nat) (p : Nat) : (sbt o).testBit p = true ↔ o = some p := by
  cases o with
  | none => simp [sbt]
  | some q => show (1 <<< q).testBit p = true ↔ _; rw [tb1]; simp
theorem spl_tb {R : Nat → Nat} {k p m : Nat} : ∀ l T, (spl R k m l T).testBit p = true ↔ ∃ i, i ≤ l ∧ (slu R k p m i T).isSome = true := by
  intro l
  induction l with
  | zero =>
    intro T
    rw [spl, sbt_tb]
    constructor
    · intro h; exact ⟨0, Nat.le_refl _, by rw [slu, if_pos h]; rfl⟩
    · rintro ⟨i, hi, h⟩
      obtain rfl : i = 0 := by omega
      rw [slu] at h
      split at h
      · assumption
      · cases h
  | succ l ih =>
    intro T
    rw [spl, sor_tb, sbt_tb]
    constructor
    · rintro (h | ⟨d, h1, h2, h3⟩)
      · exact ⟨0, by omega, by rw [slu, if_pos h]; rfl⟩
      · obtain ⟨i, hi, h4⟩ := (ih _).mp h3
        exact ⟨i + 1, by omega, by rw [slu, sdl_some]; exact ⟨d, by omega, by omega, h2, h4⟩⟩
    · rintro ⟨i, hi, h⟩
      cases i with
      | zero =>
        rw [slu] at h
        split at h
        · exact Or.inl (by assumption)
        · cases h
      | succ i =>
        rw [slu, sdl_some] at h
        obtain ⟨d, h1, h2, h3, h4⟩ := h
        exact Or.inr ⟨d, by omega, h3, (ih _).mpr ⟨i, by omega, h4⟩⟩
theorem sor_lt {F : Nat → Nat} {ok : Nat → Bool} {a : Nat} (ha : a < 128) (hF : ∀ d, ok d = true → F d < 128) : ∀ n, (∀ d, d < n → ok d = true → F d < 128) → sor F ok n a < 128 := by
  intro n
  induction n with
  | zero => intro _; exact ha
  | succ n ih =>
    intro h
    rw [sor]
    split
    · rename_i e; exact Nat.or_lt_two_pow (n := 7) (ih (fun d hd => h d (by omega))) (h n (by omega) e)
    · exact ih (fun d hd => h d (by omega))
theorem sOk_lt {R T : Nat → Nat} (hR : wfR R) (hS : wfS R T) {m d : Nat} (hm : m < R 3) (h : sOk R T m d = true) : sgl T m d < R 1 ∧ d ≤ R 1 := by
  have e1 : T (8 * m) < R 1 := hS.1 m hm 0 (by omega)
  unfold sOk at h
  unfold sgl
  by_cases q : d = 0
  · rw [if_pos q]; exact ⟨e1, by omega⟩
  · rw [if_neg q]
    rw [decide_eq_false q, Bool.false_or] at h
    have := (hR.2.2.2.2.2.1 _ e1).2.2 _ h
    exact ⟨this, by omega⟩
theorem slu_std {R : Nat → Nat} (hR : wfR R) {k p m : Nat} (hm : m < R 3) (hk : k < R 4) : ∀ l T, wfS R T → (slu R k p m l T).isSome = true → p < R 1 := by
  intro l
  induction l with
  | zero =>
    intro T hS h
    rw [slu] at h
    split at h
    · rename_i e; exact sstd_lt hR hS hk e
    · cases h
  | succ l ih =>
    intro T hS h
    rw [slu, sdl_some] at h
    obtain ⟨d, h1, h2, h3, h4⟩ := h
    exact ih _ (wfS_go hR hS hm (sOk_lt hR hS hm h3).1) h4
theorem spl_lt {R : Nat → Nat} (hR : wfR R) {k m : Nat} (hm : m < R 3) (hk : k < R 4) {l : Nat} {T : Nat → Nat} (hS : wfS R T) : spl R k m l T < 128 := by
  refine Nat.lt_pow_two_of_testBit (n := 7) _ (fun j hj => ?_)
  cases z : (spl R k m l T).testBit j with
  | false => rfl
  | true =>
    obtain ⟨i, -, h⟩ := (spl_tb l T).mp z
    have := slu_std hR hm hk i T hS h
    have := hR.1
    omega
theorem sgo_39 {S : Nat → Nat} {m p j : Nat} (hm : m < 4) (hj : 32 ≤ j) : sgo S m p j = S j := sgo_k hm hj
theorem sLur_le {R S : Nat → Nat} {k p : Nat} {x : Nat × Nat} (h : sLur R S k p = some x) : x.1 ≤ 5 ∧ slu R k p (S (32 + k)) x.1 S = some x.2 := by
  obtain ⟨h1, h2, -⟩ := slo_le 6 0 x h
  exact ⟨by omega, h2⟩
def aKP (R : Nat → Nat) (k p : Int32) (x : Nat → Nat → Int32) : Int32 × Int32 := if zlt k (R 4) && zlt p (R 1) then (x (pn k) (pn p), 0) else (-1, 1)
def aLure (R S : Nat → Nat) (k p : Int32) : Int32 × Int32 := aKP R k p (fun k p => zo ((sLur R S k p).map Prod.fst))
def aLuR (R S : Nat → Nat) (k p : Int32) : Int32 × Int32 := aKP R k p (fun k p => zo ((sLur R S k p).map Prod.snd))
def aLus (R S : Nat → Nat) (k n : Int32) : Int32 × Int32 := aW (zlt k (R 4)) (zlt n 6) (nI (spl R (pn k) (S (32 + pn k)) (pn n) S))
def sLp (R S : Nat → Nat) (k n p : Nat) : Bool := match sLur R S k p with
  | some x => decide (x.1 ≤ n)
  | none => false
theorem sLp_eq {R S : Nat → Nat} (hR : wfR R) (hS : wfS R S) {k n : Nat} (hk : k < R 4) (hn : n ≤ 5) : sbits (sLp R S k n) (R 1) = spl R k (S (32 + k)) n S := by
  apply Nat.eq_of_testBit_eq
  intro p
  rw [sbits_tb]
  have hm := hS.2.1 k hk
  have h : (decide (p < R 1) && sLp R S k n p) = true ↔ (spl R k (S (32 + k)) n S).testBit p = true := by
    rw [spl_tb, Bool.and_eq_true, decide_eq_true_eq]
    constructor
    · rintro ⟨h1, h2⟩
      unfold sLp at h2
      cases e : sLur R S k p with
      | none => rw [e] at h2; cases h2
      | some x =>
        rw [e] at h2
        exact ⟨x.1, of_decide_eq_true h2, by rw [(sLur_le e).2]; rfl⟩
    · rintro ⟨i, hi, h⟩
      refine ⟨slu_std hR hm hk i S hS h, ?_⟩
      obtain ⟨r, hr⟩ := Option.isSome_iff_exists.mp h
      obtain ⟨x, hx, hx2⟩ := slo_min (G := fun l => slu R k p (S (32 + k)) l S) 6 0 i r (by omega) (by omega) hr
      unfold sLp
      rw [show sLur R S k p = some x from hx]
      exact decide_eq_true (by omega)
  cases z1 : (decide (p < R 1) && sLp R S k n p) <;> cases z2 : (spl R k (S (32 + k)) n S).testBit p
  · rfl
  · rw [h.mpr z2] at z1; cases z1
  · rw [h.mp z1] at z2; cases z2
  · rfl

set_option maxRecDepth 20000 in
set_option maxHeartbeats 1000000 in
theorem tX9_findsRow0 {h : ZH} {t k p m : Nat} {R T : Nat → Nat} {x1 x2 : Int32} (hX : Tri h x1 x2 t R T) (hq : t = 1008 ∨ t = 1039) (hR : wfR R) (hS : wfS R T) (hk : k < R 4) (hp : p < R 1) (hm : T (32 + k) = m) : ZQ1 mX9_findsRow 3 [.ref 1019, .int (nI k), .int (nI p), .int (nI 0)] h (fun w hh => w = .int (zb (slu R k p m 0 T).isSome) ∧ Tri hh (x1 + nI ((slu R k p m 0 T).getD 0)) x2 t R T ∧ trF h hh) := by
  intro n
  obtain ⟨w1, w3, w4, w5, w0, wP, wM, wK, wX⟩ := id hR
  obtain ⟨wT, wL, wB⟩ := id hS
  obtain ⟨q0, hC⟩ := id hX
  obtain ⟨hT, fl, ft, s0, s1, s2, rl, rt⟩ := id hC
  obtain ⟨fc, fh, fn, fk, fs, ff, fw, fe, t0, t1, t2, t3, t4, t5, t6, t7, t8, rc, rh, rn, rk, rs, rf, rv, re⟩ := id hT
  have e1 : ∀ q, sstd R T k = some q → q < 2147483648 := fun q hq => by have := sstd_lt hR hS hk hq; omega
  have hz : x1 + nI 0 = x1 := Int32.add_zero x1
  refine z_enter (lv := [(0, _), (1, _), (2, _), (3, _)]) (by decide) (Nat.le_of_ble_eq_true rfl) rfl (fun X C => ?_)
  refine z_iload_n (pc := 0) C dX9_findsRow_0 3 rfl ?_
  first | refine z_ifleN (pc := 1) C 9 dX9_findsRow_1 (by decide) (by omega) (fun hc1 => ?_) (fun hc1 => ?_) | refine z_if_le (pc := 1) C 9 dX9_findsRow_1 (by decide) (fun hc1 => ?_) (fun hc1 => ?_)
  · skip
    refine z_aload_n (pc := 9) C dX9_findsRow_9 0 rfl ?_
    refine z_getf (pc := 10) C dX9_findsRow_10 fX9_17 (by assumption) (by first | rfl | assumption) ?_
    refine z_iload_n (pc := 13) C dX9_findsRow_13 1 rfl ?_
    refine z_cV1 (pc := 14) mX5_standOf C [_] dX9_findsRow_14 lX9_55 mtX5_standOf (tX5_standOf hC hR hS hk) (by assumption) rfl rfl (by decide) (Nat.le_of_ble_eq_true rfl) (Nat.zero_le _) (Nat.zero_le _) ?_
    refine z_iload_n (pc := 17) C dX9_findsRow_17 2 rfl ?_
    refine z_icmp_ne (pc := 18) C 25 dX9_findsRow_18 (by decide) (fun hc18 => ?_) (fun hc18 => ?_)
    · skip
      refine z_iconst (pc := 25) C dX9_findsRow_25 (zb false) (by decide) ?_
      refine z_zret (pc := 26) C dX9_findsRow_26 rfl (by first | exact zb_nar _ | rfl) (Nat.zero_le _) (Nat.zero_le _) ⟨_, rfl, ?_, rfl⟩
      first | (rw [slu, if_neg (fun z => hc18 ((zo_eq (by omega) e1).mpr z))]; exact ⟨rfl, by show Tri h (x1 + nI 0) x2 t R T; rw [hz]; exact hX, trF.rf h⟩) | (rw [slu, if_pos ((zo_eq (by omega) e1).mp hc18)]; exact ⟨rfl, by show Tri h (x1 + nI 0) x2 t R T; rw [hz]; exact hX, trF.rf h⟩)
    · skip
      refine z_iconst (pc := 21) C dX9_findsRow_21 (zb true) (by decide) ?_
      refine z_goto (pc := 22) C 26 dX9_findsRow_22 (by decide) ?_
      refine z_zret (pc := 26) C dX9_findsRow_26 rfl (by first | exact zb_nar _ | rfl) (Nat.zero_le _) (Nat.zero_le _) ⟨_, rfl, ?_, rfl⟩
      first | (rw [slu, if_neg (fun z => hc18 ((zo_eq (by omega) e1).mpr z))]; exact ⟨rfl, by show Tri h (x1 + nI 0) x2 t R T; rw [hz]; exact hX, trF.rf h⟩) | (rw [slu, if_pos ((zo_eq (by omega) e1).mp hc18)]; exact ⟨rfl, by show Tri h (x1 + nI 0) x2 t R T; rw [hz]; exact hX, trF.rf h⟩)
  · exact absurd hc1 (by decide)

def LuC (R : Nat → Nat) (t k p m l : Nat) : Prop := ∀ (h : ZH) (x1 x2 : Int32) (T : Nat → Nat), Tri h x1 x2 t R T → wfS R T → T (32 + k) = m → ZQ1 mX9_findsRow (3 + l) [.ref 1019, .int (nI k), .int (nI p), .int (nI l)] h (fun w hh => w = .int (zb (slu R k p m l T).isSome) ∧ Tri hh (x1 + nI ((slu R k p m l T).getD 0)) x2 t R T ∧ trF h hh)

set_option maxRecDepth 20000 in
set_option maxHeartbeats 1000000 in
theorem tX9_findsRowS {h : ZH} {t k p m : Nat} {R T : Nat → Nat} {x1 x2 : Int32} {l : Nat} (hX : Tri h x1 x2 t R T) (hq : t = 1008 ∨ t = 1039) (hR : wfR R) (hS : wfS R T) (hk : k < R 4) (hp : p < R 1) (hm : T (32 + k) = m) (hl : l < 5) (IH : LuC R t k p m l) : ZQ1 mX9_findsRow (3 + (l + 1)) [.ref 1019, .int (nI k), .int (nI p), .int (nI (l + 1))] h (fun w hh => w = .int (zb (slu R k p m (l + 1) T).isSome) ∧ Tri hh (x1 + nI ((slu R k p m (l + 1) T).getD 0)) x2 t R T ∧ trF h hh) := by
  intro n
  obtain ⟨w1, w3, w4, w5, w0, wP, wM, wK, wX⟩ := id hR
  obtain ⟨wT, wL, wB⟩ := id hS
  have hm3 : m < R 3 := by rw [← hm]; exact wL k hk
  obtain ⟨q0, hC⟩ := id hX
  obtain ⟨hT, fl, ft, s0, s1, s2, rl, rt⟩ := id hC
  obtain ⟨fc, fh, fn, fk, fs, ff, fw, fe, t0, t1, t2, t3, t4, t5, t6, t7, t8, rc, rh, rn, rk, rs, rf, rv, re⟩ := id hT
  refine z_enter (lv := [(0, _), (1, _), (2, _), (3, _)]) (by decide) (Nat.le_of_ble_eq_true rfl) rfl (fun X C => ?_)
  refine z_iload_n (pc := 0) C dX9_findsRow_0 3 rfl ?_
  first | refine z_ifleN (pc := 1) C 9 dX9_findsRow_1 (by decide) (by omega) (fun hc1 => ?_) (fun hc1 => ?_) | refine z_if_le (pc := 1) C 9 dX9_findsRow_1 (by decide) (fun hc1 => ?_) (fun hc1 => ?_)
  · exact absurd hc1 (by omega)
  · skip
    refine z_iload_n (pc := 4) C dX9_findsRow_4 3 rfl ?_
    refine z_iconst (pc := 5) C dX9_findsRow_5 (nI 5) (by decide) ?_
    first | refine z_icmpleN (pc := 6) C 27 dX9_findsRow_6 (by decide) (by omega) (by omega) (fun hc6 => ?_) (fun hc6 => ?_) | refine z_icmp_le (pc := 6) C 27 dX9_findsRow_6 (by decide) (fun hc6 => ?_) (fun hc6 => ?_)
    · skip
      refine z_aload_n (pc := 27) C dX9_findsRow_27 0 rfl ?_
      refine z_getf (pc := 28) C dX9_findsRow_28 fX9_17 (by assumption) (by first | rfl | assumption) ?_
      refine z_getf (pc := 31) C dX9_findsRow_31 fX9_58 (by assumption) (by first | rfl | assumption) ?_
      refine z_iload_n (pc := 34) C dX9_findsRow_34 1 rfl ?_
      refine z_ialdE (pc := 35) C dX9_findsRow_35 (by assumption) (by omega) (by decide) (show fl k = m from by rw [rl k hk]; exact hm) ?_
      refine z_istore (pc := 36) (lv' := [(4, _), (0, _), (1, _), (2, _), (3, _)]) C dX9_findsRow_36 (by decide) rfl ?_
      refine z_aload_n (pc := 38) C dX9_findsRow_38 1 rfl ?_
      refine z_getf (pc := 39) C dX9_findsRow_39 fX9_17 (by assumption) (by first | rfl | assumption) ?_
      refine z_iload (pc := 42) C dX9_findsRow_42 0 rfl ?_
      refine z_bipush (pc := 44) C dX9_findsRow_44 (nI 7) (by decide) ?_
      refine z_cV1 (pc := 46) mX5_wasAt C [_, _] dX9_findsRow_46 lX9_61 mtX5_wasAt (tX5_wasAt hC hR hm3 (by decide)) (by assumption) rfl rfl (by omega) (Nat.le_of_ble_eq_true rfl) (Nat.zero_le _) (Nat.zero_le _) ?_
      refine z_istore (pc := 49) (lv' := [(5, _), (4, _), (0, _), (1, _), (2, _), (3, _)]) C dX9_findsRow_49 (by decide) rfl ?_
      refine z_iconst (pc := 51) C dX9_findsRow_51 (nI 0) (by decide) ?_
      refine z_istore (pc := 52) (lv' := [(6, _), (5, _), (4, _), (0, _), (1, _), (2, _), (3, _)]) C dX9_findsRow_52 (by decide) rfl ?_
      refine z_sub (lv' := [(0, _), (1, _), (2, _), (3, _), (4, _), (5, _), (6, _)]) [3, 4, 5, 6, 2, 1, 0] rfl ?_
      have lp54 : ∀ (f : Nat) (g : Nat) (h1 : ZH), (g + f = R 1 + 1 ∧ sdl (fun d => slu R k p m l (sgo T m (sgl T m d))) (sOk R T m) (10 ^ l) (R 1 + 1) 0 = sdl (fun d => slu R k p m l (sgo T m (sgl T m d))) (sOk R T m) (10 ^ l) f g ∧ Tri h1 x1 x2 t R T ∧ trF h h1) → Zc X mX9_findsRow (zEnd X (fun r hh n' => ∃ w, r = some w ∧ (w = .int (zb (slu R k p m (l + 1) T).isSome) ∧ Tri hh (x1 + nI ((slu R k p m (l + 1) T).getD 0)) x2 t R T ∧ trF h hh) ∧ n' = n) 0 0) 54 [(0, .ref 1019), (1, .int (nI k)), (2, .int (nI p)), (3, .int (nI (l + 1))), (4, .int (nI m)), (5, .int (nI (T (8 * m + 7)))), (6, .int (nI g))] [] h1 n 0 0 := by
        intro f
        induction f using Nat.strongRecOn with
        | _ f ih =>
          intro g h1 hk2
          obtain ⟨hk2, he, X1, F1⟩ := hk2
          obtain ⟨q1, C1⟩ := id X1
          obtain ⟨hT1, fl1, ft1, u0, u1, u2, ul, ut⟩ := id C1
          obtain ⟨_, _, _, _, _, _, _, _, k0, k1, -, -, -, -, -, -, -, kc, -⟩ := id hT1
          refine z_iload (pc := 54) C dX9_findsRow_54 6 rfl ?_
          refine z_aload_n (pc := 56) C dX9_findsRow_56 0 rfl ?_
          refine z_getf (pc := 57) C dX9_findsRow_57 fX9_17 q1 (by first | rfl | assumption) ?_
          refine z_getf (pc := 60) C dX9_findsRow_60 fX9_64 u0 (by first | rfl | assumption) ?_
          refine z_getf (pc := 63) C dX9_findsRow_63 fX9_68 k0 (by first | rfl | assumption) ?_
          refine z_iconst (pc := 66) C dX9_findsRow_66 (nI 1) (by decide) ?_
          refine z_ialdE (pc := 67) C dX9_findsRow_67 k1 (by omega) (by decide) (kc 1 (by decide) (by decide)) ?_
          first | refine z_icmpgtN (pc := 68) C 153 dX9_findsRow_68 (by decide) (by omega) (by omega) (fun hc68 => ?_) (fun hc68 => ?_) | refine z_icmp_gt (pc := 68) C 153 dX9_findsRow_68 (by decide) (fun hc68 => ?_) (fun hc68 => ?_)
          · skip
            refine z_iconst (pc := 153) C dX9_findsRow_153 (zb false) (by decide) ?_
            refine z_zret (pc := 154) C dX9_findsRow_154 rfl (by first | exact zb_nar _ | rfl) (Nat.zero_le _) (Nat.zero_le _) ⟨_, rfl, ?_, rfl⟩
            rw [show slu R k p m (l + 1) T = none from by rw [slu, he, show f = 0 by omega]; rfl]; exact ⟨rfl, by rw [show x1 + nI ((none : Option Nat).getD 0) = x1 from Int32.add_zero x1]; exact X1, F1⟩
          · skip
            refine z_aload_n (pc := 71) C dX9_findsRow_71 0 rfl ?_
            refine z_iload (pc := 72) C dX9_findsRow_72 4 rfl ?_
            refine z_iload (pc := 74) C dX9_findsRow_74 6 rfl ?_
            refine z_cV1 (pc := 76) mX9_isStep C [_, _] dX9_findsRow_76 lX9_71 mtX9_isStep (tX9_isStep X1 hR hS hm3 (by omega)) q1 rfl rfl (by omega) (Nat.le_of_ble_eq_true rfl) (Nat.zero_le _) (Nat.zero_le _) ?_
            first | refine z_ifeqB (pc := 79) C 147 dX9_findsRow_79 (by decide) (fun hc79 => ?_) (fun hc79 => ?_) | refine z_ifeqN (pc := 79) C 147 dX9_findsRow_79 (by decide) (by omega) (fun hc79 => ?_) (fun hc79 => ?_) | refine z_if_eq (pc := 79) C 147 dX9_findsRow_79 (by decide) (fun hc79 => ?_) (fun hc79 => ?_)
            · skip
              have e4 : sOk R T m g = false := hc79
              have e9 := ih (f - 1) (by omega) (g + 1) h1 ⟨by omega, by rw [he]; obtain ⟨f, rfl⟩ : ∃ y, f = y + 1 := ⟨f - 1, by omega⟩; rw [sdl_sk e4]; rfl, X1, F1⟩
              first | refine z_iincN (pc := 147) (lv' := [(6, _), (0, _), (1, _), (2, _), (3, _), (4, _), (5, _)]) C 1 dX9_findsRow_147 6 rfl (by decide) (by decide) rfl ?_ | refine z_iinc (pc := 147) (lv' := [(6, _), (0, _), (1, _), (2, _), (3, _), (4, _), (5, _)]) C dX9_findsRow_147 6 rfl _ rfl (by decide) rfl ?_
              refine z_goto (pc := 150) C 54 dX9_findsRow_150 (by decide) ?_
              refine z_sub (lv' := [(0, _), (1, _), (2, _), (3, _), (4, _), (5, _), (6, _)]) [1, 2, 3, 4, 5, 6, 0] rfl ?_
              exact e9
            · skip
              have e4 : sOk R T m g = true := hc79
              obtain ⟨e5, -⟩ := sOk_lt hR hS hm3 e4
              refine z_aload_n (pc := 82) C dX9_findsRow_82 0 rfl ?_
              refine z_getf (pc := 83) C dX9_findsRow_83 fX9_17 q1 (by first | rfl | assumption) ?_
              refine z_iload (pc := 86) C dX9_findsRow_86 4 rfl ?_
              refine z_aload_n (pc := 88) C dX9_findsRow_88 0 rfl ?_
              refine z_iload (pc := 89) C dX9_findsRow_89 4 rfl ?_
              refine z_iload (pc := 91) C dX9_findsRow_91 6 rfl ?_
              refine z_cV1 (pc := 93) mX9_goal C [_, _] dX9_findsRow_93 lX9_35 mtX9_goal (tX9_goal X1 hR hm3 (by omega)) q1 rfl rfl (by omega) (Nat.le_of_ble_eq_true rfl) (Nat.zero_le _) (Nat.zero_le _) ?_
              refine z_cV0Q (pc := 96) mX5_go C [_, _] dX9_findsRow_96 lX9_43 mtX5_go (tX5_goQ C1 hR hm3) u0 rfl rfl (by omega) (Nat.le_of_ble_eq_true rfl) (Nat.zero_le _) (Nat.zero_le _) ?_
              rintro h2 ⟨C2, G2⟩
              obtain ⟨X2, F2⟩ := X1.goes C2 G2
              obtain ⟨q2, -⟩ := id X2
              have W2 := wfS_go hR hS hm3 e5
              refine z_aload_n (pc := 99) C dX9_findsRow_99 0 rfl ?_
              refine z_iload_n (pc := 100) C dX9_findsRow_100 1 rfl ?_
              refine z_iload_n (pc := 101) C dX9_findsRow_101 2 rfl ?_
              refine z_iload_n (pc := 102) C dX9_findsRow_102 3 rfl ?_
              refine z_iconst (pc := 103) C dX9_findsRow_103 (nI 1) (by decide) ?_
              first | refine z_isubN (pc := 104) C dX9_findsRow_104 (by omega) ?_ | refine z_isub (pc := 104) C dX9_findsRow_104 ?_
              refine z_top (show nI (l + 1 - 1) = nI l from rfl) ?_
              refine z_cV1Q (pc := 105) mX9_findsRow C [_, _, _] dX9_findsRow_105 lX9_51 mtX9_findsRow (IH h2 x1 x2 _ X2 W2 (by rw [sgo_k (by omega) (by omega)]; exact hm)) q2 rfl rfl (by omega) (Nat.le_of_ble_eq_true rfl) (Nat.zero_le _) (Nat.zero_le _) ?_
              rintro _ h3 ⟨rfl, X3, F3⟩
              obtain ⟨q3, C3⟩ := id X3
              obtain ⟨-, _, _, w0, -⟩ := id C3
              refine z_istore (pc := 108) (lv' := [(7, _), (0, _), (1, _), (2, _), (3, _), (4, _), (5, _), (6, _)]) C dX9_findsRow_108 (by decide) rfl ?_
              refine z_aload_n (pc := 110) C dX9_findsRow_110 1 rfl ?_
              refine z_getf (pc := 111) C dX9_findsRow_111 fX9_17 q3 (by first | rfl | assumption) ?_
              refine z_iload (pc := 114) C dX9_findsRow_114 5 rfl ?_
              refine z_iload (pc := 116) C dX9_findsRow_116 6 rfl ?_
              refine z_cV0Q (pc := 118) mX5_goBack C [_, _] dX9_findsRow_118 lX9_74 mtX5_goBack (tX5_goBackQ C3 hR hm3) w0 rfl rfl (by omega) (Nat.le_of_ble_eq_true rfl) (Nat.zero_le _) (Nat.zero_le _) ?_
              rintro h4 ⟨C4, G4⟩
              obtain ⟨X4, F4⟩ := X3.goes C4 G4
              rw [sgb_sgo] at X4
              obtain ⟨q4, -⟩ := id X4
              refine z_iload (pc := 121) C dX9_findsRow_121 0 rfl ?_
              first | refine z_ifeqB (pc := 123) C 147 dX9_findsRow_123 (by decide) (fun hc123 => ?_) (fun hc123 => ?_) | refine z_ifeqN (pc := 123) C 147 dX9_findsRow_123 (by decide) (by omega) (fun hc123 => ?_) (fun hc123 => ?_) | refine z_if_eq (pc := 123) C 147 dX9_findsRow_123 (by decide) (fun hc123 => ?_) (fun hc123 => ?_)
              · skip
                have e6 : slu R k p m l (sgo T m (sgl T m g)) = none := Option.isSome_eq_false_iff.mp hc123 |> Option.isNone_iff_eq_none.mp
                rw [e6] at X4
                have X5 : Tri h4 x1 x2 t R T := by rw [show x1 = x1 + nI ((none : Option Nat).getD 0) from (Int32.add_zero x1).symm]; exact X4
                have e9 := ih (f - 1) (by omega) (g + 1) h4 ⟨by omega, by rw [he]; obtain ⟨f, rfl⟩ : ∃ y, f = y + 1 := ⟨f - 1, by omega⟩; rw [sdl_no e4 e6]; rfl, X5, ((F1.tr F2).tr F3).tr F4⟩
                first | refine z_iincN (pc := 147) (lv' := [(6, _), (7, _), (0, _), (1, _), (2, _), (3, _), (4, _), (5, _)]) C 1 dX9_findsRow_147 7 rfl (by decide) (by decide) rfl ?_ | refine z_iinc (pc := 147) (lv' := [(6, _), (7, _), (0, _), (1, _), (2, _), (3, _), (4, _), (5, _)]) C dX9_findsRow_147 7 rfl _ rfl (by decide) rfl ?_
                refine z_goto (pc := 150) C 54 dX9_findsRow_150 (by decide) ?_
                refine z_sub (lv' := [(0, _), (1, _), (2, _), (3, _), (4, _), (5, _), (6, _)]) [2, 3, 4, 5, 6, 7, 0] rfl ?_
                exact e9
              · skip
                obtain ⟨r, e6⟩ := Option.isSome_iff_exists.mp hc123
                rw [e6] at X4 q4
                have e7 : slu R k p m (l + 1) T = some (10 ^ l * g + r) := by rw [slu, he]; obtain ⟨f, rfl⟩ : ∃ y, f = y + 1 := ⟨f - 1, by omega⟩; exact sdl_ok e4 e6
                refine z_aload_n (pc := 126) C dX9_findsRow_126 1 rfl ?_
                refine z_dup (pc := 127) C dX9_findsRow_127 rfl ?_
                refine z_getf (pc := 128) C dX9_findsRow_128 fX9_47 q4 (by first | rfl | assumption) ?_
                refine z_iload (pc := 131) C dX9_findsRow_131 7 rfl ?_
                refine z_stn (pc := 133) (i := 3) C dX9_findsRow_133 (by decide) sX9_31 ?_
                refine z_iload_n (pc := 136) C dX9_findsRow_136 4 rfl ?_
                refine z_iconst (pc := 137) C dX9_findsRow_137 (nI 1) (by decide) ?_
                first | refine z_isubN (pc := 138) C dX9_findsRow_138 (by omega) ?_ | refine z_isub (pc := 138) C dX9_findsRow_138 ?_
                refine z_stld (pc := 139) (i := 3) C dX9_findsRow_139 (by decide) (by show l + 1 - 1 < 7; omega) ?_
                rw [show l + 1 - 1 = l from rfl, zSt3 (by omega)]
                first | refine z_imulN (pc := 140) C dX9_findsRow_140 ?_ | refine z_imul (pc := 140) C dX9_findsRow_140 ?_
                refine z_iadd (pc := 141) C dX9_findsRow_141 ?_
                refine z_putf (pc := 142) (fs' := [_, _, _]) C dX9_findsRow_142 gX9_47 q4 (fun _ => ⟨rfl, rfl⟩) (by exact Nat.le_of_ble_eq_true rfl) (by rfl) ?_
                refine z_iconst (pc := 145) C dX9_findsRow_145 (zb true) (by decide) ?_
                refine z_zret (pc := 146) C dX9_findsRow_146 rfl (by first | exact zb_nar _ | rfl) (Nat.zero_le _) (Nat.zero_le _) ⟨_, rfl, ?_, rfl⟩
                rw [e7]; refine ⟨rfl, ?_, ?_⟩
                · have X6 := (X4.set (y1 := x1 + nI r + nI (g * 10 ^ l)) (y2 := x2) hq).1
                  rw [show (some (10 ^ l * g + r)).getD 0 = r + g * 10 ^ l from by show 10 ^ l * g + r = _; rw [Nat.mul_comm, Nat.add_comm], ← nI_add, ← Int32.add_assoc]
                  exact X6
                · exact (((F1.tr F2).tr F3).tr F4).tr (X4.set hq).2
      exact lp54 (R 1 + 1) 0 h ⟨by omega, rfl, hX, trF.rf h⟩
    · exact absurd hc6 (by omega)

theorem tX9_findsRow {R : Nat → Nat} {t k p m : Nat} (hq : t = 1008 ∨ t = 1039) (hR : wfR R) (hk : k < R 4) (hp : p < R 1) : ∀ l, l ≤ 5 → LuC R t k p m l := by
  intro l
  induction l with
  | zero => intro _ h x1 x2 T hX hS hm; exact tX9_findsRow0 hX hq hR hS hk hp hm
  | succ l ih => intro hl h x1 x2 T hX hS hm; exact tX9_findsRowS hX hq hR hS hk hp hm (by omega) (ih (by omega))
def spC (R : Nat → Nat) (t k m l : Nat) : Prop := ∀ (h : ZH) (x1 x2 : Int32) (T : Nat → Nat), Tri h x1 x2 t R T → wfS R T → T (32 + k) = m → ZQ1 mX9_placesLured (3 + l) [.ref 1019, .int (nI k), .int (nI l)] h (fun w hh => w = .int (nI (spl R k m l T)) ∧ Tri hh x1 x2 t R T ∧ trF h hh)

set_option maxRecDepth 20000 in
set_option maxHeartbeats 1000000 in
theorem tX9_placesLured0 {h : ZH} {t k m : Nat} {R T : Nat → Nat} {x1 x2 : Int32} (hX : Tri h x1 x2 t R T) (hq : t = 1008 ∨ t = 1039) (hR : wfR R) (hS : wfS R T) (hk : k < R 4) (hm : T (32 + k) = m) : ZQ1 mX9_placesLured 3 [.ref 1019, .int (nI k), .int (nI 0)] h (fun w hh => w = .int (nI (spl R k m 0 T)) ∧ Tri hh x1 x2 t R T ∧ trF h hh) := by
  intro n
  obtain ⟨w1, w3, w4, w5, w0, wP, wM, wK, wX⟩ := id hR
  obtain ⟨wT, wL, wB⟩ := id hS
  obtain ⟨q0, hC⟩ := id hX
  obtain ⟨hT, fl, ft, s0, s1, s2, rl, rt⟩ := id hC
  obtain ⟨fc, fh, fn, fk, fs, ff, fw, fe, t0, t1, t2, t3, t4, t5, t6, t7, t8, rc, rh, rn, rk, rs, rf, rv, re⟩ := id hT
  have e1 : ∀ q, sstd R T k = some q → q < 2147483648 := fun q hq => by have := sstd_lt hR hS hk hq; omega
  refine z_enter (lv := [(0, _), (1, _), (2, _)]) (by decide) (Nat.le_of_ble_eq_true rfl) rfl (fun X C => ?_)
  refine z_aload_n (pc := 0) C dX9_placesLured_0 0 rfl ?_
  refine z_getf (pc := 1) C dX9_placesLured_1 fX9_17 (by assumption) (by first | rfl | assumption) ?_
  refine z_iload_n (pc := 4) C dX9_placesLured_4 1 rfl ?_
  refine z_cV1 (pc := 5) mX5_standOf C [_] dX9_placesLured_5 lX9_55 mtX5_standOf (tX5_standOf hC hR hS hk) (by assumption) rfl rfl (by decide) (Nat.le_of_ble_eq_true rfl) (Nat.zero_le _) (Nat.zero_le _) ?_
  refine z_istore_n (pc := 8) (lv' := [(3, _), (0, _), (1, _), (2, _)]) C dX9_placesLured_8 (by decide) rfl ?_
  refine z_iload_n (pc := 9) C dX9_placesLured_9 0 rfl ?_
  first | refine z_ifltO (pc := 10) C 19 dX9_placesLured_10 (by decide) e1 (fun hc10 => ?_) (fun hc10 => ?_) | refine z_ifltN (pc := 10) C 19 dX9_placesLured_10 (by decide) (by omega) (fun hc10 => ?_) (fun hc10 => ?_) | refine z_if_lt (pc := 10) C 19 dX9_placesLured_10 (by decide) (fun hc10 => ?_) (fun hc10 => ?_)
  · skip
    refine z_iconst (pc := 19) C dX9_placesLured_19 (nI 0) (by decide) ?_
    refine z_top (show nI 0 = nI (sbt (sstd R T k)) from by rw [hc10]; rfl) ?_
    refine z_istore (pc := 20) (lv' := [(4, _), (3, _), (0, _), (1, _), (2, _)]) C dX9_placesLured_20 (by decide) rfl ?_
    refine z_iload_n (pc := 22) C dX9_placesLured_22 4 rfl ?_
    first | refine z_ifleN (pc := 23) C 31 dX9_placesLured_23 (by decide) (by omega) (fun hc23 => ?_) (fun hc23 => ?_) | refine z_if_le (pc := 23) C 31 dX9_placesLured_23 (by decide) (fun hc23 => ?_) (fun hc23 => ?_)
    · skip
      refine z_iload (pc := 31) C dX9_placesLured_31 0 rfl ?_
      refine z_iret (pc := 33) C dX9_placesLured_33 rfl (Nat.zero_le _) (Nat.zero_le _) ⟨_, rfl, ?_, rfl⟩
      exact ⟨rfl, hX, trF.rf h⟩
    · exact absurd hc23 (by decide)
  · skip
    obtain ⟨q, hq9⟩ := hc10
    have e2 := sstd_lt hR hS hk hq9
    rw [hq9]
    refine z_iconst (pc := 13) C dX9_placesLured_13 (nI 1) (by decide) ?_
    refine z_iload_n (pc := 14) C dX9_placesLured_14 0 rfl ?_
    refine z_top (show zo (some q) = nI q from rfl) ?_
    first | refine z_ishlN (pc := 15) C dX9_placesLured_15 (by omega) ?_ | refine z_ishl (pc := 15) C dX9_placesLured_15 ?_
    refine z_top (show nI (1 <<< q) = nI (sbt (sstd R T k)) from by rw [hq9]; rfl) ?_
    refine z_goto (pc := 16) C 20 dX9_placesLured_16 (by decide) ?_
    refine z_istore (pc := 20) (lv' := [(4, _), (3, _), (0, _), (1, _), (2, _)]) C dX9_placesLured_20 (by decide) rfl ?_
    refine z_iload_n (pc := 22) C dX9_placesLured_22 4 rfl ?_
    first | refine z_ifleN (pc := 23) C 31 dX9_placesLured_23 (by decide) (by omega) (fun hc23 => ?_) (fun hc23 => ?_) | refine z_if_le (pc := 23) C 31 dX9_placesLured_23 (by decide) (fun hc23 => ?_) (fun hc23 => ?_)
    · skip
      refine z_iload (pc := 31) C dX9_placesLured_31 0 rfl ?_
      refine z_iret (pc := 33) C dX9_placesLured_33 rfl (Nat.zero_le _) (Nat.zero_le _) ⟨_, rfl, ?_, rfl⟩
      exact ⟨rfl, hX, trF.rf h⟩
    · exact absurd hc23 (by decide)

set_option maxRecDepth 20000 in
set_option maxHeartbeats 1000000 in
theorem tX9_placesLuredS {h : ZH} {t k m : Nat} {R T : Nat → Nat} {x1 x2 : Int32} {l : Nat} (hX : Tri h x1 x2 t R T) (hq : t = 1008 ∨ t = 1039) (hR : wfR R) (hS : wfS R T) (hk : k < R 4) (hm : T (32 + k) = m) (hl : l < 5) (IH : spC R t k m l) : ZQ1 mX9_placesLured (3 + (l + 1)) [.ref 1019, .int (nI k), .int (nI (l + 1))] h (fun w hh => w = .int (nI (spl R k m (l + 1) T)) ∧ Tri hh x1 x2 t R T ∧ trF h hh) := by
  intro n
  obtain ⟨w1, w3, w4, w5, w0, wP, wM, wK, wX⟩ := id hR
  obtain ⟨wT, wL, wB⟩ := id hS
  obtain ⟨q0, hC⟩ := id hX
  obtain ⟨hT, fl, ft, s0, s1, s2, rl, rt⟩ := id hC
  obtain ⟨fc, fh, fn, fk, fs, ff, fw, fe, t0, t1, t2, t3, t4, t5, t6, t7, t8, rc, rh, rn, rk, rs, rf, rv, re⟩ := id hT
  have e1 : ∀ q, sstd R T k = some q → q < 2147483648 := fun q hq => by have := sstd_lt hR hS hk hq; omega
  have hm3 : m < R 3 := by rw [← hm]; exact wL k hk
  refine z_enter (lv := [(0, _), (1, _), (2, _)]) (by decide) (Nat.le_of_ble_eq_true rfl) rfl (fun X C => ?_)
  refine z_aload_n (pc := 0) C dX9_placesLured_0 0 rfl ?_
  refine z_getf (pc := 1) C dX9_placesLured_1 fX9_17 (by assumption) (by first | rfl | assumption) ?_
  refine z_iload_n (pc := 4) C dX9_placesLured_4 1 rfl ?_
  refine z_cV1 (pc := 5) mX5_standOf C [_] dX9_placesLured_5 lX9_55 mtX5_standOf (tX5_standOf hC hR hS hk) (by assumption) rfl rfl (by omega) (Nat.le_of_ble_eq_true rfl) (Nat.zero_le _) (Nat.zero_le _) ?_
  refine z_istore_n (pc := 8) (lv' := [(3, _), (0, _), (1, _), (2, _)]) C dX9_placesLured_8 (by decide) rfl ?_
  refine z_iload_n (pc := 9) C dX9_placesLured_9 0 rfl ?_
  first | refine z_ifltO (pc := 10) C 19 dX9_placesLured_10 (by decide) e1 (fun hc10 => ?_) (fun hc10 => ?_) | refine z_ifltN (pc := 10) C 19 dX9_placesLured_10 (by decide) (by omega) (fun hc10 => ?_) (fun hc10 => ?_) | refine z_if_lt (pc := 10) C 19 dX9_placesLured_10 (by decide) (fun hc10 => ?_) (fun hc10 => ?_)
  · skip
    refine z_iconst (pc := 19) C dX9_placesLured_19 (nI 0) (by decide) ?_
    refine z_top (show nI 0 = nI (sbt (sstd R T k)) from by rw [hc10]; rfl) ?_
    refine z_istore (pc := 20) (lv' := [(4, _), (3, _), (0, _), (1, _), (2, _)]) C dX9_placesLured_20 (by decide) rfl ?_
    refine z_iload_n (pc := 22) C dX9_placesLured_22 4 rfl ?_
    first | refine z_ifleN (pc := 23) C 31 dX9_placesLured_23 (by decide) (by omega) (fun hc23 => ?_) (fun hc23 => ?_) | refine z_if_le (pc := 23) C 31 dX9_placesLured_23 (by decide) (fun hc23 => ?_) (fun hc23 => ?_)
    · exact absurd hc23 (by omega)
    · skip
      refine z_iload_n (pc := 26) C dX9_placesLured_26 4 rfl ?_
      refine z_iconst (pc := 27) C dX9_placesLured_27 (nI 5) (by decide) ?_
      first | refine z_icmpleN (pc := 28) C 34 dX9_placesLured_28 (by decide) (by omega) (by omega) (fun hc28 => ?_) (fun hc28 => ?_) | refine z_icmp_le (pc := 28) C 34 dX9_placesLured_28 (by decide) (fun hc28 => ?_) (fun hc28 => ?_)
      · skip
        refine z_aload_n (pc := 34) C dX9_placesLured_34 2 rfl ?_
        refine z_getf (pc := 35) C dX9_placesLured_35 fX9_17 (by assumption) (by first | rfl | assumption) ?_
        refine z_getf (pc := 38) C dX9_placesLured_38 fX9_58 (by assumption) (by first | rfl | assumption) ?_
        refine z_iload_n (pc := 41) C dX9_placesLured_41 3 rfl ?_
        refine z_ialdE (pc := 42) C dX9_placesLured_42 (by assumption) (by omega) (by decide) (show fl k = m from by rw [rl k hk]; exact hm) ?_
        refine z_istore (pc := 43) (lv' := [(5, _), (4, _), (3, _), (0, _), (1, _), (2, _)]) C dX9_placesLured_43 (by decide) rfl ?_
        refine z_aload_n (pc := 45) C dX9_placesLured_45 3 rfl ?_
        refine z_getf (pc := 46) C dX9_placesLured_46 fX9_17 (by assumption) (by first | rfl | assumption) ?_
        refine z_iload (pc := 49) C dX9_placesLured_49 0 rfl ?_
        refine z_bipush (pc := 51) C dX9_placesLured_51 (nI 7) (by decide) ?_
        refine z_cV1 (pc := 53) mX5_wasAt C [_, _] dX9_placesLured_53 lX9_61 mtX5_wasAt (tX5_wasAt hC hR hm3 (by decide)) (by assumption) rfl rfl (by omega) (Nat.le_of_ble_eq_true rfl) (Nat.zero_le _) (Nat.zero_le _) ?_
        refine z_istore (pc := 56) (lv' := [(6, _), (5, _), (4, _), (3, _), (0, _), (1, _), (2, _)]) C dX9_placesLured_56 (by decide) rfl ?_
        refine z_iconst (pc := 58) C dX9_placesLured_58 (nI 0) (by decide) ?_
        refine z_istore (pc := 59) (lv' := [(7, _), (6, _), (5, _), (4, _), (3, _), (0, _), (1, _), (2, _)]) C dX9_placesLured_59 (by decide) rfl ?_
        refine z_sub (lv' := [(0, _), (1, _), (2, _), (3, _), (4, _), (5, _), (6, _), (7, _)]) [5, 6, 7, 4, 3, 2, 1, 0] rfl ?_
        have lp61 : ∀ (f : Nat) (g acc : Nat) (h1 : ZH), (g + f = R 1 + 1 ∧ acc = sor (fun d => spl R k m l (sgo T m (sgl T m d))) (sOk R T m) g (sbt (sstd R T k)) ∧ Tri h1 x1 x2 t R T ∧ trF h h1) → Zc X mX9_placesLured (zEnd X (fun r hh n' => ∃ w, r = some w ∧ (w = .int (nI (spl R k m (l + 1) T)) ∧ Tri hh x1 x2 t R T ∧ trF h hh) ∧ n' = n) 0 0) 61 [(0, .ref 1019), (1, .int (nI k)), (2, .int (nI (l + 1))), (3, .int (zo (sstd R T k))), (4, .int (nI acc)), (5, .int (nI m)), (6, .int (nI (T (8 * m + 7)))), (7, .int (nI g))] [] h1 n 0 0 := by
          intro f
          induction f using Nat.strongRecOn with
          | _ f ih =>
            intro g acc h1 hk2
            obtain ⟨hk2, he, X1, F1⟩ := hk2
            obtain ⟨q1, C1⟩ := id X1
            obtain ⟨hT1, fl1, ft1, u0, u1, u2, ul, ut⟩ := id C1
            obtain ⟨_, _, _, _, _, _, _, _, k0, k1, -, -, -, -, -, -, -, kc, -⟩ := id hT1
            refine z_iload (pc := 61) C dX9_placesLured_61 7 rfl ?_
            refine z_aload_n (pc := 63) C dX9_placesLured_63 0 rfl ?_
            refine z_getf (pc := 64) C dX9_placesLured_64 fX9_17 q1 (by first | rfl | assumption) ?_
            refine z_getf (pc := 67) C dX9_placesLured_67 fX9_64 u0 (by first | rfl | assumption) ?_
            refine z_getf (pc := 70) C dX9_placesLured_70 fX9_68 k0 (by first | rfl | assumption) ?_
            refine z_iconst (pc := 73) C dX9_placesLured_73 (nI 1) (by decide) ?_
            refine z_ialdE (pc := 74) C dX9_placesLured_74 k1 (by omega) (by decide) (kc 1 (by decide) (by decide)) ?_
            first | refine z_icmpgtN (pc := 75) C 136 dX9_placesLured_75 (by decide) (by omega) (by omega) (fun hc75 => ?_) (fun hc75 => ?_) | refine z_icmp_gt (pc := 75) C 136 dX9_placesLured_75 (by decide) (fun hc75 => ?_) (fun hc75 => ?_)
            · skip
              refine z_iload (pc := 136) C dX9_placesLured_136 4 rfl ?_
              refine z_iret (pc := 138) C dX9_placesLured_138 rfl (Nat.zero_le _) (Nat.zero_le _) ⟨_, rfl, ?_, rfl⟩
              obtain rfl : f = 0 := (by omega); obtain rfl : g = R 1 + 1 := (by omega); exact ⟨by rw [he]; rfl, X1, F1⟩
            · skip
              refine z_aload_n (pc := 78) C dX9_placesLured_78 0 rfl ?_
              refine z_iload (pc := 79) C dX9_placesLured_79 5 rfl ?_
              refine z_iload (pc := 81) C dX9_placesLured_81 7 rfl ?_
              refine z_cV1 (pc := 83) mX9_isStep C [_, _] dX9_placesLured_83 lX9_71 mtX9_isStep (tX9_isStep X1 hR hS hm3 (by omega)) q1 rfl rfl (by omega) (Nat.le_of_ble_eq_true rfl) (Nat.zero_le _) (Nat.zero_le _) ?_
              first | refine z_ifeqB (pc := 86) C 130 dX9_placesLured_86 (by decide) (fun hc86 => ?_) (fun hc86 => ?_) | refine z_ifeqN (pc := 86) C 130 dX9_placesLured_86 (by decide) (by omega) (fun hc86 => ?_) (fun hc86 => ?_) | refine z_if_eq (pc := 86) C 130 dX9_placesLured_86 (by decide) (fun hc86 => ?_) (fun hc86 => ?_)
              · skip
                have e4 : sOk R T m g = false := hc86
                have e9 := ih (f - 1) (by omega) (g + 1) acc h1 ⟨by omega, by rw [he, sor, e4]; rfl, X1, F1⟩
                first | refine z_iincN (pc := 130) (lv' := [(7, _), (0, _), (1, _), (2, _), (3, _), (4, _), (5, _), (6, _)]) C 1 dX9_placesLured_130 7 rfl (by decide) (by decide) rfl ?_ | refine z_iinc (pc := 130) (lv' := [(7, _), (0, _), (1, _), (2, _), (3, _), (4, _), (5, _), (6, _)]) C dX9_placesLured_130 7 rfl _ rfl (by decide) rfl ?_
                refine z_goto (pc := 133) C 61 dX9_placesLured_133 (by decide) ?_
                refine z_sub (lv' := [(0, _), (1, _), (2, _), (3, _), (4, _), (5, _), (6, _), (7, _)]) [1, 2, 3, 4, 5, 6, 7, 0] rfl ?_
                exact e9
              · skip
                have e4 : sOk R T m g = true := hc86
                obtain ⟨e5, -⟩ := sOk_lt hR hS hm3 e4
                refine z_aload_n (pc := 89) C dX9_placesLured_89 0 rfl ?_
                refine z_getf (pc := 90) C dX9_placesLured_90 fX9_17 q1 (by first | rfl | assumption) ?_
                refine z_iload (pc := 93) C dX9_placesLured_93 5 rfl ?_
                refine z_aload_n (pc := 95) C dX9_placesLured_95 0 rfl ?_
                refine z_iload (pc := 96) C dX9_placesLured_96 5 rfl ?_
                refine z_iload (pc := 98) C dX9_placesLured_98 7 rfl ?_
                refine z_cV1 (pc := 100) mX9_goal C [_, _] dX9_placesLured_100 lX9_35 mtX9_goal (tX9_goal X1 hR hm3 (by omega)) q1 rfl rfl (by omega) (Nat.le_of_ble_eq_true rfl) (Nat.zero_le _) (Nat.zero_le _) ?_
                refine z_cV0Q (pc := 103) mX5_go C [_, _] dX9_placesLured_103 lX9_43 mtX5_go (tX5_goQ C1 hR hm3) u0 rfl rfl (by omega) (Nat.le_of_ble_eq_true rfl) (Nat.zero_le _) (Nat.zero_le _) ?_
                rintro h2 ⟨C2, G2⟩
                obtain ⟨X2, F2⟩ := X1.goes C2 G2
                obtain ⟨q2, -⟩ := id X2
                have W2 := wfS_go hR hS hm3 e5
                refine z_iload (pc := 106) C dX9_placesLured_106 4 rfl ?_
                refine z_aload_n (pc := 108) C dX9_placesLured_108 0 rfl ?_
                refine z_iload_n (pc := 109) C dX9_placesLured_109 1 rfl ?_
                refine z_iload_n (pc := 110) C dX9_placesLured_110 2 rfl ?_
                refine z_iconst (pc := 111) C dX9_placesLured_111 (nI 1) (by decide) ?_
                first | refine z_isubN (pc := 112) C dX9_placesLured_112 (by omega) ?_ | refine z_isub (pc := 112) C dX9_placesLured_112 ?_
                refine z_top (show nI (l + 1 - 1) = nI l from rfl) ?_
                refine z_cV1Q (pc := 113) mX9_placesLured C [_, _] dX9_placesLured_113 lX9_83 mtX9_placesLured (IH h2 x1 x2 _ X2 W2 (by rw [sgo_k (by omega) (by omega)]; exact hm)) q2 rfl rfl (by omega) (Nat.le_of_ble_eq_true rfl) (Nat.zero_le _) (Nat.zero_le _) ?_
                rintro _ h3 ⟨rfl, X3, F3⟩
                obtain ⟨q3, C3⟩ := id X3
                obtain ⟨-, _, _, w0, -⟩ := id C3
                first | refine z_iorN (pc := 116) C dX9_placesLured_116 ?_ | refine z_ior (pc := 116) C dX9_placesLured_116 ?_
                refine z_istore (pc := 117) (lv' := [(4, _), (0, _), (1, _), (2, _), (3, _), (5, _), (6, _), (7, _)]) C dX9_placesLured_117 (by decide) rfl ?_
                refine z_aload_n (pc := 119) C dX9_placesLured_119 1 rfl ?_
                refine z_getf (pc := 120) C dX9_placesLured_120 fX9_17 q3 (by first | rfl | assumption) ?_
                refine z_iload (pc := 123) C dX9_placesLured_123 5 rfl ?_
                refine z_iload (pc := 125) C dX9_placesLured_125 6 rfl ?_
                refine z_cV0Q (pc := 127) mX5_goBack C [_, _] dX9_placesLured_127 lX9_74 mtX5_goBack (tX5_goBackQ C3 hR hm3) w0 rfl rfl (by omega) (Nat.le_of_ble_eq_true rfl) (Nat.zero_le _) (Nat.zero_le _) ?_
                rintro h4 ⟨C4, G4⟩
                obtain ⟨X4, F4⟩ := X3.goes C4 G4
                rw [sgb_sgo] at X4
                have e9 := ih (f - 1) (by omega) (g + 1) (acc ||| spl R k m l (sgo T m (sgl T m g))) h4 ⟨by omega, by rw [he, sor, if_pos e4], X4, ((F1.tr F2).tr F3).tr F4⟩
                first | refine z_iincN (pc := 130) (lv' := [(7, _), (4, _), (0, _), (1, _), (2, _), (3, _), (5, _), (6, _)]) C 1 dX9_placesLured_130 7 rfl (by decide) (by decide) rfl ?_ | refine z_iinc (pc := 130) (lv' := [(7, _), (4, _), (0, _), (1, _), (2, _), (3, _), (5, _), (6, _)]) C dX9_placesLured_130 7 rfl _ rfl (by decide) rfl ?_
                refine z_goto (pc := 133) C 61 dX9_placesLured_133 (by decide) ?_
                refine z_sub (lv' := [(0, _), (1, _), (2, _), (3, _), (4, _), (5, _), (6, _), (7, _)]) [2, 3, 4, 5, 1, 6, 7, 0] rfl ?_
                exact e9
        first | exact lp61 (R 1 + 1) 0 _ h ⟨by omega, rfl, hX, trF.rf h⟩ | (rw [← hq9]; exact lp61 (R 1 + 1) 0 _ h ⟨by omega, rfl, hX, trF.rf h⟩)
      · exact absurd hc28 (by omega)
  · skip
    obtain ⟨q, hq9⟩ := hc10
    have e2 := sstd_lt hR hS hk hq9
    rw [hq9]
    refine z_iconst (pc := 13) C dX9_placesLured_13 (nI 1) (by decide) ?_
    refine z_iload_n (pc := 14) C dX9_placesLured_14 0 rfl ?_
    refine z_top (show zo (some q) = nI q from rfl) ?_
    first | refine z_ishlN (pc := 15) C dX9_placesLured_15 (by omega) ?_ | refine z_ishl (pc := 15) C dX9_placesLured_15 ?_
    refine z_top (show nI (1 <<< q) = nI (sbt (sstd R T k)) from by rw [hq9]; rfl) ?_
    refine z_goto (pc := 16) C 20 dX9_placesLured_16 (by decide) ?_
    refine z_istore (pc := 20) (lv' := [(4, _), (3, _), (0, _), (1, _), (2, _)]) C dX9_placesLured_20 (by decide) rfl ?_
    refine z_iload_n (pc := 22) C dX9_placesLured_22 4 rfl ?_
    first | refine z_ifleN (pc := 23) C 31 dX9_placesLured_23 (by decide) (by omega) (fun hc23 => ?_) (fun hc23 => ?_) | refine z_if_le (pc := 23) C 31 dX9_placesLured_23 (by decide) (fun hc23 => ?_) (fun hc23 => ?_)
    · exact absurd hc23 (by omega)
    · skip
      refine z_iload_n (pc := 26) C dX9_placesLured_26 4 rfl ?_
      refine z_iconst (pc := 27) C dX9_placesLured_27 (nI 5) (by decide) ?_
      first | refine z_icmpleN (pc := 28) C 34 dX9_placesLured_28 (by decide) (by omega) (by omega) (fun hc28 => ?_) (fun hc28 => ?_) | refine z_icmp_le (pc := 28) C 34 dX9_placesLured_28 (by decide) (fun hc28 => ?_) (fun hc28 => ?_)
      · skip
        refine z_aload_n (pc := 34) C dX9_placesLured_34 2 rfl ?_
        refine z_getf (pc := 35) C dX9_placesLured_35 fX9_17 (by assumption) (by first | rfl | assumption) ?_
        refine z_getf (pc := 38) C dX9_placesLured_38 fX9_58 (by assumption) (by first | rfl | assumption) ?_
        refine z_iload_n (pc := 41) C dX9_placesLured_41 3 rfl ?_
        refine z_ialdE (pc := 42) C dX9_placesLured_42 (by assumption) (by omega) (by decide) (show fl k = m from by rw [rl k hk]; exact hm) ?_
        refine z_istore (pc := 43) (lv' := [(5, _), (4, _), (3, _), (0, _), (1, _), (2, _)]) C dX9_placesLured_43 (by decide) rfl ?_
        refine z_aload_n (pc := 45) C dX9_placesLured_45 3 rfl ?_
        refine z_getf (pc := 46) C dX9_placesLured_46 fX9_17 (by assumption) (by first | rfl | assumption) ?_
        refine z_iload (pc := 49) C dX9_placesLured_49 0 rfl ?_
        refine z_bipush (pc := 51) C dX9_placesLured_51 (nI 7) (by decide) ?_
        refine z_cV1 (pc := 53) mX5_wasAt C [_, _] dX9_placesLured_53 lX9_61 mtX5_wasAt (tX5_wasAt hC hR hm3 (by decide)) (by assumption) rfl rfl (by omega) (Nat.le_of_ble_eq_true rfl) (Nat.zero_le _) (Nat.zero_le _) ?_
        refine z_istore (pc := 56) (lv' := [(6, _), (5, _), (4, _), (3, _), (0, _), (1, _), (2, _)]) C dX9_placesLured_56 (by decide) rfl ?_
        refine z_iconst (pc := 58) C dX9_placesLured_58 (nI 0) (by decide) ?_
        refine z_istore (pc := 59) (lv' := [(7, _), (6, _), (5, _), (4, _), (3, _), (0, _), (1, _), (2, _)]) C dX9_placesLured_59 (by decide) rfl ?_
        refine z_sub (lv' := [(0, _), (1, _), (2, _), (3, _), (4, _), (5, _), (6, _), (7, _)]) [5, 6, 7, 4, 3, 2, 1, 0] rfl ?_
        have lp61 : ∀ (f : Nat) (g acc : Nat) (h1 : ZH), (g + f = R 1 + 1 ∧ acc = sor (fun d => spl R k m l (sgo T m (sgl T m d))) (sOk R T m) g (sbt (sstd R T k)) ∧ Tri h1 x1 x2 t R T ∧ trF h h1) → Zc X mX9_placesLured (zEnd X (fun r hh n' => ∃ w, r = some w ∧ (w = .int (nI (spl R k m (l + 1) T)) ∧ Tri hh x1 x2 t R T ∧ trF h hh) ∧ n' = n) 0 0) 61 [(0, .ref 1019), (1, .int (nI k)), (2, .int (nI (l + 1))), (3, .int (zo (sstd R T k))), (4, .int (nI acc)), (5, .int (nI m)), (6, .int (nI (T (8 * m + 7)))), (7, .int (nI g))] [] h1 n 0 0 := by
          intro f
          induction f using Nat.strongRecOn with
          | _ f ih =>
            intro g acc h1 hk2
            obtain ⟨hk2, he, X1, F1⟩ := hk2
            obtain ⟨q1, C1⟩ := id X1
            obtain ⟨hT1, fl1, ft1, u0, u1, u2, ul, ut⟩ := id C1
            obtain ⟨_, _, _, _, _, _, _, _, k0, k1, -, -, -, -, -, -, -, kc, -⟩ := id hT1
            refine z_iload (pc := 61) C dX9_placesLured_61 7 rfl ?_
            refine z_aload_n (pc := 63) C dX9_placesLured_63 0 rfl ?_
            refine z_getf (pc := 64) C dX9_placesLured_64 fX9_17 q1 (by first | rfl | assumption) ?_
            refine z_getf (pc := 67) C dX9_placesLured_67 fX9_64 u0 (by first | rfl | assumption) ?_
            refine z_getf (pc := 70) C dX9_placesLured_70 fX9_68 k0 (by first | rfl | assumption) ?_
            refine z_iconst (pc := 73) C dX9_placesLured_73 (nI 1) (by decide) ?_
            refine z_ialdE (pc := 74) C dX9_placesLured_74 k1 (by omega) (by decide) (kc 1 (by decide) (by decide)) ?_
            first | refine z_icmpgtN (pc := 75) C 136 dX9_placesLured_75 (by decide) (by omega) (by omega) (fun hc75 => ?_) (fun hc75 => ?_) | refine z_icmp_gt (pc := 75) C 136 dX9_placesLured_75 (by decide) (fun hc75 => ?_) (fun hc75 => ?_)
            · skip
              refine z_iload (pc := 136) C dX9_placesLured_136 4 rfl ?_
              refine z_iret (pc := 138) C dX9_placesLured_138 rfl (Nat.zero_le _) (Nat.zero_le _) ⟨_, rfl, ?_, rfl⟩
              obtain rfl : f = 0 := (by omega); obtain rfl : g = R 1 + 1 := (by omega); exact ⟨by rw [he]; rfl, X1, F1⟩
            · skip
              refine z_aload_n (pc := 78) C dX9_placesLured_78 0 rfl ?_
              refine z_iload (pc := 79) C dX9_placesLured_79 5 rfl ?_
              refine z_iload (pc := 81) C dX9_placesLured_81 7 rfl ?_
              refine z_cV1 (pc := 83) mX9_isStep C [_, _] dX9_placesLured_83 lX9_71 mtX9_isStep (tX9_isStep X1 hR hS hm3 (by omega)) q1 rfl rfl (by omega) (Nat.le_of_ble_eq_true rfl) (Nat.zero_le _) (Nat.zero_le _) ?_
              first | refine z_ifeqB (pc := 86) C 130 dX9_placesLured_86 (by decide) (fun hc86 => ?_) (fun hc86 => ?_) | refine z_ifeqN (pc := 86) C 130 dX9_placesLured_86 (by decide) (by omega) (fun hc86 => ?_) (fun hc86 => ?_) | refine z_if_eq (pc := 86) C 130 dX9_placesLured_86 (by decide) (fun hc86 => ?_) (fun hc86 => ?_)
              · skip
                have e4 : sOk R T m g = false := hc86
                have e9 := ih (f - 1) (by omega) (g + 1) acc h1 ⟨by omega, by rw [he, sor, e4]; rfl, X1, F1⟩
                first | refine z_iincN (pc := 130) (lv' := [(7, _), (0, _), (1, _), (2, _), (3, _), (4, _), (5, _), (6, _)]) C 1 dX9_placesLured_130 7 rfl (by decide) (by decide) rfl ?_ | refine z_iinc (pc := 130) (lv' := [(7, _), (0, _), (1, _), (2, _), (3, _), (4, _), (5, _), (6, _)]) C dX9_placesLured_130 7 rfl _ rfl (by decide) rfl ?_
                refine z_goto (pc := 133) C 61 dX9_placesLured_133 (by decide) ?_
                refine z_sub (lv' := [(0, _), (1, _), (2, _), (3, _), (4, _), (5, _), (6, _), (7, _)]) [1, 2, 3, 4, 5, 6, 7, 0] rfl ?_
                exact e9
              · skip
                have e4 : sOk R T m g = true := hc86
                obtain ⟨e5, -⟩ := sOk_lt hR hS hm3 e4
                refine z_aload_n (pc := 89) C dX9_placesLured_89 0 rfl ?_
                refine z_getf (pc := 90) C dX9_placesLured_90 fX9_17 q1 (by first | rfl | assumption) ?_
                refine z_iload (pc := 93) C dX9_placesLured_93 5 rfl ?_
                refine z_aload_n (pc := 95) C dX9_placesLured_95 0 rfl ?_
                refine z_iload (pc := 96) C dX9_placesLured_96 5 rfl ?_
                refine z_iload (pc := 98) C dX9_placesLured_98 7 rfl ?_
                refine z_cV1 (pc := 100) mX9_goal C [_, _] dX9_placesLured_100 lX9_35 mtX9_goal (tX9_goal X1 hR hm3 (by omega)) q1 rfl rfl (by omega) (Nat.le_of_ble_eq_true rfl) (Nat.zero_le _) (Nat.zero_le _) ?_
                refine z_cV0Q (pc := 103) mX5_go C [_, _] dX9_placesLured_103 lX9_43 mtX5_go (tX5_goQ C1 hR hm3) u0 rfl rfl (by omega) (Nat.le_of_ble_eq_true rfl) (Nat.zero_le _) (Nat.zero_le _) ?_
                rintro h2 ⟨C2, G2⟩
                obtain ⟨X2, F2⟩ := X1.goes C2 G2
                obtain ⟨q2, -⟩ := id X2
                have W2 := wfS_go hR hS hm3 e5
                refine z_iload (pc := 106) C dX9_placesLured_106 4 rfl ?_
                refine z_aload_n (pc := 108) C dX9_placesLured_108 0 rfl ?_
                refine z_iload_n (pc := 109) C dX9_placesLured_109 1 rfl ?_
                refine z_iload_n (pc := 110) C dX9_placesLured_110 2 rfl ?_
                refine z_iconst (pc := 111) C dX9_placesLured_111 (nI 1) (by decide) ?_
                first | refine z_isubN (pc := 112) C dX9_placesLured_112 (by omega) ?_ | refine z_isub (pc := 112) C dX9_placesLured_112 ?_
                refine z_top (show nI (l + 1 - 1) = nI l from rfl) ?_
                refine z_cV1Q (pc := 113) mX9_placesLured C [_, _] dX9_placesLured_113 lX9_83 mtX9_placesLured (IH h2 x1 x2 _ X2 W2 (by rw [sgo_k (by omega) (by omega)]; exact hm)) q2 rfl rfl (by omega) (Nat.le_of_ble_eq_true rfl) (Nat.zero_le _) (Nat.zero_le _) ?_
                rintro _ h3 ⟨rfl, X3, F3⟩
                obtain ⟨q3, C3⟩ := id X3
                obtain ⟨-, _, _, w0, -⟩ := id C3
                first | refine z_iorN (pc := 116) C dX9_placesLured_116 ?_ | refine z_ior (pc := 116) C dX9_placesLured_116 ?_
                refine z_istore (pc := 117) (lv' := [(4, _), (0, _), (1, _), (2, _), (3, _), (5, _), (6, _), (7, _)]) C dX9_placesLured_117 (by decide) rfl ?_
                refine z_aload_n (pc := 119) C dX9_placesLured_119 1 rfl ?_
                refine z_getf (pc := 120) C dX9_placesLured_120 fX9_17 q3 (by first | rfl | assumption) ?_
                refine z_iload (pc := 123) C dX9_placesLured_123 5 rfl ?_
                refine z_iload (pc := 125) C dX9_placesLured_125 6 rfl ?_
                refine z_cV0Q (pc := 127) mX5_goBack C [_, _] dX9_placesLured_127 lX9_74 mtX5_goBack (tX5_goBackQ C3 hR hm3) w0 rfl rfl (by omega) (Nat.le_of_ble_eq_true rfl) (Nat.zero_le _) (Nat.zero_le _) ?_
                rintro h4 ⟨C4, G4⟩
                obtain ⟨X4, F4⟩ := X3.goes C4 G4
                rw [sgb_sgo] at X4
                have e9 := ih (f - 1) (by omega) (g + 1) (acc ||| spl R k m l (sgo T m (sgl T m g))) h4 ⟨by omega, by rw [he, sor, if_pos e4], X4, ((F1.tr F2).tr F3).tr F4⟩
                first | refine z_iincN (pc := 130) (lv' := [(7, _), (4, _), (0, _), (1, _), (2, _), (3, _), (5, _), (6, _)]) C 1 dX9_placesLured_130 7 rfl (by decide) (by decide) rfl ?_ | refine z_iinc (pc := 130) (lv' := [(7, _), (4, _), (0, _), (1, _), (2, _), (3, _), (5, _), (6, _)]) C dX9_placesLured_130 7 rfl _ rfl (by decide) rfl ?_
                refine z_goto (pc := 133) C 61 dX9_placesLured_133 (by decide) ?_
                refine z_sub (lv' := [(0, _), (1, _), (2, _), (3, _), (4, _), (5, _), (6, _), (7, _)]) [2, 3, 4, 5, 1, 6, 7, 0] rfl ?_
                exact e9
        first | exact lp61 (R 1 + 1) 0 _ h ⟨by omega, rfl, hX, trF.rf h⟩ | (rw [← hq9]; exact lp61 (R 1 + 1) 0 _ h ⟨by omega, rfl, hX, trF.rf h⟩)
      · exact absurd hc28 (by omega)

theorem tX9_placesLured {R : Nat → Nat} {t k m : Nat} (hq : t = 1008 ∨ t = 1039) (hR : wfR R) (hk : k < R 4) : ∀ l, l ≤ 5 → spC R t k m l := by
  intro l
  induction l with
  | zero => intro _ h x1 x2 T hX hS hm; exact tX9_placesLured0 hX hq hR hS hk hm
  | succ l ih => intro hl h x1 x2 T hX hS hm; exact tX9_placesLuredS hX hq hR hS hk hm (by omega) (ih (by omega))

set_option maxRecDepth 20000 in
set_option maxHeartbeats 1000000 in
theorem tX9_stepsToLure {h : ZH} {t k p : Nat} {R S : Nat → Nat} {x1 x2 : Int32} (hX : Tri h x1 x2 t R S) (hq : t = 1008 ∨ t = 1039) (hR : wfR R) (hS : wfS R S) (hk : k < R 4) (hp : p < R 1) : ZQ1 mX9_stepsToLure 9 [.ref 1019, .int (nI k), .int (nI p)] h (fun w hh => w = .int (zo ((sLur R S k p).map Prod.fst)) ∧ (∃ y, Tri hh y x2 t R S ∧ ∀ r, sLur R S k p = some r → y = nI r.2) ∧ trF h hh) := by
  intro n
  obtain ⟨w1, w3, w4, w5, w0, wP, wM, wK, wX⟩ := id hR
  obtain ⟨wT, wL, wB⟩ := id hS
  refine z_enter (lv := [(0, _), (1, _), (2, _)]) (by decide) (Nat.le_of_ble_eq_true rfl) rfl (fun X C => ?_)
  refine z_iconst (pc := 0) C dX9_stepsToLure_0 (nI 0) (by decide) ?_
  refine z_istore_n (pc := 1) (lv' := [(3, _), (0, _), (1, _), (2, _)]) C dX9_stepsToLure_1 (by decide) rfl ?_
  refine z_sub (lv' := [(0, _), (1, _), (2, _), (3, _)]) [1, 2, 3, 0] rfl ?_
  have lp2 : ∀ (f : Nat) (g : Nat) (y1 : Int32) (h1 : ZH), (g + f = 6 ∧ sLur R S k p = slo (fun l => slu R k p (S (32 + k)) l S) f g ∧ Tri h1 y1 x2 t R S ∧ trF h h1) → Zc X mX9_stepsToLure (zEnd X (fun r hh n' => ∃ w, r = some w ∧ (w = .int (zo ((sLur R S k p).map Prod.fst)) ∧ (∃ y, Tri hh y x2 t R S ∧ ∀ r, sLur R S k p = some r → y = nI r.2) ∧ trF h hh) ∧ n' = n) 0 0) 2 [(0, .ref 1019), (1, .int (nI k)), (2, .int (nI p)), (3, .int (nI g))] [] h1 n 0 0 := by
    intro f
    induction f using Nat.strongRecOn with
    | _ f ih =>
      intro g y1 h1 hk2
      obtain ⟨hk2, he, X1, F1⟩ := hk2
      obtain ⟨q1, C1⟩ := id X1
      refine z_iload_n (pc := 2) C dX9_stepsToLure_2 3 rfl ?_
      refine z_iconst (pc := 3) C dX9_stepsToLure_3 (nI 5) (by decide) ?_
      first | refine z_icmpgtN (pc := 4) C 30 dX9_stepsToLure_4 (by decide) (by omega) (by omega) (fun hc4 => ?_) (fun hc4 => ?_) | refine z_icmp_gt (pc := 4) C 30 dX9_stepsToLure_4 (by decide) (fun hc4 => ?_) (fun hc4 => ?_)
      · skip
        refine z_bipush (pc := 30) C dX9_stepsToLure_30 (-2) (by decide) ?_
        refine z_iret (pc := 32) C dX9_stepsToLure_32 rfl (Nat.zero_le _) (Nat.zero_le _) ⟨_, rfl, ?_, rfl⟩
        rw [show sLur R S k p = none from by rw [he, show f = 0 by omega]; rfl]; exact ⟨rfl, ⟨_, X1, fun z hz => by cases hz⟩, F1⟩
      · skip
        refine z_aload_n (pc := 7) C dX9_stepsToLure_7 0 rfl ?_
        refine z_iconst (pc := 8) C dX9_stepsToLure_8 (nI 0) (by decide) ?_
        refine z_putf (pc := 9) (fs' := [_, _, _]) C dX9_stepsToLure_9 gX9_47 q1 (fun _ => ⟨rfl, rfl⟩) (by exact Nat.le_of_ble_eq_true rfl) (by rfl) ?_
        obtain ⟨X2, F2⟩ := X1.set (y1 := nI 0) (y2 := x2) hq
        obtain ⟨q2, -⟩ := id X2
        generalize zup h1 1019 (zO 6 [.ref 1020, .int (nI 0), .int x2]) = h2 at X2 F2 q2 ⊢
        refine z_aload_n (pc := 12) C dX9_stepsToLure_12 0 rfl ?_
        refine z_iload_n (pc := 13) C dX9_stepsToLure_13 1 rfl ?_
        refine z_iload_n (pc := 14) C dX9_stepsToLure_14 2 rfl ?_
        refine z_iload_n (pc := 15) C dX9_stepsToLure_15 3 rfl ?_
        refine z_cV1Q (pc := 16) mX9_findsRow C [_, _, _] dX9_stepsToLure_16 lX9_51 mtX9_findsRow (tX9_findsRow hq hR hk hp g (by omega) h2 _ _ _ X2 hS rfl) q2 rfl rfl (by omega) (Nat.le_of_ble_eq_true rfl) (Nat.zero_le _) (Nat.zero_le _) ?_
        rintro _ h3 ⟨rfl, X3, F3⟩
        first | refine z_ifeqB (pc := 19) C 24 dX9_stepsToLure_19 (by decide) (fun hc19 => ?_) (fun hc19 => ?_) | refine z_ifeqN (pc := 19) C 24 dX9_stepsToLure_19 (by decide) (by omega) (fun hc19 => ?_) (fun hc19 => ?_) | refine z_if_eq (pc := 19) C 24 dX9_stepsToLure_19 (by decide) (fun hc19 => ?_) (fun hc19 => ?_)
        · skip
          have e6 : (fun l => slu R k p (S (32 + k)) l S) g = none := Option.isNone_iff_eq_none.mp (Option.isSome_eq_false_iff.mp hc19)
          first | refine z_iincN (pc := 24) (lv' := [(3, _), (0, _), (1, _), (2, _)]) C 1 dX9_stepsToLure_24 3 rfl (by decide) (by decide) rfl ?_ | refine z_iinc (pc := 24) (lv' := [(3, _), (0, _), (1, _), (2, _)]) C dX9_stepsToLure_24 3 rfl _ rfl (by decide) rfl ?_
          refine z_goto (pc := 27) C 2 dX9_stepsToLure_27 (by decide) ?_
          refine z_sub (lv' := [(0, _), (1, _), (2, _), (3, _)]) [1, 2, 3, 0] rfl ?_
          exact ih (f - 1) (by omega) (g + 1) _ h3 ⟨by omega, by rw [he]; obtain ⟨f, rfl⟩ : ∃ y, f = y + 1 := ⟨f - 1, by omega⟩; rw [slo_n e6]; rfl, X3, (F1.tr F2).tr F3⟩
        · skip
          obtain ⟨r, e6⟩ := Option.isSome_iff_exists.mp hc19
          rw [e6] at X3
          have e7 : sLur R S k p = some (g, r) := by rw [he]; obtain ⟨f, rfl⟩ : ∃ y, f = y + 1 := ⟨f - 1, by omega⟩; exact slo_y (G := (fun l => slu R k p (S (32 + k)) l S)) e6
          refine z_iload_n (pc := 22) C dX9_stepsToLure_22 3 rfl ?_
          refine z_iret (pc := 23) C dX9_stepsToLure_23 rfl (Nat.zero_le _) (Nat.zero_le _) ⟨_, rfl, ?_, rfl⟩
          rw [e7]; refine ⟨rfl, ⟨_, X3, fun z hz => ?_⟩, (F1.tr F2).tr F3⟩; cases hz; exact Int32.zero_add _
  exact lp2 6 0 x1 h ⟨rfl, rfl, hX, trF.rf h⟩

set_option maxRecDepth 20000 in
set_option maxHeartbeats 1000000 in
theorem tX11_lure {h : ZH} {st : Nat} {ic tb fa pl : Int32} {t : Nat} {R S : Nat → Nat} {k p : Int32} (hK : h 1000 = some (zO 7 (kfs st ic tb fa pl))) (hC : Scn h 1051 1052 1053 t R S) (hR : wfR R) (hS : wfS R S) (hq : t = 1008 ∨ t = 1039) (hT0 : Trs h) : ZQ1 mX11_lure 10 [.ref 1000, .int k, .int p] h (fun w hh => w = .int (aLure R S k p).1 ∧ kQ h hh st ic (aLure R S k p).2 fa pl) := by
  intro n
  obtain ⟨w1, w3, w4, w5, w0, wP, wM, wK, wX⟩ := id hR
  obtain ⟨wT, wL, wB⟩ := id hS
  obtain ⟨hT, fl, ft, s0, s1, s2, rl, rt⟩ := id hC
  obtain ⟨fc, fh, fn, fk, fs, ff, fw, fe, t0, t1, t2, t3, t4, t5, t6, t7, t8, rc, rh, rn, rk, rs, rf, rv, re⟩ := id hT
  obtain ⟨⟨z1, z2, z0⟩, -⟩ := id hT0
  refine z_enter (lv := [(0, _), (1, _), (2, _)]) (by decide) (Nat.le_of_ble_eq_true rfl) rfl (fun X C => ?_)
  refine z_aload_n (pc := 0) C dX11_lure_0 0 rfl ?_
  refine z_iload_n (pc := 1) C dX11_lure_1 1 rfl ?_
  refine z_cV1 (pc := 2) mX11_isKill C [_] dX11_lure_2 lX11_158 mtX11_isKill (tX11_isKill (by first | assumption | omega) (by first | assumption | omega) (by first | assumption | omega)) (by assumption) rfl rfl (by decide) (Nat.le_of_ble_eq_true rfl) (Nat.zero_le _) (Nat.zero_le _) ?_
  first | refine z_ifeqB (pc := 5) C 16 dX11_lure_5 (by decide) (fun hc5 => ?_) (fun hc5 => ?_) | refine z_ifeqN (pc := 5) C 16 dX11_lure_5 (by decide) (by omega) (fun hc5 => ?_) (fun hc5 => ?_) | refine z_if_eq (pc := 5) C 16 dX11_lure_5 (by decide) (fun hc5 => ?_) (fun hc5 => ?_)
  · skip
    refine z_aload_n (pc := 16) C dX11_lure_16 0 rfl ?_
    refine z_iconst (pc := 17) C dX11_lure_17 (nI 1) (by decide) ?_
    refine z_cV1 (pc := 18) mX11_refuse C [_] dX11_lure_18 lX11_70 mtX11_refuse (tX11_refuse (by first | assumption | omega)) (by assumption) rfl rfl (by decide) (Nat.le_of_ble_eq_true rfl) (Nat.zero_le _) (Nat.zero_le _) ?_
    refine z_iret (pc := 21) C dX11_lure_21 rfl (Nat.zero_le _) (Nat.zero_le _) ⟨_, rfl, ?_, rfl⟩
    refine ⟨by simp [aLure, aKP, *], ?_⟩
    first | exact kQ.eq (t := 1) (by simp [aLure, aKP, *] <;> rfl) (kQ.of0 _ _ _ _ _ hT0) | exact kQ.eq (t := 2) (by simp [aLure, aKP, *] <;> rfl) (kQ.of0 _ _ _ _ _ hT0) | exact kQ.eq (t := 5) (by simp [aLure, aKP, *] <;> rfl) (kQ.of _ _ _ _ _ X2.trs F2) | exact kQ.eq (t := 0) (by simp [aLure, aKP, *] <;> rfl) (kQ.of _ _ _ _ _ X2.trs F2)
  · skip
    refine z_aload_n (pc := 8) C dX11_lure_8 0 rfl ?_
    refine z_iload_n (pc := 9) C dX11_lure_9 2 rfl ?_
    refine z_cV1 (pc := 10) mX11_isPlace C [_] dX11_lure_10 lX11_114 mtX11_isPlace (tX11_isPlace (by first | assumption | omega) (by first | assumption | omega) (by first | assumption | omega)) (by assumption) rfl rfl (by decide) (Nat.le_of_ble_eq_true rfl) (Nat.zero_le _) (Nat.zero_le _) ?_
    first | refine z_ifneB (pc := 13) C 22 dX11_lure_13 (by decide) (fun hc13 => ?_) (fun hc13 => ?_) | refine z_ifneN (pc := 13) C 22 dX11_lure_13 (by decide) (by omega) (fun hc13 => ?_) (fun hc13 => ?_) | refine z_if_ne (pc := 13) C 22 dX11_lure_13 (by decide) (fun hc13 => ?_) (fun hc13 => ?_)
    · skip
      obtain ⟨j, hj, rfl⟩ := zlt_of (by omega) hc5
      have pj := pn_nI (j := j) (by omega)
      obtain ⟨i, hi, rfl⟩ := zlt_of (by omega) hc13
      have pi := pn_nI (j := i) (by omega)
      refine z_aload_n (pc := 22) C dX11_lure_22 0 rfl ?_
      refine z_getf (pc := 23) C dX11_lure_23 fX11_19 (by assumption) (by first | rfl | assumption) ?_
      refine z_aload_n (pc := 26) C dX11_lure_26 0 rfl ?_
      refine z_getf (pc := 27) C dX11_lure_27 fX11_53 (by assumption) (by first | rfl | assumption) ?_
      refine z_cV0Q (pc := 30) mX9_begin C [_] dX11_lure_30 lX11_232 mtX9_begin (tX9_beginQ hR hC hq hT0) z0 rfl rfl (by decide) (Nat.le_of_ble_eq_true rfl) (Nat.zero_le _) (Nat.zero_le _) ?_
      rintro h1 ⟨⟨y1, y2, X1⟩, F1⟩
      obtain ⟨q1, C1⟩ := id X1
      have K1 : h1 1000 = _ := (F1 1000 (by decide) (by decide) (by decide) (by decide)).trans hK
      refine z_aload_n (pc := 33) C dX11_lure_33 0 rfl ?_
      refine z_aload_n (pc := 34) C dX11_lure_34 0 rfl ?_
      refine z_getf (pc := 35) C dX11_lure_35 fX11_19 (by assumption) (by first | rfl | assumption) ?_
      refine z_iload_n (pc := 38) C dX11_lure_38 1 rfl ?_
      refine z_iload_n (pc := 39) C dX11_lure_39 2 rfl ?_
      refine z_cV1Q (pc := 40) mX9_stepsToLure C [_, _] dX11_lure_40 lX11_242 mtX9_stepsToLure (tX9_stepsToLure X1 hq hR hS hj hi) q1 rfl rfl (by decide) (Nat.le_of_ble_eq_true rfl) (Nat.zero_le _) (Nat.zero_le _) ?_
      rintro _ h2 ⟨rfl, ⟨y, X2, hy⟩, F2⟩
      replace F2 := F1.tr F2
      obtain ⟨q2, C2⟩ := id X2
      have K2 : h2 1000 = _ := (F2 1000 (by decide) (by decide) (by decide) (by decide)).trans hK
      refine z_cV1 (pc := 43) mX11_answer C [_] dX11_lure_43 lX11_108 mtX11_answer (tX11_answer K2) (by assumption) rfl rfl (by decide) (Nat.le_of_ble_eq_true rfl) (Nat.zero_le _) (Nat.zero_le _) ?_
      refine z_iret (pc := 46) C dX11_lure_46 rfl (Nat.zero_le _) (Nat.zero_le _) ⟨_, rfl, ?_, rfl⟩
      refine ⟨by simp [aLure, aKP, *], ?_⟩
      first | exact kQ.eq (t := 1) (by simp [aLure, aKP, *] <;> rfl) (kQ.of0 _ _ _ _ _ hT0) | exact kQ.eq (t := 2) (by simp [aLure, aKP, *] <;> rfl) (kQ.of0 _ _ _ _ _ hT0) | exact kQ.eq (t := 5) (by simp [aLure, aKP, *] <;> rfl) (kQ.of _ _ _ _ _ X2.trs F2) | exact kQ.eq (t := 0) (by simp [aLure, aKP, *] <;> rfl) (kQ.of _ _ _ _ _ X2.trs F2)
    · skip
      refine z_aload_n (pc := 16) C dX11_lure_16 0 rfl ?_
      refine z_iconst (pc := 17) C dX11_lure_17 (nI 1) (by decide) ?_
      refine z_cV1 (pc := 18) mX11_refuse C [_] dX11_lure_18 lX11_70 mtX11_refuse (tX11_refuse (by first | assumption | omega)) (by assumption) rfl rfl (by decide) (Nat.le_of_ble_eq_true rfl) (Nat.zero_le _) (Nat.zero_le _) ?_
      refine z_iret (pc := 21) C dX11_lure_21 rfl (Nat.zero_le _) (Nat.zero_le _) ⟨_, rfl, ?_, rfl⟩
      refine ⟨by simp [aLure, aKP, *], ?_⟩
      first | exact kQ.eq (t := 1) (by simp [aLure, aKP, *] <;> rfl) (kQ.of0 _ _ _ _ _ hT0) | exact kQ.eq (t := 2) (by simp [aLure, aKP, *] <;> rfl) (kQ.of0 _ _ _ _ _ hT0) | exact kQ.eq (t := 5) (by simp [aLure, aKP, *] <;> rfl) (kQ.of _ _ _ _ _ X2.trs F2) | exact kQ.eq (t := 0) (by simp [aLure, aKP, *] <;> rfl) (kQ.of _ _ _ _ _ X2.trs F2)

set_option maxRecDepth 20000 in
set_option maxHeartbeats 1000000 in
theorem tX11_lureRow {h : ZH} {st : Nat} {ic tb fa pl : Int32} {t : Nat} {R S : Nat → Nat} {k p : Int32} (hK : h 1000 = some (zO 7 (kfs st ic tb fa pl))) (hC : Scn h 1051 1052 1053 t R S) (hR : wfR R) (hS : wfS R S) (hq : t = 1008 ∨ t = 1039) (hT0 : Trs h) : ZQ1 mX11_lureRow 10 [.ref 1000, .int k, .int p] h (fun w hh => w = .int (aLuR R S k p).1 ∧ kQ h hh st ic (aLuR R S k p).2 fa pl) := by
  intro n
  obtain ⟨w1, w3, w4, w5, w0, wP, wM, wK, wX⟩ := id hR
  obtain ⟨wT, wL, wB⟩ := id hS
  obtain ⟨hT, fl, ft, s0, s1, s2, rl, rt⟩ := id hC
  obtain ⟨fc, fh, fn, fk, fs, ff, fw, fe, t0, t1, t2, t3, t4, t5, t6, t7, t8, rc, rh, rn, rk, rs, rf, rv, re⟩ := id hT
  obtain ⟨⟨z1, z2, z0⟩, -⟩ := id hT0
  refine z_enter (lv := [(0, _), (1, _), (2, _)]) (by decide) (Nat.le_of_ble_eq_true rfl) rfl (fun X C => ?_)
  refine z_aload_n (pc := 0) C dX11_lureRow_0 0 rfl ?_
  refine z_iload_n (pc := 1) C dX11_lureRow_1 1 rfl ?_
  refine z_cV1 (pc := 2) mX11_isKill C [_] dX11_lureRow_2 lX11_158 mtX11_isKill (tX11_isKill (by first | assumption | omega) (by first | assumption | omega) (by first | assumption | omega)) (by assumption) rfl rfl (by decide) (Nat.le_of_ble_eq_true rfl) (Nat.zero_le _) (Nat.zero_le _) ?_
  first | refine z_ifeqB (pc := 5) C 16 dX11_lureRow_5 (by decide) (fun hc5 => ?_) (fun hc5 => ?_) | refine z_ifeqN (pc := 5) C 16 dX11_lureRow_5 (by decide) (by omega) (fun hc5 => ?_) (fun hc5 => ?_) | refine z_if_eq (pc := 5) C 16 dX11_lureRow_5 (by decide) (fun hc5 => ?_) (fun hc5 => ?_)
  · skip
    refine z_aload_n (pc := 16) C dX11_lureRow_16 0 rfl ?_
    refine z_iconst (pc := 17) C dX11_lureRow_17 (nI 1) (by decide) ?_
    refine z_cV1 (pc := 18) mX11_refuse C [_] dX11_lureRow_18 lX11_70 mtX11_refuse (tX11_refuse (by first | assumption | omega)) (by assumption) rfl rfl (by decide) (Nat.le_of_ble_eq_true rfl) (Nat.zero_le _) (Nat.zero_le _) ?_
    refine z_iret (pc := 21) C dX11_lureRow_21 rfl (Nat.zero_le _) (Nat.zero_le _) ⟨_, rfl, ?_, rfl⟩
    refine ⟨by simp [aLuR, aKP, zo, *], ?_⟩
    first | exact kQ.eq (t := 1) (by simp [aLuR, aKP, zo, *] <;> rfl) (kQ.of0 _ _ _ _ _ hT0) | exact kQ.eq (t := 2) (by simp [aLuR, aKP, zo, *] <;> rfl) (kQ.of0 _ _ _ _ _ hT0) | exact kQ.eq (t := 5) (by simp [aLuR, aKP, zo, *] <;> rfl) (kQ.of _ _ _ _ _ X2.trs F2) | exact kQ.eq (t := 0) (by simp [aLuR, aKP, zo, *] <;> rfl) (kQ.of _ _ _ _ _ X2.trs F2)
  · skip
    refine z_aload_n (pc := 8) C dX11_lureRow_8 0 rfl ?_
    refine z_iload_n (pc := 9) C dX11_lureRow_9 2 rfl ?_
    refine z_cV1 (pc := 10) mX11_isPlace C [_] dX11_lureRow_10 lX11_114 mtX11_isPlace (tX11_isPlace (by first | assumption | omega) (by first | assumption | omega) (by first | assumption | omega)) (by assumption) rfl rfl (by decide) (Nat.le_of_ble_eq_true rfl) (Nat.zero_le _) (Nat.zero_le _) ?_
    first | refine z_ifneB (pc := 13) C 22 dX11_lureRow_13 (by decide) (fun hc13 => ?_) (fun hc13 => ?_) | refine z_ifneN (pc := 13) C 22 dX11_lureRow_13 (by decide) (by omega) (fun hc13 => ?_) (fun hc13 => ?_) | refine z_if_ne (pc := 13) C 22 dX11_lureRow_13 (by decide) (fun hc13 => ?_) (fun hc13 => ?_)
    · skip
      obtain ⟨j, hj, rfl⟩ := zlt_of (by omega) hc5
      have pj := pn_nI (j := j) (by omega)
      obtain ⟨i, hi, rfl⟩ := zlt_of (by omega) hc13
      have pi := pn_nI (j := i) (by omega)
      refine z_aload_n (pc := 22) C dX11_lureRow_22 0 rfl ?_
      refine z_getf (pc := 23) C dX11_lureRow_23 fX11_19 (by assumption) (by first | rfl | assumption) ?_
      refine z_aload_n (pc := 26) C dX11_lureRow_26 0 rfl ?_
      refine z_getf (pc := 27) C dX11_lureRow_27 fX11_53 (by assumption) (by first | rfl | assumption) ?_
      refine z_cV0Q (pc := 30) mX9_begin C [_] dX11_lureRow_30 lX11_232 mtX9_begin (tX9_beginQ hR hC hq hT0) z0 rfl rfl (by decide) (Nat.le_of_ble_eq_true rfl) (Nat.zero_le _) (Nat.zero_le _) ?_
      rintro h1 ⟨⟨y1, y2, X1⟩, F1⟩
      obtain ⟨q1, C1⟩ := id X1
      have K1 : h1 1000 = _ := (F1 1000 (by decide) (by decide) (by decide) (by decide)).trans hK
      refine z_aload_n (pc := 33) C dX11_lureRow_33 0 rfl ?_
      refine z_aload_n (pc := 34) C dX11_lureRow_34 0 rfl ?_
      refine z_getf (pc := 35) C dX11_lureRow_35 fX11_19 (by assumption) (by first | rfl | assumption) ?_
      refine z_iload_n (pc := 38) C dX11_lureRow_38 1 rfl ?_
      refine z_iload_n (pc := 39) C dX11_lureRow_39 2 rfl ?_
      refine z_cV1Q (pc := 40) mX9_stepsToLure C [_, _] dX11_lureRow_40 lX11_242 mtX9_stepsToLure (tX9_stepsToLure X1 hq hR hS hj hi) q1 rfl rfl (by decide) (Nat.le_of_ble_eq_true rfl) (Nat.zero_le _) (Nat.zero_le _) ?_
      rintro _ h2 ⟨rfl, ⟨y, X2, hy⟩, F2⟩
      replace F2 := F1.tr F2
      obtain ⟨q2, C2⟩ := id X2
      have K2 : h2 1000 = _ := (F2 1000 (by decide) (by decide) (by decide) (by decide)).trans hK
      refine z_bipush (pc := 43) C dX11_lureRow_43 (-2) (by decide) ?_
      refine z_icmp_ne (pc := 45) C 53 dX11_lureRow_45 (by decide) (fun hc45 => ?_) (fun hc45 => ?_)
      · skip
        have e6 : ∃ r, sLur R S j i = some r := by
          cases z : sLur R S j i with
          | some r => exact ⟨r, rfl⟩
          | none => rw [z] at hc45; exact absurd rfl hc45
        obtain ⟨r, e6⟩ := e6
        have hy2 := hy r e6
        refine z_aload_n (pc := 53) C dX11_lureRow_53 0 rfl ?_
        refine z_getf (pc := 54) C dX11_lureRow_54 fX11_19 K2 (by first | rfl | assumption) ?_
        refine z_getf (pc := 57) C dX11_lureRow_57 fX11_245 q2 (by first | rfl | assumption) ?_
        refine z_cV1 (pc := 60) mX11_answer C [_] dX11_lureRow_60 lX11_108 mtX11_answer (tX11_answer K2) K2 rfl rfl (by decide) (Nat.le_of_ble_eq_true rfl) (Nat.zero_le _) (Nat.zero_le _) ?_
        refine z_iret (pc := 63) C dX11_lureRow_63 rfl (Nat.zero_le _) (Nat.zero_le _) ⟨_, rfl, ?_, rfl⟩
        refine ⟨by simp [aLuR, aKP, zo, *], ?_⟩
        first | exact kQ.eq (t := 1) (by simp [aLuR, aKP, zo, *] <;> rfl) (kQ.of0 _ _ _ _ _ hT0) | exact kQ.eq (t := 2) (by simp [aLuR, aKP, zo, *] <;> rfl) (kQ.of0 _ _ _ _ _ hT0) | exact kQ.eq (t := 5) (by simp [aLuR, aKP, zo, *] <;> rfl) (kQ.of _ _ _ _ _ X2.trs F2) | exact kQ.eq (t := 0) (by simp [aLuR, aKP, zo, *] <;> rfl) (kQ.of _ _ _ _ _ X2.trs F2)
      · skip
        have e6 : sLur R S j i = none := by
          cases z : sLur R S j i with
          | none => rfl
          | some r =>
            rw [z] at hc45
            have := (sLur_le z).1
            exact absurd hc45 (fun y => by have := congrArg Int32.toInt y; rw [show zo (Option.map Prod.fst (some r)) = nI r.1 from rfl, nI_toInt (by omega)] at this; have h2 : (-2 : Int32).toInt = -2 := by decide
                                           omega)
        refine z_bipush (pc := 48) C dX11_lureRow_48 (-2) (by decide) ?_
        refine z_goto (pc := 50) C 60 dX11_lureRow_50 (by decide) ?_
        refine z_cV1 (pc := 60) mX11_answer C [_] dX11_lureRow_60 lX11_108 mtX11_answer (tX11_answer K2) K2 rfl rfl (by decide) (Nat.le_of_ble_eq_true rfl) (Nat.zero_le _) (Nat.zero_le _) ?_
        refine z_iret (pc := 63) C dX11_lureRow_63 rfl (Nat.zero_le _) (Nat.zero_le _) ⟨_, rfl, ?_, rfl⟩
        refine ⟨by simp [aLuR, aKP, zo, *], ?_⟩
        first | exact kQ.eq (t := 1) (by simp [aLuR, aKP, zo, *] <;> rfl) (kQ.of0 _ _ _ _ _ hT0) | exact kQ.eq (t := 2) (by simp [aLuR, aKP, zo, *] <;> rfl) (kQ.of0 _ _ _ _ _ hT0) | exact kQ.eq (t := 5) (by simp [aLuR, aKP, zo, *] <;> rfl) (kQ.of _ _ _ _ _ X2.trs F2) | exact kQ.eq (t := 0) (by simp [aLuR, aKP, zo, *] <;> rfl) (kQ.of _ _ _ _ _ X2.trs F2)
    · skip
      refine z_aload_n (pc := 16) C dX11_lureRow_16 0 rfl ?_
      refine z_iconst (pc := 17) C dX11_lureRow_17 (nI 1) (by decide) ?_
      refine z_cV1 (pc := 18) mX11_refuse C [_] dX11_lureRow_18 lX11_70 mtX11_refuse (tX11_refuse (by first | assumption | omega)) (by assumption) rfl rfl (by decide) (Nat.le_of_ble_eq_true rfl) (Nat.zero_le _) (Nat.zero_le _) ?_
      refine z_iret (pc := 21) C dX11_lureRow_21 rfl (Nat.zero_le _) (Nat.zero_le _) ⟨_, rfl, ?_, rfl⟩
      refine ⟨by simp [aLuR, aKP, zo, *], ?_⟩
      first | exact kQ.eq (t := 1) (by simp [aLuR, aKP, zo, *] <;> rfl) (kQ.of0 _ _ _ _ _ hT0) | exact kQ.eq (t := 2) (by simp [aLuR, aKP, zo, *] <;> rfl) (kQ.of0 _ _ _ _ _ hT0) | exact kQ.eq (t := 5) (by simp [aLuR, aKP, zo, *] <;> rfl) (kQ.of _ _ _ _ _ X2.trs F2) | exact kQ.eq (t := 0) (by simp [aLuR, aKP, zo, *] <;> rfl) (kQ.of _ _ _ _ _ X2.trs F2)

set_option maxRecDepth 20000 in
set_option maxHeartbeats 1000000 in
theorem tX11_lures {h : ZH} {st : Nat} {ic tb fa pl : Int32} {t : Nat} {R S : Nat → Nat} {k n0 : Int32} (hK : h 1000 = some (zO 7 (kfs st ic tb fa pl))) (hC : Scn h 1051 1052 1053 t R S) (hR : wfR R) (hS : wfS R S) (hq : t = 1008 ∨ t = 1039) (hT0 : Trs h) : ZQ1 mX11_lures 10 [.ref 1000, .int k, .int n0] h (fun w hh => w = .int (aLus R S k n0).1 ∧ kQ h hh st ic (aLus R S k n0).2 fa pl) := by
  intro n
  obtain ⟨w1, w3, w4, w5, w0, wP, wM, wK, wX⟩ := id hR
  obtain ⟨wT, wL, wB⟩ := id hS
  obtain ⟨hT, fl, ft, s0, s1, s2, rl, rt⟩ := id hC
  obtain ⟨fc, fh, fn, fk, fs, ff, fw, fe, t0, t1, t2, t3, t4, t5, t6, t7, t8, rc, rh, rn, rk, rs, rf, rv, re⟩ := id hT
  obtain ⟨⟨z1, z2, z0⟩, -⟩ := id hT0
  refine z_enter (lv := [(0, _), (1, _), (2, _)]) (by decide) (Nat.le_of_ble_eq_true rfl) rfl (fun X C => ?_)
  refine z_aload_n (pc := 0) C dX11_lures_0 0 rfl ?_
  refine z_iload_n (pc := 1) C dX11_lures_1 1 rfl ?_
  refine z_cV1 (pc := 2) mX11_isKill C [_] dX11_lures_2 lX11_158 mtX11_isKill (tX11_isKill (by first | assumption | omega) (by first | assumption | omega) (by first | assumption | omega)) (by assumption) rfl rfl (by omega) (Nat.le_of_ble_eq_true rfl) (Nat.zero_le _) (Nat.zero_le _) ?_
  first | refine z_ifneB (pc := 5) C 14 dX11_lures_5 (by decide) (fun hc5 => ?_) (fun hc5 => ?_) | refine z_ifneN (pc := 5) C 14 dX11_lures_5 (by decide) (by omega) (fun hc5 => ?_) (fun hc5 => ?_) | refine z_if_ne (pc := 5) C 14 dX11_lures_5 (by decide) (fun hc5 => ?_) (fun hc5 => ?_)
  · skip
    obtain ⟨j, hj, rfl⟩ := zlt_of (by omega) hc5
    have pj := pn_nI (j := j) (by omega)
    refine z_iload_n (pc := 14) C dX11_lures_14 2 rfl ?_
    refine z_if_lt (pc := 15) C 23 dX11_lures_15 (by decide) (fun hc15 => ?_) (fun hc15 => ?_)
    · skip
      have e5 : zlt n0 6 = false := zlt_f1 hc15
      refine z_aload_n (pc := 23) C dX11_lures_23 0 rfl ?_
      refine z_iconst (pc := 24) C dX11_lures_24 (nI 2) (by decide) ?_
      refine z_cV1 (pc := 25) mX11_refuse C [_] dX11_lures_25 lX11_70 mtX11_refuse (tX11_refuse (by first | assumption | omega)) (by assumption) rfl rfl (by omega) (Nat.le_of_ble_eq_true rfl) (Nat.zero_le _) (Nat.zero_le _) ?_
      refine z_iret (pc := 28) C dX11_lures_28 rfl (Nat.zero_le _) (Nat.zero_le _) ⟨_, rfl, ?_, rfl⟩
      refine ⟨by simp [aLus, aW, swhy, *], ?_⟩
      first | exact kQ.eq (t := 1) (by simp [aLus, aW, swhy, *] <;> rfl) (kQ.of0 _ _ _ _ _ hT0) | exact kQ.eq (t := 2) (by simp [aLus, aW, swhy, *] <;> rfl) (kQ.of0 _ _ _ _ _ hT0) | exact kQ.eq (t := 5) (by simp [aLus, aW, swhy, *] <;> rfl) (kQ.of _ _ _ _ _ X2.trs F2) | exact kQ.eq (t := 0) (by simp [aLus, aW, swhy, *] <;> rfl) (kQ.of _ _ _ _ _ X2.trs F2)
    · skip
      refine z_iload_n (pc := 18) C dX11_lures_18 2 rfl ?_
      refine z_iconst (pc := 19) C dX11_lures_19 (nI 5) (by decide) ?_
      refine z_icmp_le (pc := 20) C 29 dX11_lures_20 (by decide) (fun hc20 => ?_) (fun hc20 => ?_)
      · skip
        have e5 : zlt n0 6 = true := zlt_le3 (c := 5) (by decide) hc15 hc20
        obtain ⟨c, hc, rfl⟩ := zlt_of (by omega) e5
        have pc := pn_nI (j := c) (by omega)
        refine z_aload_n (pc := 29) C dX11_lures_29 0 rfl ?_
        refine z_getf (pc := 30) C dX11_lures_30 fX11_19 (by assumption) (by first | rfl | assumption) ?_
        refine z_aload_n (pc := 33) C dX11_lures_33 0 rfl ?_
        refine z_getf (pc := 34) C dX11_lures_34 fX11_53 (by assumption) (by first | rfl | assumption) ?_
        refine z_cV0Q (pc := 37) mX9_begin C [_] dX11_lures_37 lX11_232 mtX9_begin (tX9_beginQ hR hC hq hT0) z0 rfl rfl (by omega) (Nat.le_of_ble_eq_true rfl) (Nat.zero_le _) (Nat.zero_le _) ?_
        rintro h1 ⟨⟨y1, y2, X1⟩, F1⟩
        obtain ⟨q1, C1⟩ := id X1
        have K1 : h1 1000 = _ := (F1 1000 (by decide) (by decide) (by decide) (by decide)).trans hK
        refine z_aload_n (pc := 40) C dX11_lures_40 0 rfl ?_
        refine z_aload_n (pc := 41) C dX11_lures_41 0 rfl ?_
        refine z_getf (pc := 42) C dX11_lures_42 fX11_19 (by assumption) (by first | rfl | assumption) ?_
        refine z_iload_n (pc := 45) C dX11_lures_45 1 rfl ?_
        refine z_iload_n (pc := 46) C dX11_lures_46 2 rfl ?_
        refine z_cVN1Q (pc := 47) mX9_placesLured C [_, _] dX11_lures_47 lX11_248 mtX9_placesLured (tX9_placesLured hq hR hj c (by omega) h1 _ _ _ X1 hS rfl) q1 rfl rfl (by omega) (Nat.le_of_ble_eq_true rfl) (Nat.zero_le _) (Nat.zero_le _) ?_
        rintro _ h2 ⟨rfl, X2, F2⟩
        replace F2 := F1.tr F2
        have K2 : h2 1000 = _ := (F2 1000 (by decide) (by decide) (by decide) (by decide)).trans hK
        refine z_cV1 (pc := 50) mX11_answer C [_] dX11_lures_50 lX11_108 mtX11_answer (tX11_answer K2) (by assumption) rfl rfl (by omega) (Nat.le_of_ble_eq_true rfl) (Nat.zero_le _) (Nat.zero_le _) ?_
        refine z_iret (pc := 53) C dX11_lures_53 rfl (Nat.zero_le _) (Nat.zero_le _) ⟨_, rfl, ?_, rfl⟩
        refine ⟨by simp [aLus, aW, swhy, *], ?_⟩
        first | exact kQ.eq (t := 1) (by simp [aLus, aW, swhy, *] <;> rfl) (kQ.of0 _ _ _ _ _ hT0) | exact kQ.eq (t := 2) (by simp [aLus, aW, swhy, *] <;> rfl) (kQ.of0 _ _ _ _ _ hT0) | exact kQ.eq (t := 5) (by simp [aLus, aW, swhy, *] <;> rfl) (kQ.of _ _ _ _ _ X2.trs F2) | exact kQ.eq (t := 0) (by simp [aLus, aW, swhy, *] <;> rfl) (kQ.of _ _ _ _ _ X2.trs F2)
      · skip
        have e5 : zlt n0 6 = false := zlt_f3 (c := 5) (by decide) hc20
        refine z_aload_n (pc := 23) C dX11_lures_23 0 rfl ?_
        refine z_iconst (pc := 24) C dX11_lures_24 (nI 2) (by decide) ?_
        refine z_cV1 (pc := 25) mX11_refuse C [_] dX11_lures_25 lX11_70 mtX11_refuse (tX11_refuse (by first | assumption | omega)) (by assumption) rfl rfl (by omega) (Nat.le_of_ble_eq_true rfl) (Nat.zero_le _) (Nat.zero_le _) ?_
        refine z_iret (pc := 28) C dX11_lures_28 rfl (Nat.zero_le _) (Nat.zero_le _) ⟨_, rfl, ?_, rfl⟩
        refine ⟨by simp [aLus, aW, swhy, *], ?_⟩
        first | exact kQ.eq (t := 1) (by simp [aLus, aW, swhy, *] <;> rfl) (kQ.of0 _ _ _ _ _ hT0) | exact kQ.eq (t := 2) (by simp [aLus, aW, swhy, *] <;> rfl) (kQ.of0 _ _ _ _ _ hT0) | exact kQ.eq (t := 5) (by simp [aLus, aW, swhy, *] <;> rfl) (kQ.of _ _ _ _ _ X2.trs F2) | exact kQ.eq (t := 0) (by simp [aLus, aW, swhy, *] <;> rfl) (kQ.of _ _ _ _ _ X2.trs F2)
  · skip
    refine z_aload_n (pc := 8) C dX11_lures_8 0 rfl ?_
    refine z_iconst (pc := 9) C dX11_lures_9 (nI 1) (by decide) ?_
    refine z_cV1 (pc := 10) mX11_refuse C [_] dX11_lures_10 lX11_70 mtX11_refuse (tX11_refuse (by first | assumption | omega)) (by assumption) rfl rfl (by omega) (Nat.le_of_ble_eq_true rfl) (Nat.zero_le _) (Nat.zero_le _) ?_
    refine z_iret (pc := 13) C dX11_lures_13 rfl (Nat.zero_le _) (Nat.zero_le _) ⟨_, rfl, ?_, rfl⟩
    refine ⟨by simp [aLus, aW, swhy, *], ?_⟩
    first | exact kQ.eq (t := 1) (by simp [aLus, aW, swhy, *] <;> rfl) (kQ.of0 _ _ _ _ _ hT0) | exact kQ.eq (t := 2) (by simp [aLus, aW, swhy, *] <;> rfl) (kQ.of0 _ _ _ _ _ hT0) | exact kQ.eq (t := 5) (by simp [aLus, aW, swhy, *] <;> rfl) (kQ.of _ _ _ _ _ X2.trs F2) | exact kQ.eq (t := 0) (by simp [aLus, aW, swhy, *] <;> rfl) (kQ.of _ _ _ _ _ X2.trs F2)
