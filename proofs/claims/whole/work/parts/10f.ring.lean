/-- rings: debts O among N men -/
def scn1 (O : Nat → Nat) (s : Nat) : Nat → Nat
  | 0 => 0
  | z + 1 => scn1 O s z ||| (if s.testBit z then O z else 0)
def sbd (O : Nat → Nat) (N : Nat) : Nat → Nat → Nat
  | 0, s => s
  | d + 1, s => scn1 O (sbd O N d s) N
def wk (O : Nat → Nat) (N d x y : Nat) : Prop := (sbd O N d (1 <<< x)).testBit y = true
theorem scn1_tb (O : Nat → Nat) (s y : Nat) : ∀ n, (scn1 O s n).testBit y = true ↔ ∃ z, z < n ∧ s.testBit z = true ∧ (O z).testBit y = true := by
  intro n
  induction n with
  | zero => rw [scn1]; simp
  | succ n ih =>
    rw [scn1, Nat.testBit_or, Bool.or_eq_true, ih]
    constructor
    · rintro (⟨z, h1, h2⟩ | h)
      · exact ⟨z, by omega, h2⟩
      · by_cases e : s.testBit n = true
        · rw [if_pos e] at h; exact ⟨n, by omega, e, h⟩
        · rw [if_neg e, Nat.zero_testBit] at h; cases h
    · rintro ⟨z, h1, h2, h3⟩
      by_cases e : z = n
      · subst e; exact Or.inr (by rw [if_pos h2]; exact h3)
      · exact Or.inl ⟨z, by omega, h2, h3⟩
theorem wk_0 {O : Nat → Nat} {N x y : Nat} : wk O N 0 x y ↔ x = y := by
  unfold wk; rw [sbd, tb1, decide_eq_true_eq]
theorem wk_s {O : Nat → Nat} {N d x y : Nat} : wk O N (d + 1) x y ↔ ∃ z, z < N ∧ wk O N d x z ∧ (O z).testBit y = true := by
  unfold wk; rw [sbd, scn1_tb]
def sRg (O : Nat → Nat) (N : Nat) : Prop := N ≤ 4 ∧ (∀ x, x < N → ∀ y, (O x).testBit y = true → y < N ∧ y ≠ x)
theorem wk_1 {O : Nat → Nat} {N x y : Nat} (hx : x < N) : wk O N 1 x y ↔ (O x).testBit y = true := by
  rw [wk_s]
  constructor
  · rintro ⟨z, h1, h2, h3⟩; rw [wk_0] at h2; subst h2; exact h3
  · intro h; exact ⟨x, hx, wk_0.mpr rfl, h⟩
theorem wk_lt {O : Nat → Nat} {N : Nat} (hO : sRg O N) {d x y : Nat} (hx : x < N) (h : wk O N d x y) : y < N := by
  cases d with
  | zero => rw [wk_0] at h; omega
  | succ d => obtain ⟨z, h1, h2, h3⟩ := wk_s.mp h; exact (hO.2 z h1 y h3).1
theorem wk_add {O : Nat → Nat} {N : Nat} {a x y : Nat} : ∀ b z, wk O N a x y → wk O N b y z → wk O N (a + b) x z := by
  intro b
  induction b with
  | zero => intro z h1 h2; rw [wk_0] at h2; subst h2; exact h1
  | succ b ih =>
    intro z h1 h2
    obtain ⟨u, h3, h4, h5⟩ := wk_s.mp h2
    exact wk_s.mpr ⟨u, h3, ih u h1 h4, h5⟩
theorem wk_f {O : Nat → Nat} {N : Nat} (hO : sRg O N) : ∀ d x y, x < N → (wk O N (d + 1) x y ↔ ∃ z, z < N ∧ (O x).testBit z = true ∧ wk O N d z y) := by
  intro d
  induction d with
  | zero =>
    intro x y hx
    rw [wk_1 hx]
    constructor
    · intro h; exact ⟨y, (hO.2 x hx y h).1, h, wk_0.mpr rfl⟩
    · rintro ⟨z, h1, h2, h3⟩; rw [wk_0] at h3; subst h3; exact h2
  | succ d ih =>
    intro x y hx
    rw [wk_s]
    constructor
    · rintro ⟨z, h1, h2, h3⟩
      obtain ⟨u, h4, h5, h6⟩ := (ih x z hx).mp h2
      exact ⟨u, h4, h5, wk_s.mpr ⟨z, h1, h6, h3⟩⟩
    · rintro ⟨u, h4, h5, h6⟩
      obtain ⟨z, h1, h2, h3⟩ := wk_s.mp h6
      exact ⟨z, h1, (ih x z hx).mpr ⟨u, h4, h5, h2⟩, h3⟩
def slen (O : Nat → Nat) (N m : Nat) : Option Nat := sfst (fun L => (sbd O N L (1 <<< m)).testBit m) (N - 1) 2
def sft1 (O : Nat → Nat) (N frm home left : Nat) : Nat := (sfst (fun z => (O frm).testBit z && (sbd O N left (1 <<< z)).testBit home) N 0).getD home
def srmb (O : Nat → Nat) (N m L : Nat) : Nat → Nat
  | 0 => m
  | i + 1 => sft1 O N (srmb O N m L i) m (L - (i + 1))
theorem sfst_some {P : Nat → Bool} : ∀ f q x, sfst P f q = some x → q ≤ x ∧ x < q + f ∧ P x = true ∧ ∀ y, q ≤ y → y < x → P y = false := by
  intro f
  induction f with
  | zero => intro q x h; cases h
  | succ f ih =>
    intro q x h
    rw [sfst] at h
    cases e : P q with
    | true => rw [e] at h; cases h; exact ⟨Nat.le_refl _, by omega, e, fun y h1 h2 => by omega⟩
    | false =>
      rw [e] at h
      obtain ⟨h1, h2, h3, h4⟩ := ih _ _ h
      refine ⟨by omega, by omega, h3, fun y h5 h6 => ?_⟩
      by_cases z : y = q
      · subst z; exact e
      · exact h4 y (by omega) h6
theorem sfst_none {P : Nat → Bool} : ∀ f q, sfst P f q = none → ∀ y, q ≤ y → y < q + f → P y = false := by
  intro f
  induction f with
  | zero => intro q _ y h1 h2; omega
  | succ f ih =>
    intro q h y h1 h2
    rw [sfst] at h
    cases e : P q with
    | true => rw [e] at h; cases h
    | false =>
      rw [e] at h
      by_cases z : y = q
      · subst z; exact e
      · exact ih _ h y (by omega) (by omega)
/-- the model's search -/
def srl (met row : Nat) (nxt : Nat → Nat × (Nat → Nat) → Nat × (Nat → Nat)) : Nat → Nat × (Nat → Nat) → Nat × (Nat → Nat)
  | 0, s => s
  | z + 1, s => if met.testBit z || !row.testBit z then srl met row nxt z s else nxt z (srl met row nxt z s)
def stry (O : Nat → Nat) (N : Nat) : Nat → Nat → Nat → (Nat → Nat) → Nat × (Nat → Nat) → Nat × (Nat → Nat)
  | 0, _, _, _, s => s
  | F + 1, k, met, w, s => srl met (O (w (k - 1))) (fun z s => stry O N F (k + 1) (met ||| 1 <<< z) (nup w k z) s) N (if 2 ≤ k ∧ k < s.1 ∧ (O (w (k - 1))).testBit (w 0) = true then (k, w) else s)
theorem srl_keep {met row : Nat} {nxt : Nat → Nat × (Nat → Nat) → Nat × (Nat → Nat)} {s : Nat × (Nat → Nat)} : ∀ n, (∀ z, z < n → met.testBit z = false → row.testBit z = true → nxt z s = s) → srl met row nxt n s = s := by
  intro n
  induction n with
  | zero => intro _; rfl
  | succ n ih =>
    intro h
    rw [srl, ih (fun z hz => h z (by omega))]
    split
    · rfl
    · rename_i e
      cases e1 : met.testBit n <;> cases e2 : row.testBit n <;> simp [e1, e2] at e
      exact h n (by omega) e1 e2
theorem srl_gt {met row L : Nat} {nxt : Nat → Nat × (Nat → Nat) → Nat × (Nat → Nat)} {s : Nat × (Nat → Nat)} (hs : L < s.1) : ∀ n, (∀ z, z < n → met.testBit z = false → row.testBit z = true → ∀ s, L < s.1 → L < (nxt z s).1) → L < (srl met row nxt n s).1 := by
  intro n
  induction n with
  | zero => intro _; exact hs
  | succ n ih =>
    intro h
    have ih := ih (fun z hz => h z (by omega))
    rw [srl]
    split
    · exact ih
    · rename_i e
      cases e1 : met.testBit n <;> cases e2 : row.testBit n <;> simp [e1, e2] at e
      exact h n (by omega) e1 e2 _ ih
theorem srl_hit {met row z0 : Nat} {nxt : Nat → Nat × (Nat → Nat) → Nat × (Nat → Nat)} {s : Nat × (Nat → Nat)} (h1 : met.testBit z0 = false) (h2 : row.testBit z0 = true) (h3 : ∀ z, met.testBit z = false → row.testBit z = true → nxt z (nxt z0 (srl met row nxt z0 s)) = nxt z0 (srl met row nxt z0 s)) : ∀ n, z0 < n → srl met row nxt n s = nxt z0 (srl met row nxt z0 s) := by
  intro n
  induction n with
  | zero => intro h; omega
  | succ n ih =>
    intro h
    rw [srl]
    by_cases e : z0 = n
    · subst e; rw [h1, h2]; rfl
    · rw [ih (by omega)]
      split
      · rfl
      · rename_i e
        cases e1 : met.testBit n <;> cases e2 : row.testBit n <;> simp [e1, e2] at e
        exact h3 n e1 e2
/-- a path of k men from m, and whom it met -/
def sPth (O : Nat → Nat) (N m k met : Nat) (w : Nat → Nat) : Prop := 1 ≤ k ∧ w 0 = m ∧ w (k - 1) < N ∧ wk O N (k - 1) m (w (k - 1)) ∧ ∀ y, met.testBit y = true → y < N → ∃ j, j < k ∧ wk O N j m y
theorem sPth_s {O : Nat → Nat} {N m k met : Nat} {w : Nat → Nat} (hO : sRg O N) (h : sPth O N m k met w) {z : Nat} (hz : (O (w (k - 1))).testBit z = true) : sPth O N m (k + 1) (met ||| 1 <<< z) (nup w k z) := by
  obtain ⟨h1, h2, h3, h4, h5⟩ := h
  have hzN := (hO.2 _ h3 z hz).1
  have hw : wk O N k m z := by
    obtain ⟨k, rfl⟩ : ∃ q, k = q + 1 := ⟨k - 1, by omega⟩
    exact wk_s.mpr ⟨_, h3, h4, hz⟩
  refine ⟨by omega, ?_, ?_, ?_, fun y hy hyN => ?_⟩
  · rw [nup_ne (by omega)]; exact h2
  · rw [Nat.add_sub_cancel, nup_same]; exact hzN
  · rw [Nat.add_sub_cancel, nup_same]; exact hw
  · rw [Nat.testBit_or, Bool.or_eq_true, tb1, decide_eq_true_eq] at hy
    rcases hy with hy | hy
    · obtain ⟨j, hj, hj2⟩ := h5 y hy hyN; exact ⟨j, by omega, hj2⟩
    · subst hy; exact ⟨k, by omega, hw⟩
def sMn (O : Nat → Nat) (N m L : Nat) : Prop := ∀ d, 2 ≤ d → d < L → ¬ wk O N d m m
theorem sClo {O : Nat → Nat} {N m k met : Nat} {w : Nat → Nat} (h : sPth O N m k met w) (he : (O (w (k - 1))).testBit (w 0) = true) : wk O N k m m := by
  obtain ⟨h1, h2, h3, h4, h5⟩ := h
  obtain ⟨k, rfl⟩ : ∃ q, k = q + 1 := ⟨k - 1, by omega⟩
  rw [h2] at he
  exact wk_s.mpr ⟨_, h3, h4, he⟩
theorem stry_A {O : Nat → Nat} {N m L : Nat} (hO : sRg O N) (hL : sMn O N m L) : ∀ F k met w s, sPth O N m k met w → s.1 ≤ L → stry O N F k met w s = s := by
  intro F
  induction F with
  | zero => intro k met w s _ _; rfl
  | succ F ih =>
    intro k met w s hp hs
    have e : (if 2 ≤ k ∧ k < s.1 ∧ (O (w (k - 1))).testBit (w 0) = true then (k, w) else s) = s := by
      refine if_neg ?_
      rintro ⟨h1, h2, h3⟩
      exact hL k h1 (by omega) (sClo hp h3)
    rw [stry, e]
    exact srl_keep N (fun z _ _ hz => ih _ _ _ _ (sPth_s hO hp hz) hs)
theorem stry_C {O : Nat → Nat} {N m L : Nat} (hO : sRg O N) (hL : sMn O N m L) : ∀ F k met w s, sPth O N m k met w → L < s.1 → (k ≤ L → ¬ wk O N (L - k + 1) (w (k - 1)) m) → L < (stry O N F k met w s).1 := by
  intro F
  induction F with
  | zero => intro k met w s _ hs _; exact hs
  | succ F ih =>
    intro k met w s hp hs hn
    rw [stry]
    refine srl_gt ?_ N (fun z _ _ hz s' hs' => ih _ _ _ _ (sPth_s hO hp hz) hs' (fun hk => ?_))
    · split
      · rename_i q
        obtain ⟨h1, h2, h3⟩ := q
        show L < k
        rcases Nat.lt_trichotomy k L with q | q | q
        · exact absurd (sClo hp h3) (hL k h1 q)
        · subst q
          refine absurd ?_ (hn (Nat.le_refl _))
          rw [Nat.sub_self, Nat.zero_add, wk_1 hp.2.2.1, ← hp.2.1]; exact h3
        · exact q
      · exact hs
    · rw [Nat.add_sub_cancel, nup_same]
      intro z2
      refine hn (by omega) ?_
      rw [wk_f hO _ _ _ hp.2.2.1]
      exact ⟨z, (hO.2 _ hp.2.2.1 z hz).1, hz, by rw [show L - k = L - (k + 1) + 1 by omega]; exact z2⟩
theorem stry_B {O : Nat → Nat} {N m L : Nat} (hO : sRg O N) (hL : sMn O N m L) (hm : m < N) : ∀ F k met w s, sPth O N m k met w → L < s.1 → L < F + k → k ≤ L → 2 ≤ L → wk O N (L - k + 1) (w (k - 1)) m → (stry O N F k met w s).1 = L ∧ (∀ i, i < k → (stry O N F k met w s).2 i = w i) ∧ ∀ i, k ≤ i → i < L → (stry O N F k met w s).2 i = sft1 O N ((stry O N F k met w s).2 (i - 1)) m (L - i) := by
  intro F
  induction F with
  | zero => intro k met w s _ _ h1 h2; omega
  | succ F ih =>
    intro k met w s hp hs hF hk h2 hw
    obtain ⟨p1, p2, p3, p4, p5⟩ := id hp
    by_cases e : k = L
    · subst e
      rw [Nat.sub_self, Nat.zero_add, wk_1 p3] at hw
      have e0 : (if 2 ≤ k ∧ k < s.1 ∧ (O (w (k - 1))).testBit (w 0) = true then (k, w) else s) = (k, w) := if_pos ⟨h2, hs, by rw [p2]; exact hw⟩
      rw [stry, e0, srl_keep N (fun z _ _ hz => stry_A hO hL _ _ _ _ _ (sPth_s hO hp hz) (Nat.le_refl _))]
      exact ⟨rfl, fun i _ => rfl, fun i h3 h4 => by omega⟩
    · have e0 : (if 2 ≤ k ∧ k < s.1 ∧ (O (w (k - 1))).testBit (w 0) = true then (k, w) else s) = s := by
        refine if_neg ?_
        rintro ⟨h1, h3, h4⟩
        exact hL k h1 (by omega) (sClo hp h4)
      rw [stry, e0]
      rw [wk_f hO _ _ _ p3] at hw
      obtain ⟨z1, hz1, hz2, hz3⟩ := hw
      have hfs : ∃ z0, sfst (fun z => (O (w (k - 1))).testBit z && (sbd O N (L - k) (1 <<< z)).testBit m) N 0 = some z0 := by
        cases q : sfst (fun z => (O (w (k - 1))).testBit z && (sbd O N (L - k) (1 <<< z)).testBit m) N 0 with
        | some z0 => exact ⟨z0, rfl⟩
        | none =>
          have := sfst_none _ _ q z1 (by omega) (by omega)
          simp only [hz2, show (sbd O N (L - k) (1 <<< z1)).testBit m = true from hz3, Bool.and_self] at this
          cases this
      obtain ⟨z0, hz0⟩ := hfs
      obtain ⟨-, a1, a2, a3⟩ := sfst_some _ _ _ hz0
      rw [Nat.zero_add] at a1
      simp only [Bool.and_eq_true] at a2
      obtain ⟨a2, a4⟩ := a2
      have hmt : met.testBit z0 = false := by
        cases q : met.testBit z0 with
        | false => rfl
        | true =>
          obtain ⟨j, hj, hj2⟩ := p5 z0 q a1
          have hc : wk O N (j + (L - k)) m m := wk_add _ _ hj2 a4
          by_cases q2 : 2 ≤ j + (L - k)
          · exact absurd hc (hL _ q2 (by omega))
          · have q3 : j + (L - k) = 1 := by omega
            rw [q3, wk_1 hm] at hc
            exact absurd rfl (hO.2 m hm m hc).2
      have hgt : L < (srl met (O (w (k - 1))) (fun z s => stry O N F (k + 1) (met ||| 1 <<< z) (nup w k z) s) z0 s).1 := by
        refine srl_gt hs z0 (fun z hz _ hr s' hs' => stry_C hO hL _ _ _ _ _ (sPth_s hO hp hr) hs' (fun hk2 => ?_))
        rw [Nat.add_sub_cancel, nup_same, show L - (k + 1) + 1 = L - k by omega]
        intro q
        have := a3 z (by omega) hz
        simp only [hr, show (sbd O N (L - k) (1 <<< z)).testBit m = true from q, Bool.and_self] at this
        cases this
      have hB := ih (k + 1) (met ||| 1 <<< z0) (nup w k z0) _ (sPth_s hO hp a2) hgt (by omega) (by omega) h2 (by rw [Nat.add_sub_cancel, nup_same, show L - (k + 1) + 1 = L - k by omega]; exact a4)
      obtain ⟨b1, b2, b3⟩ := hB
      have hs1 := srl_hit (met := met) (row := O (w (k - 1))) (nxt := fun z s => stry O N F (k + 1) (met ||| 1 <<< z) (nup w k z) s) (s := s) hmt a2 (fun z _ hr => stry_A hO hL _ _ _ _ _ (sPth_s hO hp hr) (by rw [b1]; exact Nat.le_refl _)) N a1
      rw [hs1]
      refine ⟨b1, fun i hi => ?_, fun i h3 h4 => ?_⟩
      · rw [b2 i (by omega), nup_ne (by omega)]
      · by_cases q : i = k
        · subst q
          rw [b2 i (by omega), nup_same, b2 (i - 1) (by omega), nup_ne (by omega)]
          unfold sft1
          rw [hz0]; rfl
        · exact b3 i (by omega) h4
theorem srmb_eq {O : Nat → Nat} {N m L : Nat} {g : Nat → Nat} (h0 : g 0 = m) (h : ∀ i, 1 ≤ i → i < L → g i = sft1 O N (g (i - 1)) m (L - i)) : ∀ i, i < L → g i = srmb O N m L i := by
  intro i
  induction i with
  | zero => intro _; exact h0
  | succ i ih => intro hi; rw [h (i + 1) (by omega) hi, srmb, Nat.add_sub_cancel, ih (by omega)]
theorem sone_pw_ : ∀ N : Fin 5, ∀ a : Fin 16, a.val < 2 ^ N.val → sone a.val 8 ≤ N.val := by decide +kernel
theorem sone_pw {N a : Nat} (hN : N ≤ 4) (h : a < 2 ^ N) : sone a 8 ≤ N := sone_pw_ ⟨N, by omega⟩ ⟨a, Nat.lt_of_lt_of_le h (Nat.le_trans (Nat.pow_le_pow_right (n := 2) (by decide) hN) (by decide))⟩ h
theorem sone_or_ : ∀ a : Fin 16, ∀ z : Fin 4, a.val.testBit z.val = false → sone (a.val ||| 1 <<< z.val) 8 = sone a.val 8 + 1 := by decide +kernel
theorem sone_or {a z : Nat} (ha : a < 16) (hz : z < 4) (h : a.testBit z = false) : sone (a ||| 1 <<< z) 8 = sone a 8 + 1 := sone_or_ ⟨a, ha⟩ ⟨z, hz⟩ h
theorem sone_1 : ∀ z : Fin 4, sone (1 <<< z.val) 8 = 1 := by decide +kernel
theorem or_16 {a z : Nat} (ha : a < 16) (hz : z < 4) : a ||| 1 <<< z < 16 := Nat.or_lt_two_pow (n := 4) ha (by rw [Nat.shiftLeft_eq, Nat.one_mul]; exact Nat.pow_lt_pow_right (by decide) hz)
theorem srl_le {met row : Nat} {nxt : Nat → Nat × (Nat → Nat) → Nat × (Nat → Nat)} (hn : ∀ z s, (nxt z s).1 ≤ s.1) (s : Nat × (Nat → Nat)) : ∀ n, (srl met row nxt n s).1 ≤ s.1 := by
  intro n
  induction n with
  | zero => exact Nat.le_refl _
  | succ n ih =>
    rw [srl]
    split
    · exact ih
    · exact Nat.le_trans (hn _ _) ih
theorem stry_le (O : Nat → Nat) (N : Nat) : ∀ F k met w s, (stry O N F k met w s).1 ≤ s.1 := by
  intro F
  induction F with
  | zero => intro k met w s; exact Nat.le_refl _
  | succ F ih =>
    intro k met w s
    rw [stry]
    refine Nat.le_trans (srl_le (fun z s => ih _ _ _ _) _ N) ?_
    split
    · rename_i q; exact Nat.le_of_lt q.2.1
    · exact Nat.le_refl _
theorem scn1_lt {O : Nat → Nat} (hO : ∀ z, O z < 16) (s : Nat) : ∀ n, scn1 O s n < 16 := by
  intro n
  induction n with
  | zero => exact (by decide : 0 < 16)
  | succ n ih =>
    rw [scn1]
    refine Nat.or_lt_two_pow (n := 4) ih ?_
    split
    · exact hO _
    · decide
theorem sbd_lt {O : Nat → Nat} (hO : ∀ z, O z < 16) (N : Nat) {s : Nat} (hs : s < 16) : ∀ d, sbd O N d s < 16 := by
  intro d
  cases d with
  | zero => exact hs
  | succ d => exact scn1_lt hO _ _
theorem sowe_tb (R S : Nat → Nat) (m y : Nat) : ∀ n, (sowe R S m n).testBit y = true → ∃ k, k < n ∧ S (32 + k) = m ∧ R (34 + 4 * k) ≠ m ∧ R (34 + 4 * k) = y := by
  intro n
  induction n with
  | zero => intro h; rw [sowe, Nat.zero_testBit] at h; cases h
  | succ n ih =>
    intro h
    rw [sowe, Nat.testBit_or, Bool.or_eq_true] at h
    rcases h with h | h
    · obtain ⟨k, h1, h2⟩ := ih h; exact ⟨k, by omega, h2⟩
    · split at h
      · rename_i q
        rw [tb1, decide_eq_true_eq] at h
        exact ⟨n, by omega, q.1, q.2, h⟩
      · rw [Nat.zero_testBit] at h; cases h
theorem sRg_owe {R S : Nat → Nat} (hR : wfR R) : sRg (sOwe R S) (R 3) := by
  refine ⟨hR.2.1, fun x hx y h => ?_⟩
  obtain ⟨k, h1, h2, h3, h4⟩ := sowe_tb R S x y _ h
  have := (hR.2.2.2.2.2.2.2.1 k h1).1
  exact ⟨by omega, by rw [← h4]; exact h3⟩
theorem stry_top {O : Nat → Nat} {N m : Nat} (hO : sRg O N) (hm : m < N) {w : Nat → Nat} (hw : w 0 = m) (g : Nat → Nat) : match slen O N m with
    | none => stry O N 4 1 (1 <<< m) w (1000000, g) = (1000000, g)
    | some L => (stry O N 4 1 (1 <<< m) w (1000000, g)).1 = L ∧ ∀ i, i < L → (stry O N 4 1 (1 <<< m) w (1000000, g)).2 i = srmb O N m L i := by
  have hp : sPth O N m 1 (1 <<< m) w := ⟨by omega, hw, by rw [show w (1 - 1) = m from hw]; exact hm, by rw [show w (1 - 1) = m from hw]; exact wk_0.mpr rfl, fun y hy _ => ⟨0, by omega, by rw [tb1, decide_eq_true_eq] at hy; exact wk_0.mpr hy⟩⟩
  have h4 := hO.1
  cases e : slen O N m with
  | none =>
    have hn := sfst_none _ _ e
    have key : ∀ F k met w s, k + F = 5 → sPth O N m k met w → sone met 8 = k → met < 2 ^ N → stry O N F k met w s = s := by
      intro F
      induction F with
      | zero => intro k met w s _ _ _ _; rfl
      | succ F ih =>
        intro k met w s hk hp hk1 hk2
        have e0 : (if 2 ≤ k ∧ k < s.1 ∧ (O (w (k - 1))).testBit (w 0) = true then (k, w) else s) = s := by
          refine if_neg ?_
          rintro ⟨h1, -, h3⟩
          have hc := sClo hp h3
          have q : k ≤ N := by rw [← hk1]; exact sone_pw h4 hk2
          have := hn k h1 (by omega)
          rw [show (sbd O N k (1 <<< m)).testBit m = true from hc] at this; cases this
        rw [stry, e0]
        exact srl_keep N (fun z hzN hzm hz => ih _ _ _ _ (by omega) (sPth_s hO hp hz) (by rw [sone_or (Nat.lt_of_lt_of_le hk2 (Nat.le_trans (Nat.pow_le_pow_right (n := 2) (by decide) h4) (by decide))) (by omega) hzm, hk1]) (Nat.or_lt_two_pow hk2 (by rw [Nat.shiftLeft_eq, Nat.one_mul]; exact Nat.pow_lt_pow_right (by decide) hzN)))
    exact key 4 1 _ _ _ rfl hp (sone_1 ⟨m, by omega⟩) (by rw [Nat.shiftLeft_eq, Nat.one_mul]; exact Nat.pow_lt_pow_right (by decide) hm)
  | some L =>
    obtain ⟨h1, h2, h3, hmin⟩ := sfst_some _ _ _ e
    have hL : sMn O N m L := fun d a b c => by have := hmin d a b; rw [show (sbd O N d (1 <<< m)).testBit m = true from c] at this; cases this
    obtain ⟨b1, b2, b3⟩ := stry_B hO hL hm 4 1 _ _ (1000000, g) hp (by show L < 1000000; omega) (by omega) (by omega) h1 (by rw [show w (1 - 1) = m from hw, show L - 1 + 1 = L by omega]; exact h3)
    exact ⟨b1, srmb_eq ((b2 0 (by omega)).trans hw) (fun i q1 q2 => b3 i q1 q2)⟩

def aRing (R S : Nat → Nat) (m : Int32) : Int32 × Int32 := aM R m (fun m => zo (slen (sOwe R S) (R 3) m))
def aRAt (R S : Nat → Nat) (m i : Int32) : Int32 × Int32 := if zlt m (R 3) then (match slen (sOwe R S) (R 3) (pn m) with
  | some L => if zlt i L then (nI (srmb (sOwe R S) (R 3) (pn m) L (pn i)), 0) else (-1, 1)
  | none => (-1, 1)) else (-1, 1)
theorem slen_le {O : Nat → Nat} {N m L : Nat} (h : slen O N m = some L) : 2 ≤ L ∧ L ≤ N := by
  obtain ⟨h1, h2, -⟩ := sfst_some _ _ _ h
  exact ⟨h1, by omega⟩
def TrQ (O : Nat → Nat) (N F k met : Nat) (w : Nat → Nat) (s : Nat × (Nat → Nat)) (v : Nat → Int32) (h hh : ZH) : Prop := ∃ (v' : Nat → Int32) (W' G' : Nat → Nat), hh 1063 = some (zO 8 (mfs v')) ∧ mV v v' ∧ v' 30 = nI (stry O N F k met w s).1 ∧ hh 1076 = some (zI 4 W') ∧ (∀ i, i < k → W' i = w i) ∧ hh 1077 = some (zI 4 G') ∧ (∀ i, i < 4 → i < (stry O N F k met w s).1 → G' i = (stry O N F k met w s).2 i) ∧ ∀ a, a ≠ 1063 → a ≠ 1076 → a ≠ 1077 → hh a = h a
def TrF (R S : Nat → Nat) (F : Nat) : Prop := ∀ (h : ZH) (v : Nat → Int32) (k met : Nat) (w W G : Nat → Nat) (s : Nat × (Nat → Nat)), k + F = 5 → 1 ≤ k → sone met 8 = k → met < 16 → h 1063 = some (zO 8 (mfs v)) → v 30 = nI s.1 → s.1 ≤ 1000000 → h 1066 = some (zI 241 R) → h 1070 = some (zI 40 S) → h 1076 = some (zI 4 W) → (∀ i, i < k → W i = w i) → (∀ i, i < k → w i < R 3) → h 1077 = some (zI 4 G) → (∀ i, i < 4 → i < s.1 → G i = s.2 i) → ZQ0 mX12_tryRing (1 + F) [.ref 1063, .int (nI k), .int (nI met)] h (fun hh => TrQ (sOwe R S) (R 3) F k met w s v h hh)

set_option maxRecDepth 20000 in
set_option maxHeartbeats 1000000 in
theorem tX12_tryRingS {h : ZH} {v : Nat → Int32} {R S w W G : Nat → Nat} {k met F : Nat} {s : Nat × (Nat → Nat)} (hkF : k + (F + 1) = 5) (hk1 : 1 ≤ k) (hmk : sone met 8 = k) (hmet : met < 16) (hM : h 1063 = some (zO 8 (mfs v))) (h30 : v 30 = nI s.1) (hsb : s.1 ≤ 1000000) (hA : h 1066 = some (zI 241 R)) (hB : h 1070 = some (zI 40 S)) (hWa : h 1076 = some (zI 4 W)) (hW : ∀ i, i < k → W i = w i) (hwN : ∀ i, i < k → w i < R 3) (hGa : h 1077 = some (zI 4 G)) (hG : ∀ i, i < 4 → i < s.1 → G i = s.2 i) (hR : wfR R) (hS : wfS R S) (IH : TrF R S F) (s1  : Nat × (Nat → Nat)) (hs1 : (if 2 ≤ k ∧ k < s.1 ∧ ((sOwe R S) (w (k - 1))).testBit (w 0) = true then (k, w) else s) = s1) : ZQ0 mX12_tryRing (1 + (F + 1)) [.ref 1063, .int (nI k), .int (nI met)] h (fun hh => TrQ (sOwe R S) (R 3) (F + 1) k met w s v h hh) := by
  intro n
  obtain ⟨w1, w3, w4, w5, w0, wP, wM, wK, wX⟩ := id hR
  obtain ⟨wT, wL, wB⟩ := id hS
  have b0 := hwN (k - 1) (by omega)
  have b1 := hwN 0 (by omega)
  have b2 := sOwe_lt hR S (w (k - 1))
  refine z_enter (lv := [(0, _), (1, _), (2, _)]) (by decide) (Nat.le_of_ble_eq_true rfl) rfl (fun X C => ?_)
  refine z_iload_n (pc := 0) C dX12_tryRing_0 1 rfl ?_
  refine z_iconst (pc := 1) C dX12_tryRing_1 (nI 2) (by decide) ?_
  first | refine z_icmpltN (pc := 2) C 56 dX12_tryRing_2 (by decide) (by omega) (by omega) (fun hc2 => ?_) (fun hc2 => ?_) | refine z_icmp_lt (pc := 2) C 56 dX12_tryRing_2 (by decide) (fun hc2 => ?_) (fun hc2 => ?_)
  · skip
    have es : s1 = s := by rw [← hs1]; exact if_neg (fun z => by omega)
    refine z_iconst (pc := 56) C dX12_tryRing_56 (nI 0) (by decide) ?_
    refine z_istore_n (pc := 57) (lv' := [(3, _), (0, _), (1, _), (2, _)]) C dX12_tryRing_57 (by decide) rfl ?_
    refine z_sub (lv' := [(0, _), (1, _), (2, _), (3, _)]) [1, 2, 3, 0] rfl ?_
    have lp58 : ∀ (f : Nat) (z : Nat) (h2 : ZH) (v2 : Nat → Int32) (W2 G2 : Nat → Nat), (z + f = R 3 ∧ h2 1063 = some (zO 8 (mfs v2)) ∧ mV v v2 ∧ v2 30 = nI (srl met ((sOwe R S) (w (k - 1))) (fun z s => stry (sOwe R S) (R 3) F (k + 1) (met ||| 1 <<< z) (nup w k z) s) z s1).1 ∧ h2 1076 = some (zI 4 W2) ∧ (∀ i, i < k → W2 i = w i) ∧ h2 1077 = some (zI 4 G2) ∧ (∀ i, i < 4 → i < (srl met ((sOwe R S) (w (k - 1))) (fun z s => stry (sOwe R S) (R 3) F (k + 1) (met ||| 1 <<< z) (nup w k z) s) z s1).1 → G2 i = (srl met ((sOwe R S) (w (k - 1))) (fun z s => stry (sOwe R S) (R 3) F (k + 1) (met ||| 1 <<< z) (nup w k z) s) z s1).2 i) ∧ ∀ a, a ≠ 1063 → a ≠ 1076 → a ≠ 1077 → h2 a = h a) → Zc X mX12_tryRing (zEnd X (fun r hh n' => r = none ∧ (TrQ (sOwe R S) (R 3) (F + 1) k met w s v h hh) ∧ n' = n) 0 0) 58 [(0, .ref 1063), (1, .int (nI k)), (2, .int (nI met)), (3, .int (nI z))] [] h2 n 0 0 := by
      intro f
      induction f using Nat.strongRecOn with
      | _ f ih =>
        intro z h2 v2 W2 G2 hk2
        obtain ⟨hk2, hM2, hV2, h302, hWa2, hW2, hGa2, hG2, F2⟩ := hk2
        have hA2 : h2 1066 = _ := (F2 _ (by decide) (by decide) (by decide)).trans hA
        have hB2 : h2 1070 = _ := (F2 _ (by decide) (by decide) (by decide)).trans hB
        have b5 : (srl met ((sOwe R S) (w (k - 1))) (fun z s => stry (sOwe R S) (R 3) F (k + 1) (met ||| 1 <<< z) (nup w k z) s) z s1).1 ≤ s1.1 := srl_le (fun z s => stry_le _ _ _ _ _ _ _) _ _
        have b6 : s1.1 ≤ s.1 := by first | (rw [es]; exact Nat.le_refl _) | (rw [es]; show k ≤ s.1; omega)
        refine z_iload_n (pc := 58) C dX12_tryRing_58 3 rfl ?_
        refine z_aload_n (pc := 59) C dX12_tryRing_59 0 rfl ?_
        refine z_getf (pc := 60) C dX12_tryRing_60 fX12_20 hM2 (by first | rfl | assumption) ?_
        refine z_iconst (pc := 63) C dX12_tryRing_63 (nI 3) (by decide) ?_
        first | refine z_ialdN (pc := 64) C dX12_tryRing_64 hA2 (by omega) (by decide) ?_ | refine z_ialdI (pc := 64) C dX12_tryRing_64 hA2 (by omega) (by decide) ?_
        first | refine z_icmpgeN (pc := 65) C 123 dX12_tryRing_65 (by decide) (by omega) (by omega) (fun hc65 => ?_) (fun hc65 => ?_) | refine z_icmp_ge (pc := 65) C 123 dX12_tryRing_65 (by decide) (fun hc65 => ?_) (fun hc65 => ?_)
        · skip
          refine z_vret (pc := 123) C dX12_tryRing_123 rfl (Nat.zero_le _) (Nat.zero_le _) ⟨rfl, ?_, rfl⟩
          obtain rfl : z = R 3 := (by omega)
          have e8 : stry (sOwe R S) (R 3) (F + 1) k met w s = (srl met ((sOwe R S) (w (k - 1))) (fun z s => stry (sOwe R S) (R 3) F (k + 1) (met ||| 1 <<< z) (nup w k z) s) (R 3) s1) := by rw [stry, hs1]
          refine ⟨v2, W2, G2, hM2, hV2, ?_, hWa2, hW2, hGa2, ?_, F2⟩
          · rw [e8]; exact h302
          · rw [e8]; exact hG2
        · skip
          refine z_iload_n (pc := 68) C dX12_tryRing_68 2 rfl ?_
          refine z_iload_n (pc := 69) C dX12_tryRing_69 3 rfl ?_
          refine z_cS1 (pc := 70) mX12_hasBit C [_, _] dX12_tryRing_70 lX12_236 mtX12_hasBit (tX12_hasBit (by omega) (by omega)) rfl rfl (by omega) (Nat.le_of_ble_eq_true rfl) (Nat.zero_le _) (Nat.zero_le _) ?_
          first | refine z_ifneB (pc := 73) C 117 dX12_tryRing_73 (by decide) (fun hc73 => ?_) (fun hc73 => ?_) | refine z_ifneN (pc := 73) C 117 dX12_tryRing_73 (by decide) (by omega) (fun hc73 => ?_) (fun hc73 => ?_) | refine z_if_ne (pc := 73) C 117 dX12_tryRing_73 (by decide) (fun hc73 => ?_) (fun hc73 => ?_)
          · skip
            have e8 : (srl met ((sOwe R S) (w (k - 1))) (fun z s => stry (sOwe R S) (R 3) F (k + 1) (met ||| 1 <<< z) (nup w k z) s) (z + 1) s1) = (srl met ((sOwe R S) (w (k - 1))) (fun z s => stry (sOwe R S) (R 3) F (k + 1) (met ||| 1 <<< z) (nup w k z) s) z s1) := by rw [srl, if_pos (by rw [hc73]; rfl)]
            have e9 := ih (f - 1) (by omega) (z + 1) h2 v2 W2 G2 ⟨by omega, hM2, hV2, by rw [e8]; exact h302, hWa2, hW2, hGa2, by rw [e8]; exact hG2, F2⟩
            first | refine z_iincN (pc := 117) (lv' := [(3, _), (0, _), (1, _), (2, _)]) C 1 dX12_tryRing_117 3 rfl (by decide) (by decide) rfl ?_ | refine z_iinc (pc := 117) (lv' := [(3, _), (0, _), (1, _), (2, _)]) C dX12_tryRing_117 3 rfl _ rfl (by decide) rfl ?_
            refine z_goto (pc := 120) C 58 dX12_tryRing_120 (by decide) ?_
            refine z_sub (lv' := [(0, _), (1, _), (2, _), (3, _)]) [1, 2, 3, 0] rfl ?_
            exact e9
          · skip
            refine z_aload_n (pc := 76) C dX12_tryRing_76 0 rfl ?_
            refine z_aload_n (pc := 77) C dX12_tryRing_77 0 rfl ?_
            refine z_getf (pc := 78) C dX12_tryRing_78 fX12_50 hM2 (by first | rfl | assumption) ?_
            refine z_iload_n (pc := 81) C dX12_tryRing_81 1 rfl ?_
            refine z_iconst (pc := 82) C dX12_tryRing_82 (nI 1) (by decide) ?_
            first | refine z_isubN (pc := 83) C dX12_tryRing_83 (by omega) ?_ | refine z_isub (pc := 83) C dX12_tryRing_83 ?_
            refine z_ialdE (pc := 84) C dX12_tryRing_84 hWa2 (by omega) (by decide) (hW2 (k - 1) (by omega)) ?_
            refine z_cV1 (pc := 85) mX12_owesOf C [_] dX12_tryRing_85 lX12_343 mtX12_owesOf (tX12_owesOf hM2 hA2 hB2 hR hS (by omega)) hM2 rfl rfl (by omega) (Nat.le_of_ble_eq_true rfl) (Nat.zero_le _) (Nat.zero_le _) ?_
            refine z_iload_n (pc := 88) C dX12_tryRing_88 3 rfl ?_
            refine z_cS1 (pc := 89) mX12_hasBit C [_, _] dX12_tryRing_89 lX12_236 mtX12_hasBit (tX12_hasBit (by omega) (by omega)) rfl rfl (by omega) (Nat.le_of_ble_eq_true rfl) (Nat.zero_le _) (Nat.zero_le _) ?_
            first | refine z_ifneB (pc := 92) C 98 dX12_tryRing_92 (by decide) (fun hc92 => ?_) (fun hc92 => ?_) | refine z_ifneN (pc := 92) C 98 dX12_tryRing_92 (by decide) (by omega) (fun hc92 => ?_) (fun hc92 => ?_) | refine z_if_ne (pc := 92) C 98 dX12_tryRing_92 (by decide) (fun hc92 => ?_) (fun hc92 => ?_)
            · skip
              have e8 : (srl met ((sOwe R S) (w (k - 1))) (fun z s => stry (sOwe R S) (R 3) F (k + 1) (met ||| 1 <<< z) (nup w k z) s) (z + 1) s1) = stry (sOwe R S) (R 3) F (k + 1) (met ||| 1 <<< z) (nup w k z) (srl met ((sOwe R S) (w (k - 1))) (fun z s => stry (sOwe R S) (R 3) F (k + 1) (met ||| 1 <<< z) (nup w k z) s) z s1) := by rw [srl, if_neg (by rw [hc73, hc92]; decide)]
              have e7 := sone_or hmet (show z < 4 by omega) hc73
              have e6 := or_16 hmet (show z < 4 by omega)
              have e5 : k ≤ 3 := by have := sone_pw (N := 4) (by decide) (show met ||| 1 <<< z < 2 ^ 4 from e6); omega
              refine z_aload_n (pc := 98) C dX12_tryRing_98 0 rfl ?_
              refine z_getf (pc := 99) C dX12_tryRing_99 fX12_50 hM2 (by first | rfl | assumption) ?_
              refine z_iload_n (pc := 102) C dX12_tryRing_102 1 rfl ?_
              refine z_iload_n (pc := 103) C dX12_tryRing_103 3 rfl ?_
              first | refine z_iastN (pc := 104) C dX12_tryRing_104 hWa2 (by omega) (by decide) ?_ | refine z_iastI (pc := 104) C dX12_tryRing_104 hWa2 (by omega) (by decide) ?_
              have hM3 : zup h2 1076 (zI 4 (nup W2 k z)) 1063 = _ := (zup_ne (by decide)).trans hM2
              have hA3 : zup h2 1076 (zI 4 (nup W2 k z)) 1066 = _ := (zup_ne (by decide)).trans hA2
              have hB3 : zup h2 1076 (zI 4 (nup W2 k z)) 1070 = _ := (zup_ne (by decide)).trans hB2
              have hG3 : zup h2 1076 (zI 4 (nup W2 k z)) 1077 = _ := (zup_ne (by decide)).trans hGa2
              have hW3 := zup_same h2 1076 (zI 4 (nup W2 k z))
              have F3 : ∀ a, a ≠ 1076 → zup h2 1076 (zI 4 (nup W2 k z)) a = h2 a := fun a q => zup_ne q
              generalize zup h2 1076 (zI 4 (nup W2 k z)) = h3 at hM3 hA3 hB3 hG3 hW3 F3 ⊢
              refine z_aload_n (pc := 105) C dX12_tryRing_105 0 rfl ?_
              refine z_iload_n (pc := 106) C dX12_tryRing_106 1 rfl ?_
              refine z_iconst (pc := 107) C dX12_tryRing_107 (nI 1) (by decide) ?_
              first | refine z_iaddN (pc := 108) C dX12_tryRing_108 ?_ | refine z_iadd (pc := 108) C dX12_tryRing_108 ?_
              refine z_iload_n (pc := 109) C dX12_tryRing_109 2 rfl ?_
              refine z_iconst (pc := 110) C dX12_tryRing_110 (nI 1) (by decide) ?_
              refine z_iload_n (pc := 111) C dX12_tryRing_111 3 rfl ?_
              first | refine z_ishlN (pc := 112) C dX12_tryRing_112 (by omega) ?_ | refine z_ishl (pc := 112) C dX12_tryRing_112 ?_
              first | refine z_iorN (pc := 113) C dX12_tryRing_113 ?_ | refine z_ior (pc := 113) C dX12_tryRing_113 ?_
              refine z_cV0Q (pc := 114) mX12_tryRing C [_, _] dX12_tryRing_114 lX12_349 mtX12_tryRing (IH h3 v2 (k + 1) (met ||| 1 <<< z) (nup w k z) (nup W2 k z) G2 (srl met ((sOwe R S) (w (k - 1))) (fun z s => stry (sOwe R S) (R 3) F (k + 1) (met ||| 1 <<< z) (nup w k z) s) z s1) (by omega) (by omega) (by omega) e6 hM3 h302 (by omega) hA3 hB3 hW3 (fun i hi => by by_cases q : i = k; (subst q; rw [nup_same, nup_same]); (rw [nup_ne q, nup_ne q]; exact hW2 i (by omega))) (fun i hi => by by_cases q : i = k; (subst q; rw [nup_same]; omega); (rw [nup_ne q]; exact hwN i (by omega))) hG3 hG2) hM3 rfl rfl (by omega) (Nat.le_of_ble_eq_true rfl) (Nat.zero_le _) (Nat.zero_le _) ?_
              rintro h4 ⟨v4, W4, G4, hM4, hV4, h304, hWa4, hW4, hGa4, hG4, F4⟩
              have e9 := ih (f - 1) (by omega) (z + 1) h4 v4 W4 G4 ⟨by omega, hM4, hV2.tr hV4, by rw [e8]; exact h304, hWa4, fun i hi => (hW4 i (by omega)).trans (nup_ne (by omega)), hGa4, by rw [e8]; exact hG4, fun a q1 q2 q3 => (F4 a q1 q2 q3).trans ((F3 a q2).trans (F2 a q1 q2 q3))⟩
              first | refine z_iincN (pc := 117) (lv' := [(3, _), (0, _), (1, _), (2, _)]) C 1 dX12_tryRing_117 3 rfl (by decide) (by decide) rfl ?_ | refine z_iinc (pc := 117) (lv' := [(3, _), (0, _), (1, _), (2, _)]) C dX12_tryRing_117 3 rfl _ rfl (by decide) rfl ?_
              refine z_goto (pc := 120) C 58 dX12_tryRing_120 (by decide) ?_
              refine z_sub (lv' := [(0, _), (1, _), (2, _), (3, _)]) [1, 2, 3, 0] rfl ?_
              exact e9
            · skip
              have e8 : (srl met ((sOwe R S) (w (k - 1))) (fun z s => stry (sOwe R S) (R 3) F (k + 1) (met ||| 1 <<< z) (nup w k z) s) (z + 1) s1) = (srl met ((sOwe R S) (w (k - 1))) (fun z s => stry (sOwe R S) (R 3) F (k + 1) (met ||| 1 <<< z) (nup w k z) s) z s1) := by rw [srl, if_pos (by rw [hc73, hc92]; rfl)]
              have e9 := ih (f - 1) (by omega) (z + 1) h2 v2 W2 G2 ⟨by omega, hM2, hV2, by rw [e8]; exact h302, hWa2, hW2, hGa2, by rw [e8]; exact hG2, F2⟩
              refine z_goto (pc := 95) C 117 dX12_tryRing_95 (by decide) ?_
              first | refine z_iincN (pc := 117) (lv' := [(3, _), (0, _), (1, _), (2, _)]) C 1 dX12_tryRing_117 3 rfl (by decide) (by decide) rfl ?_ | refine z_iinc (pc := 117) (lv' := [(3, _), (0, _), (1, _), (2, _)]) C dX12_tryRing_117 3 rfl _ rfl (by decide) rfl ?_
              refine z_goto (pc := 120) C 58 dX12_tryRing_120 (by decide) ?_
              refine z_sub (lv' := [(0, _), (1, _), (2, _), (3, _)]) [1, 2, 3, 0] rfl ?_
              exact e9
    first | exact lp58 (R 3) 0 h v W G ⟨by omega, hM, mV.rf v, by show v 30 = nI s1.1; rw [es]; exact h30, hWa, hW, hGa, by show ∀ i, i < 4 → i < s1.1 → G i = s1.2 i; rw [es]; exact hG, fun _ _ _ _ => rfl⟩ | exact lp58 (R 3) 0 hy _ W _ ⟨by omega, hMx, (mV.rf v).up _ (by decide), by show _ = nI s1.1; rw [es]; rfl, hWy, hW, hGy, by show ∀ i, i < 4 → i < s1.1 → ncpy W G 0 0 4 i = s1.2 i; rw [es]; exact fun i h1 h2 => (ncpy_00 _ _ h1).trans (hW i h2), Fy⟩
  · skip
    refine z_iload_n (pc := 5) C dX12_tryRing_5 1 rfl ?_
    refine z_aload_n (pc := 6) C dX12_tryRing_6 0 rfl ?_
    refine z_getf (pc := 7) C dX12_tryRing_7 fX12_346 (by assumption) (by first | rfl | assumption) ?_
    refine z_top h30 ?_
    first | refine z_icmpgeN (pc := 10) C 56 dX12_tryRing_10 (by decide) (by omega) (by omega) (fun hc10 => ?_) (fun hc10 => ?_) | refine z_icmp_ge (pc := 10) C 56 dX12_tryRing_10 (by decide) (fun hc10 => ?_) (fun hc10 => ?_)
    · skip
      have es : s1 = s := by rw [← hs1]; exact if_neg (fun z => by omega)
      refine z_iconst (pc := 56) C dX12_tryRing_56 (nI 0) (by decide) ?_
      refine z_istore_n (pc := 57) (lv' := [(3, _), (0, _), (1, _), (2, _)]) C dX12_tryRing_57 (by decide) rfl ?_
      refine z_sub (lv' := [(0, _), (1, _), (2, _), (3, _)]) [1, 2, 3, 0] rfl ?_
      have lp58 : ∀ (f : Nat) (z : Nat) (h2 : ZH) (v2 : Nat → Int32) (W2 G2 : Nat → Nat), (z + f = R 3 ∧ h2 1063 = some (zO 8 (mfs v2)) ∧ mV v v2 ∧ v2 30 = nI (srl met ((sOwe R S) (w (k - 1))) (fun z s => stry (sOwe R S) (R 3) F (k + 1) (met ||| 1 <<< z) (nup w k z) s) z s1).1 ∧ h2 1076 = some (zI 4 W2) ∧ (∀ i, i < k → W2 i = w i) ∧ h2 1077 = some (zI 4 G2) ∧ (∀ i, i < 4 → i < (srl met ((sOwe R S) (w (k - 1))) (fun z s => stry (sOwe R S) (R 3) F (k + 1) (met ||| 1 <<< z) (nup w k z) s) z s1).1 → G2 i = (srl met ((sOwe R S) (w (k - 1))) (fun z s => stry (sOwe R S) (R 3) F (k + 1) (met ||| 1 <<< z) (nup w k z) s) z s1).2 i) ∧ ∀ a, a ≠ 1063 → a ≠ 1076 → a ≠ 1077 → h2 a = h a) → Zc X mX12_tryRing (zEnd X (fun r hh n' => r = none ∧ (TrQ (sOwe R S) (R 3) (F + 1) k met w s v h hh) ∧ n' = n) 0 0) 58 [(0, .ref 1063), (1, .int (nI k)), (2, .int (nI met)), (3, .int (nI z))] [] h2 n 0 0 := by
        intro f
        induction f using Nat.strongRecOn with
        | _ f ih =>
          intro z h2 v2 W2 G2 hk2
          obtain ⟨hk2, hM2, hV2, h302, hWa2, hW2, hGa2, hG2, F2⟩ := hk2
          have hA2 : h2 1066 = _ := (F2 _ (by decide) (by decide) (by decide)).trans hA
          have hB2 : h2 1070 = _ := (F2 _ (by decide) (by decide) (by decide)).trans hB
          have b5 : (srl met ((sOwe R S) (w (k - 1))) (fun z s => stry (sOwe R S) (R 3) F (k + 1) (met ||| 1 <<< z) (nup w k z) s) z s1).1 ≤ s1.1 := srl_le (fun z s => stry_le _ _ _ _ _ _ _) _ _
          have b6 : s1.1 ≤ s.1 := by first | (rw [es]; exact Nat.le_refl _) | (rw [es]; show k ≤ s.1; omega)
          refine z_iload_n (pc := 58) C dX12_tryRing_58 3 rfl ?_
          refine z_aload_n (pc := 59) C dX12_tryRing_59 0 rfl ?_
          refine z_getf (pc := 60) C dX12_tryRing_60 fX12_20 hM2 (by first | rfl | assumption) ?_
          refine z_iconst (pc := 63) C dX12_tryRing_63 (nI 3) (by decide) ?_
          first | refine z_ialdN (pc := 64) C dX12_tryRing_64 hA2 (by omega) (by decide) ?_ | refine z_ialdI (pc := 64) C dX12_tryRing_64 hA2 (by omega) (by decide) ?_
          first | refine z_icmpgeN (pc := 65) C 123 dX12_tryRing_65 (by decide) (by omega) (by omega) (fun hc65 => ?_) (fun hc65 => ?_) | refine z_icmp_ge (pc := 65) C 123 dX12_tryRing_65 (by decide) (fun hc65 => ?_) (fun hc65 => ?_)
          · skip
            refine z_vret (pc := 123) C dX12_tryRing_123 rfl (Nat.zero_le _) (Nat.zero_le _) ⟨rfl, ?_, rfl⟩
            obtain rfl : z = R 3 := (by omega)
            have e8 : stry (sOwe R S) (R 3) (F + 1) k met w s = (srl met ((sOwe R S) (w (k - 1))) (fun z s => stry (sOwe R S) (R 3) F (k + 1) (met ||| 1 <<< z) (nup w k z) s) (R 3) s1) := by rw [stry, hs1]
            refine ⟨v2, W2, G2, hM2, hV2, ?_, hWa2, hW2, hGa2, ?_, F2⟩
            · rw [e8]; exact h302
            · rw [e8]; exact hG2
          · skip
            refine z_iload_n (pc := 68) C dX12_tryRing_68 2 rfl ?_
            refine z_iload_n (pc := 69) C dX12_tryRing_69 3 rfl ?_
            refine z_cS1 (pc := 70) mX12_hasBit C [_, _] dX12_tryRing_70 lX12_236 mtX12_hasBit (tX12_hasBit (by omega) (by omega)) rfl rfl (by omega) (Nat.le_of_ble_eq_true rfl) (Nat.zero_le _) (Nat.zero_le _) ?_
            first | refine z_ifneB (pc := 73) C 117 dX12_tryRing_73 (by decide) (fun hc73 => ?_) (fun hc73 => ?_) | refine z_ifneN (pc := 73) C 117 dX12_tryRing_73 (by decide) (by omega) (fun hc73 => ?_) (fun hc73 => ?_) | refine z_if_ne (pc := 73) C 117 dX12_tryRing_73 (by decide) (fun hc73 => ?_) (fun hc73 => ?_)
            · skip
              have e8 : (srl met ((sOwe R S) (w (k - 1))) (fun z s => stry (sOwe R S) (R 3) F (k + 1) (met ||| 1 <<< z) (nup w k z) s) (z + 1) s1) = (srl met ((sOwe R S) (w (k - 1))) (fun z s => stry (sOwe R S) (R 3) F (k + 1) (met ||| 1 <<< z) (nup w k z) s) z s1) := by rw [srl, if_pos (by rw [hc73]; rfl)]
              have e9 := ih (f - 1) (by omega) (z + 1) h2 v2 W2 G2 ⟨by omega, hM2, hV2, by rw [e8]; exact h302, hWa2, hW2, hGa2, by rw [e8]; exact hG2, F2⟩
              first | refine z_iincN (pc := 117) (lv' := [(3, _), (0, _), (1, _), (2, _)]) C 1 dX12_tryRing_117 3 rfl (by decide) (by decide) rfl ?_ | refine z_iinc (pc := 117) (lv' := [(3, _), (0, _), (1, _), (2, _)]) C dX12_tryRing_117 3 rfl _ rfl (by decide) rfl ?_
              refine z_goto (pc := 120) C 58 dX12_tryRing_120 (by decide) ?_
              refine z_sub (lv' := [(0, _), (1, _), (2, _), (3, _)]) [1, 2, 3, 0] rfl ?_
              exact e9
            · skip
              refine z_aload_n (pc := 76) C dX12_tryRing_76 0 rfl ?_
              refine z_aload_n (pc := 77) C dX12_tryRing_77 0 rfl ?_
              refine z_getf (pc := 78) C dX12_tryRing_78 fX12_50 hM2 (by first | rfl | assumption) ?_
              refine z_iload_n (pc := 81) C dX12_tryRing_81 1 rfl ?_
              refine z_iconst (pc := 82) C dX12_tryRing_82 (nI 1) (by decide) ?_
              first | refine z_isubN (pc := 83) C dX12_tryRing_83 (by omega) ?_ | refine z_isub (pc := 83) C dX12_tryRing_83 ?_
              refine z_ialdE (pc := 84) C dX12_tryRing_84 hWa2 (by omega) (by decide) (hW2 (k - 1) (by omega)) ?_
              refine z_cV1 (pc := 85) mX12_owesOf C [_] dX12_tryRing_85 lX12_343 mtX12_owesOf (tX12_owesOf hM2 hA2 hB2 hR hS (by omega)) hM2 rfl rfl (by omega) (Nat.le_of_ble_eq_true rfl) (Nat.zero_le _) (Nat.zero_le _) ?_
              refine z_iload_n (pc := 88) C dX12_tryRing_88 3 rfl ?_
              refine z_cS1 (pc := 89) mX12_hasBit C [_, _] dX12_tryRing_89 lX12_236 mtX12_hasBit (tX12_hasBit (by omega) (by omega)) rfl rfl (by omega) (Nat.le_of_ble_eq_true rfl) (Nat.zero_le _) (Nat.zero_le _) ?_
              first | refine z_ifneB (pc := 92) C 98 dX12_tryRing_92 (by decide) (fun hc92 => ?_) (fun hc92 => ?_) | refine z_ifneN (pc := 92) C 98 dX12_tryRing_92 (by decide) (by omega) (fun hc92 => ?_) (fun hc92 => ?_) | refine z_if_ne (pc := 92) C 98 dX12_tryRing_92 (by decide) (fun hc92 => ?_) (fun hc92 => ?_)
              · skip
                have e8 : (srl met ((sOwe R S) (w (k - 1))) (fun z s => stry (sOwe R S) (R 3) F (k + 1) (met ||| 1 <<< z) (nup w k z) s) (z + 1) s1) = stry (sOwe R S) (R 3) F (k + 1) (met ||| 1 <<< z) (nup w k z) (srl met ((sOwe R S) (w (k - 1))) (fun z s => stry (sOwe R S) (R 3) F (k + 1) (met ||| 1 <<< z) (nup w k z) s) z s1) := by rw [srl, if_neg (by rw [hc73, hc92]; decide)]
                have e7 := sone_or hmet (show z < 4 by omega) hc73
                have e6 := or_16 hmet (show z < 4 by omega)
                have e5 : k ≤ 3 := by have := sone_pw (N := 4) (by decide) (show met ||| 1 <<< z < 2 ^ 4 from e6); omega
                refine z_aload_n (pc := 98) C dX12_tryRing_98 0 rfl ?_
                refine z_getf (pc := 99) C dX12_tryRing_99 fX12_50 hM2 (by first | rfl | assumption) ?_
                refine z_iload_n (pc := 102) C dX12_tryRing_102 1 rfl ?_
                refine z_iload_n (pc := 103) C dX12_tryRing_103 3 rfl ?_
                first | refine z_iastN (pc := 104) C dX12_tryRing_104 hWa2 (by omega) (by decide) ?_ | refine z_iastI (pc := 104) C dX12_tryRing_104 hWa2 (by omega) (by decide) ?_
                have hM3 : zup h2 1076 (zI 4 (nup W2 k z)) 1063 = _ := (zup_ne (by decide)).trans hM2
                have hA3 : zup h2 1076 (zI 4 (nup W2 k z)) 1066 = _ := (zup_ne (by decide)).trans hA2
                have hB3 : zup h2 1076 (zI 4 (nup W2 k z)) 1070 = _ := (zup_ne (by decide)).trans hB2
                have hG3 : zup h2 1076 (zI 4 (nup W2 k z)) 1077 = _ := (zup_ne (by decide)).trans hGa2
                have hW3 := zup_same h2 1076 (zI 4 (nup W2 k z))
                have F3 : ∀ a, a ≠ 1076 → zup h2 1076 (zI 4 (nup W2 k z)) a = h2 a := fun a q => zup_ne q
                generalize zup h2 1076 (zI 4 (nup W2 k z)) = h3 at hM3 hA3 hB3 hG3 hW3 F3 ⊢
                refine z_aload_n (pc := 105) C dX12_tryRing_105 0 rfl ?_
                refine z_iload_n (pc := 106) C dX12_tryRing_106 1 rfl ?_
                refine z_iconst (pc := 107) C dX12_tryRing_107 (nI 1) (by decide) ?_
                first | refine z_iaddN (pc := 108) C dX12_tryRing_108 ?_ | refine z_iadd (pc := 108) C dX12_tryRing_108 ?_
                refine z_iload_n (pc := 109) C dX12_tryRing_109 2 rfl ?_
                refine z_iconst (pc := 110) C dX12_tryRing_110 (nI 1) (by decide) ?_
                refine z_iload_n (pc := 111) C dX12_tryRing_111 3 rfl ?_
                first | refine z_ishlN (pc := 112) C dX12_tryRing_112 (by omega) ?_ | refine z_ishl (pc := 112) C dX12_tryRing_112 ?_
                first | refine z_iorN (pc := 113) C dX12_tryRing_113 ?_ | refine z_ior (pc := 113) C dX12_tryRing_113 ?_
                refine z_cV0Q (pc := 114) mX12_tryRing C [_, _] dX12_tryRing_114 lX12_349 mtX12_tryRing (IH h3 v2 (k + 1) (met ||| 1 <<< z) (nup w k z) (nup W2 k z) G2 (srl met ((sOwe R S) (w (k - 1))) (fun z s => stry (sOwe R S) (R 3) F (k + 1) (met ||| 1 <<< z) (nup w k z) s) z s1) (by omega) (by omega) (by omega) e6 hM3 h302 (by omega) hA3 hB3 hW3 (fun i hi => by by_cases q : i = k; (subst q; rw [nup_same, nup_same]); (rw [nup_ne q, nup_ne q]; exact hW2 i (by omega))) (fun i hi => by by_cases q : i = k; (subst q; rw [nup_same]; omega); (rw [nup_ne q]; exact hwN i (by omega))) hG3 hG2) hM3 rfl rfl (by omega) (Nat.le_of_ble_eq_true rfl) (Nat.zero_le _) (Nat.zero_le _) ?_
                rintro h4 ⟨v4, W4, G4, hM4, hV4, h304, hWa4, hW4, hGa4, hG4, F4⟩
                have e9 := ih (f - 1) (by omega) (z + 1) h4 v4 W4 G4 ⟨by omega, hM4, hV2.tr hV4, by rw [e8]; exact h304, hWa4, fun i hi => (hW4 i (by omega)).trans (nup_ne (by omega)), hGa4, by rw [e8]; exact hG4, fun a q1 q2 q3 => (F4 a q1 q2 q3).trans ((F3 a q2).trans (F2 a q1 q2 q3))⟩
                first | refine z_iincN (pc := 117) (lv' := [(3, _), (0, _), (1, _), (2, _)]) C 1 dX12_tryRing_117 3 rfl (by decide) (by decide) rfl ?_ | refine z_iinc (pc := 117) (lv' := [(3, _), (0, _), (1, _), (2, _)]) C dX12_tryRing_117 3 rfl _ rfl (by decide) rfl ?_
                refine z_goto (pc := 120) C 58 dX12_tryRing_120 (by decide) ?_
                refine z_sub (lv' := [(0, _), (1, _), (2, _), (3, _)]) [1, 2, 3, 0] rfl ?_
                exact e9
              · skip
                have e8 : (srl met ((sOwe R S) (w (k - 1))) (fun z s => stry (sOwe R S) (R 3) F (k + 1) (met ||| 1 <<< z) (nup w k z) s) (z + 1) s1) = (srl met ((sOwe R S) (w (k - 1))) (fun z s => stry (sOwe R S) (R 3) F (k + 1) (met ||| 1 <<< z) (nup w k z) s) z s1) := by rw [srl, if_pos (by rw [hc73, hc92]; rfl)]
                have e9 := ih (f - 1) (by omega) (z + 1) h2 v2 W2 G2 ⟨by omega, hM2, hV2, by rw [e8]; exact h302, hWa2, hW2, hGa2, by rw [e8]; exact hG2, F2⟩
                refine z_goto (pc := 95) C 117 dX12_tryRing_95 (by decide) ?_
                first | refine z_iincN (pc := 117) (lv' := [(3, _), (0, _), (1, _), (2, _)]) C 1 dX12_tryRing_117 3 rfl (by decide) (by decide) rfl ?_ | refine z_iinc (pc := 117) (lv' := [(3, _), (0, _), (1, _), (2, _)]) C dX12_tryRing_117 3 rfl _ rfl (by decide) rfl ?_
                refine z_goto (pc := 120) C 58 dX12_tryRing_120 (by decide) ?_
                refine z_sub (lv' := [(0, _), (1, _), (2, _), (3, _)]) [1, 2, 3, 0] rfl ?_
                exact e9
      first | exact lp58 (R 3) 0 h v W G ⟨by omega, hM, mV.rf v, by show v 30 = nI s1.1; rw [es]; exact h30, hWa, hW, hGa, by show ∀ i, i < 4 → i < s1.1 → G i = s1.2 i; rw [es]; exact hG, fun _ _ _ _ => rfl⟩ | exact lp58 (R 3) 0 hy _ W _ ⟨by omega, hMx, (mV.rf v).up _ (by decide), by show _ = nI s1.1; rw [es]; rfl, hWy, hW, hGy, by show ∀ i, i < 4 → i < s1.1 → ncpy W G 0 0 4 i = s1.2 i; rw [es]; exact fun i h1 h2 => (ncpy_00 _ _ h1).trans (hW i h2), Fy⟩
    · skip
      refine z_aload_n (pc := 13) C dX12_tryRing_13 0 rfl ?_
      refine z_aload_n (pc := 14) C dX12_tryRing_14 0 rfl ?_
      refine z_getf (pc := 15) C dX12_tryRing_15 fX12_50 (by assumption) (by first | rfl | assumption) ?_
      refine z_iload_n (pc := 18) C dX12_tryRing_18 1 rfl ?_
      refine z_iconst (pc := 19) C dX12_tryRing_19 (nI 1) (by decide) ?_
      first | refine z_isubN (pc := 20) C dX12_tryRing_20 (by omega) ?_ | refine z_isub (pc := 20) C dX12_tryRing_20 ?_
      refine z_ialdE (pc := 21) C dX12_tryRing_21 (by assumption) (by omega) (by decide) (hW (k - 1) (by omega)) ?_
      refine z_cV1 (pc := 22) mX12_owesOf C [_] dX12_tryRing_22 lX12_343 mtX12_owesOf (tX12_owesOf hM hA hB hR hS (by omega)) hM rfl rfl (by omega) (Nat.le_of_ble_eq_true rfl) (Nat.zero_le _) (Nat.zero_le _) ?_
      refine z_aload_n (pc := 25) C dX12_tryRing_25 0 rfl ?_
      refine z_getf (pc := 26) C dX12_tryRing_26 fX12_50 (by assumption) (by first | rfl | assumption) ?_
      refine z_iconst (pc := 29) C dX12_tryRing_29 (nI 0) (by decide) ?_
      refine z_ialdE (pc := 30) C dX12_tryRing_30 (by assumption) (by omega) (by decide) (hW 0 (by omega)) ?_
      refine z_cS1 (pc := 31) mX12_hasBit C [_, _] dX12_tryRing_31 lX12_236 mtX12_hasBit (tX12_hasBit (by omega) (by omega)) rfl rfl (by omega) (Nat.le_of_ble_eq_true rfl) (Nat.zero_le _) (Nat.zero_le _) ?_
      first | refine z_ifeqB (pc := 34) C 56 dX12_tryRing_34 (by decide) (fun hc34 => ?_) (fun hc34 => ?_) | refine z_ifeqN (pc := 34) C 56 dX12_tryRing_34 (by decide) (by omega) (fun hc34 => ?_) (fun hc34 => ?_) | refine z_if_eq (pc := 34) C 56 dX12_tryRing_34 (by decide) (fun hc34 => ?_) (fun hc34 => ?_)
      · skip
        have es : s1 = s := by rw [← hs1]; exact if_neg (fun z => by rw [hc34] at z; cases z.2.2)
        refine z_iconst (pc := 56) C dX12_tryRing_56 (nI 0) (by decide) ?_
        refine z_istore_n (pc := 57) (lv' := [(3, _), (0, _), (1, _), (2, _)]) C dX12_tryRing_57 (by decide) rfl ?_
        refine z_sub (lv' := [(0, _), (1, _), (2, _), (3, _)]) [1, 2, 3, 0] rfl ?_
        have lp58 : ∀ (f : Nat) (z : Nat) (h2 : ZH) (v2 : Nat → Int32) (W2 G2 : Nat → Nat), (z + f = R 3 ∧ h2 1063 = some (zO 8 (mfs v2)) ∧ mV v v2 ∧ v2 30 = nI (srl met ((sOwe R S) (w (k - 1))) (fun z s => stry (sOwe R S) (R 3) F (k + 1) (met ||| 1 <<< z) (nup w k z) s) z s1).1 ∧ h2 1076 = some (zI 4 W2) ∧ (∀ i, i < k → W2 i = w i) ∧ h2 1077 = some (zI 4 G2) ∧ (∀ i, i < 4 → i < (srl met ((sOwe R S) (w (k - 1))) (fun z s => stry (sOwe R S) (R 3) F (k + 1) (met ||| 1 <<< z) (nup w k z) s) z s1).1 → G2 i = (srl met ((sOwe R S) (w (k - 1))) (fun z s => stry (sOwe R S) (R 3) F (k + 1) (met ||| 1 <<< z) (nup w k z) s) z s1).2 i) ∧ ∀ a, a ≠ 1063 → a ≠ 1076 → a ≠ 1077 → h2 a = h a) → Zc X mX12_tryRing (zEnd X (fun r hh n' => r = none ∧ (TrQ (sOwe R S) (R 3) (F + 1) k met w s v h hh) ∧ n' = n) 0 0) 58 [(0, .ref 1063), (1, .int (nI k)), (2, .int (nI met)), (3, .int (nI z))] [] h2 n 0 0 := by
          intro f
          induction f using Nat.strongRecOn with
          | _ f ih =>
            intro z h2 v2 W2 G2 hk2
            obtain ⟨hk2, hM2, hV2, h302, hWa2, hW2, hGa2, hG2, F2⟩ := hk2
            have hA2 : h2 1066 = _ := (F2 _ (by decide) (by decide) (by decide)).trans hA
            have hB2 : h2 1070 = _ := (F2 _ (by decide) (by decide) (by decide)).trans hB
            have b5 : (srl met ((sOwe R S) (w (k - 1))) (fun z s => stry (sOwe R S) (R 3) F (k + 1) (met ||| 1 <<< z) (nup w k z) s) z s1).1 ≤ s1.1 := srl_le (fun z s => stry_le _ _ _ _ _ _ _) _ _
            have b6 : s1.1 ≤ s.1 := by first | (rw [es]; exact Nat.le_refl _) | (rw [es]; show k ≤ s.1; omega)
            refine z_iload_n (pc := 58) C dX12_tryRing_58 3 rfl ?_
            refine z_aload_n (pc := 59) C dX12_tryRing_59 0 rfl ?_
            refine z_getf (pc := 60) C dX12_tryRing_60 fX12_20 hM2 (by first | rfl | assumption) ?_
            refine z_iconst (pc := 63) C dX12_tryRing_63 (nI 3) (by decide) ?_
            first | refine z_ialdN (pc := 64) C dX12_tryRing_64 hA2 (by omega) (by decide) ?_ | refine z_ialdI (pc := 64) C dX12_tryRing_64 hA2 (by omega) (by decide) ?_
            first | refine z_icmpgeN (pc := 65) C 123 dX12_tryRing_65 (by decide) (by omega) (by omega) (fun hc65 => ?_) (fun hc65 => ?_) | refine z_icmp_ge (pc := 65) C 123 dX12_tryRing_65 (by decide) (fun hc65 => ?_) (fun hc65 => ?_)
            · skip
              refine z_vret (pc := 123) C dX12_tryRing_123 rfl (Nat.zero_le _) (Nat.zero_le _) ⟨rfl, ?_, rfl⟩
              obtain rfl : z = R 3 := (by omega)
              have e8 : stry (sOwe R S) (R 3) (F + 1) k met w s = (srl met ((sOwe R S) (w (k - 1))) (fun z s => stry (sOwe R S) (R 3) F (k + 1) (met ||| 1 <<< z) (nup w k z) s) (R 3) s1) := by rw [stry, hs1]
              refine ⟨v2, W2, G2, hM2, hV2, ?_, hWa2, hW2, hGa2, ?_, F2⟩
              · rw [e8]; exact h302
              · rw [e8]; exact hG2
            · skip
              refine z_iload_n (pc := 68) C dX12_tryRing_68 2 rfl ?_
              refine z_iload_n (pc := 69) C dX12_tryRing_69 3 rfl ?_
              refine z_cS1 (pc := 70) mX12_hasBit C [_, _] dX12_tryRing_70 lX12_236 mtX12_hasBit (tX12_hasBit (by omega) (by omega)) rfl rfl (by omega) (Nat.le_of_ble_eq_true rfl) (Nat.zero_le _) (Nat.zero_le _) ?_
              first | refine z_ifneB (pc := 73) C 117 dX12_tryRing_73 (by decide) (fun hc73 => ?_) (fun hc73 => ?_) | refine z_ifneN (pc := 73) C 117 dX12_tryRing_73 (by decide) (by omega) (fun hc73 => ?_) (fun hc73 => ?_) | refine z_if_ne (pc := 73) C 117 dX12_tryRing_73 (by decide) (fun hc73 => ?_) (fun hc73 => ?_)
              · skip
                have e8 : (srl met ((sOwe R S) (w (k - 1))) (fun z s => stry (sOwe R S) (R 3) F (k + 1) (met ||| 1 <<< z) (nup w k z) s) (z + 1) s1) = (srl met ((sOwe R S) (w (k - 1))) (fun z s => stry (sOwe R S) (R 3) F (k + 1) (met ||| 1 <<< z) (nup w k z) s) z s1) := by rw [srl, if_pos (by rw [hc73]; rfl)]
                have e9 := ih (f - 1) (by omega) (z + 1) h2 v2 W2 G2 ⟨by omega, hM2, hV2, by rw [e8]; exact h302, hWa2, hW2, hGa2, by rw [e8]; exact hG2, F2⟩
                first | refine z_iincN (pc := 117) (lv' := [(3, _), (0, _), (1, _), (2, _)]) C 1 dX12_tryRing_117 3 rfl (by decide) (by decide) rfl ?_ | refine z_iinc (pc := 117) (lv' := [(3, _), (0, _), (1, _), (2, _)]) C dX12_tryRing_117 3 rfl _ rfl (by decide) rfl ?_
                refine z_goto (pc := 120) C 58 dX12_tryRing_120 (by decide) ?_
                refine z_sub (lv' := [(0, _), (1, _), (2, _), (3, _)]) [1, 2, 3, 0] rfl ?_
                exact e9
              · skip
                refine z_aload_n (pc := 76) C dX12_tryRing_76 0 rfl ?_
                refine z_aload_n (pc := 77) C dX12_tryRing_77 0 rfl ?_
                refine z_getf (pc := 78) C dX12_tryRing_78 fX12_50 hM2 (by first | rfl | assumption) ?_
                refine z_iload_n (pc := 81) C dX12_tryRing_81 1 rfl ?_
                refine z_iconst (pc := 82) C dX12_tryRing_82 (nI 1) (by decide) ?_
                first | refine z_isubN (pc := 83) C dX12_tryRing_83 (by omega) ?_ | refine z_isub (pc := 83) C dX12_tryRing_83 ?_
                refine z_ialdE (pc := 84) C dX12_tryRing_84 hWa2 (by omega) (by decide) (hW2 (k - 1) (by omega)) ?_
                refine z_cV1 (pc := 85) mX12_owesOf C [_] dX12_tryRing_85 lX12_343 mtX12_owesOf (tX12_owesOf hM2 hA2 hB2 hR hS (by omega)) hM2 rfl rfl (by omega) (Nat.le_of_ble_eq_true rfl) (Nat.zero_le _) (Nat.zero_le _) ?_
                refine z_iload_n (pc := 88) C dX12_tryRing_88 3 rfl ?_
                refine z_cS1 (pc := 89) mX12_hasBit C [_, _] dX12_tryRing_89 lX12_236 mtX12_hasBit (tX12_hasBit (by omega) (by omega)) rfl rfl (by omega) (Nat.le_of_ble_eq_true rfl) (Nat.zero_le _) (Nat.zero_le _) ?_
                first | refine z_ifneB (pc := 92) C 98 dX12_tryRing_92 (by decide) (fun hc92 => ?_) (fun hc92 => ?_) | refine z_ifneN (pc := 92) C 98 dX12_tryRing_92 (by decide) (by omega) (fun hc92 => ?_) (fun hc92 => ?_) | refine z_if_ne (pc := 92) C 98 dX12_tryRing_92 (by decide) (fun hc92 => ?_) (fun hc92 => ?_)
                · skip
                  have e8 : (srl met ((sOwe R S) (w (k - 1))) (fun z s => stry (sOwe R S) (R 3) F (k + 1) (met ||| 1 <<< z) (nup w k z) s) (z + 1) s1) = stry (sOwe R S) (R 3) F (k + 1) (met ||| 1 <<< z) (nup w k z) (srl met ((sOwe R S) (w (k - 1))) (fun z s => stry (sOwe R S) (R 3) F (k + 1) (met ||| 1 <<< z) (nup w k z) s) z s1) := by rw [srl, if_neg (by rw [hc73, hc92]; decide)]
                  have e7 := sone_or hmet (show z < 4 by omega) hc73
                  have e6 := or_16 hmet (show z < 4 by omega)
                  have e5 : k ≤ 3 := by have := sone_pw (N := 4) (by decide) (show met ||| 1 <<< z < 2 ^ 4 from e6); omega
                  refine z_aload_n (pc := 98) C dX12_tryRing_98 0 rfl ?_
                  refine z_getf (pc := 99) C dX12_tryRing_99 fX12_50 hM2 (by first | rfl | assumption) ?_
                  refine z_iload_n (pc := 102) C dX12_tryRing_102 1 rfl ?_
                  refine z_iload_n (pc := 103) C dX12_tryRing_103 3 rfl ?_
                  first | refine z_iastN (pc := 104) C dX12_tryRing_104 hWa2 (by omega) (by decide) ?_ | refine z_iastI (pc := 104) C dX12_tryRing_104 hWa2 (by omega) (by decide) ?_
                  have hM3 : zup h2 1076 (zI 4 (nup W2 k z)) 1063 = _ := (zup_ne (by decide)).trans hM2
                  have hA3 : zup h2 1076 (zI 4 (nup W2 k z)) 1066 = _ := (zup_ne (by decide)).trans hA2
                  have hB3 : zup h2 1076 (zI 4 (nup W2 k z)) 1070 = _ := (zup_ne (by decide)).trans hB2
                  have hG3 : zup h2 1076 (zI 4 (nup W2 k z)) 1077 = _ := (zup_ne (by decide)).trans hGa2
                  have hW3 := zup_same h2 1076 (zI 4 (nup W2 k z))
                  have F3 : ∀ a, a ≠ 1076 → zup h2 1076 (zI 4 (nup W2 k z)) a = h2 a := fun a q => zup_ne q
                  generalize zup h2 1076 (zI 4 (nup W2 k z)) = h3 at hM3 hA3 hB3 hG3 hW3 F3 ⊢
                  refine z_aload_n (pc := 105) C dX12_tryRing_105 0 rfl ?_
                  refine z_iload_n (pc := 106) C dX12_tryRing_106 1 rfl ?_
                  refine z_iconst (pc := 107) C dX12_tryRing_107 (nI 1) (by decide) ?_
                  first | refine z_iaddN (pc := 108) C dX12_tryRing_108 ?_ | refine z_iadd (pc := 108) C dX12_tryRing_108 ?_
                  refine z_iload_n (pc := 109) C dX12_tryRing_109 2 rfl ?_
                  refine z_iconst (pc := 110) C dX12_tryRing_110 (nI 1) (by decide) ?_
                  refine z_iload_n (pc := 111) C dX12_tryRing_111 3 rfl ?_
                  first | refine z_ishlN (pc := 112) C dX12_tryRing_112 (by omega) ?_ | refine z_ishl (pc := 112) C dX12_tryRing_112 ?_
                  first | refine z_iorN (pc := 113) C dX12_tryRing_113 ?_ | refine z_ior (pc := 113) C dX12_tryRing_113 ?_
                  refine z_cV0Q (pc := 114) mX12_tryRing C [_, _] dX12_tryRing_114 lX12_349 mtX12_tryRing (IH h3 v2 (k + 1) (met ||| 1 <<< z) (nup w k z) (nup W2 k z) G2 (srl met ((sOwe R S) (w (k - 1))) (fun z s => stry (sOwe R S) (R 3) F (k + 1) (met ||| 1 <<< z) (nup w k z) s) z s1) (by omega) (by omega) (by omega) e6 hM3 h302 (by omega) hA3 hB3 hW3 (fun i hi => by by_cases q : i = k; (subst q; rw [nup_same, nup_same]); (rw [nup_ne q, nup_ne q]; exact hW2 i (by omega))) (fun i hi => by by_cases q : i = k; (subst q; rw [nup_same]; omega); (rw [nup_ne q]; exact hwN i (by omega))) hG3 hG2) hM3 rfl rfl (by omega) (Nat.le_of_ble_eq_true rfl) (Nat.zero_le _) (Nat.zero_le _) ?_
                  rintro h4 ⟨v4, W4, G4, hM4, hV4, h304, hWa4, hW4, hGa4, hG4, F4⟩
                  have e9 := ih (f - 1) (by omega) (z + 1) h4 v4 W4 G4 ⟨by omega, hM4, hV2.tr hV4, by rw [e8]; exact h304, hWa4, fun i hi => (hW4 i (by omega)).trans (nup_ne (by omega)), hGa4, by rw [e8]; exact hG4, fun a q1 q2 q3 => (F4 a q1 q2 q3).trans ((F3 a q2).trans (F2 a q1 q2 q3))⟩
                  first | refine z_iincN (pc := 117) (lv' := [(3, _), (0, _), (1, _), (2, _)]) C 1 dX12_tryRing_117 3 rfl (by decide) (by decide) rfl ?_ | refine z_iinc (pc := 117) (lv' := [(3, _), (0, _), (1, _), (2, _)]) C dX12_tryRing_117 3 rfl _ rfl (by decide) rfl ?_
                  refine z_goto (pc := 120) C 58 dX12_tryRing_120 (by decide) ?_
                  refine z_sub (lv' := [(0, _), (1, _), (2, _), (3, _)]) [1, 2, 3, 0] rfl ?_
                  exact e9
                · skip
                  have e8 : (srl met ((sOwe R S) (w (k - 1))) (fun z s => stry (sOwe R S) (R 3) F (k + 1) (met ||| 1 <<< z) (nup w k z) s) (z + 1) s1) = (srl met ((sOwe R S) (w (k - 1))) (fun z s => stry (sOwe R S) (R 3) F (k + 1) (met ||| 1 <<< z) (nup w k z) s) z s1) := by rw [srl, if_pos (by rw [hc73, hc92]; rfl)]
                  have e9 := ih (f - 1) (by omega) (z + 1) h2 v2 W2 G2 ⟨by omega, hM2, hV2, by rw [e8]; exact h302, hWa2, hW2, hGa2, by rw [e8]; exact hG2, F2⟩
                  refine z_goto (pc := 95) C 117 dX12_tryRing_95 (by decide) ?_
                  first | refine z_iincN (pc := 117) (lv' := [(3, _), (0, _), (1, _), (2, _)]) C 1 dX12_tryRing_117 3 rfl (by decide) (by decide) rfl ?_ | refine z_iinc (pc := 117) (lv' := [(3, _), (0, _), (1, _), (2, _)]) C dX12_tryRing_117 3 rfl _ rfl (by decide) rfl ?_
                  refine z_goto (pc := 120) C 58 dX12_tryRing_120 (by decide) ?_
                  refine z_sub (lv' := [(0, _), (1, _), (2, _), (3, _)]) [1, 2, 3, 0] rfl ?_
                  exact e9
        first | exact lp58 (R 3) 0 h v W G ⟨by omega, hM, mV.rf v, by show v 30 = nI s1.1; rw [es]; exact h30, hWa, hW, hGa, by show ∀ i, i < 4 → i < s1.1 → G i = s1.2 i; rw [es]; exact hG, fun _ _ _ _ => rfl⟩ | exact lp58 (R 3) 0 hy _ W _ ⟨by omega, hMx, (mV.rf v).up _ (by decide), by show _ = nI s1.1; rw [es]; rfl, hWy, hW, hGy, by show ∀ i, i < 4 → i < s1.1 → ncpy W G 0 0 4 i = s1.2 i; rw [es]; exact fun i h1 h2 => (ncpy_00 _ _ h1).trans (hW i h2), Fy⟩
      · skip
        have es : s1 = (k, w) := by rw [← hs1]; exact if_pos ⟨by omega, hc10, hc34⟩
        refine z_aload_n (pc := 37) C dX12_tryRing_37 0 rfl ?_
        refine z_iload_n (pc := 38) C dX12_tryRing_38 1 rfl ?_
        refine z_putf (pc := 39) (fs' := mfs (upd _ 30 _)) C dX12_tryRing_39 gX12_346 (by assumption) (fun _ => ⟨rfl, rfl⟩) (by exact Nat.le_of_ble_eq_true rfl) (mfs_set _ 30 _ (by decide)) ?_
        have hWx : zup h 1063 (zO 8 (mfs (upd v 30 (nI k)))) 1076 = _ := (zup_ne (by decide)).trans hWa
        have hGx : zup h 1063 (zO 8 (mfs (upd v 30 (nI k)))) 1077 = _ := (zup_ne (by decide)).trans hGa
        refine z_aload_n (pc := 42) C dX12_tryRing_42 0 rfl ?_
        refine z_getf (pc := 43) C dX12_tryRing_43 fX12_50 (zup_same _ _ _) (by first | rfl | assumption) ?_
        refine z_iconst (pc := 46) C dX12_tryRing_46 (nI 0) (by decide) ?_
        refine z_aload_n (pc := 47) C dX12_tryRing_47 0 rfl ?_
        refine z_getf (pc := 48) C dX12_tryRing_48 fX12_53 (zup_same _ _ _) (by first | rfl | assumption) ?_
        refine z_iconst (pc := 51) C dX12_tryRing_51 (nI 0) (by decide) ?_
        refine z_iconst (pc := 52) C dX12_tryRing_52 (nI 4) (by decide) ?_
        refine z_cS0 (pc := 53) mX12_copy C [_, _, _, _, _] dX12_tryRing_53 lX12_176 mtX12_copy (tX12_copy hWx hGx (by decide) (by decide) (by decide) (by decide) (by decide)) rfl rfl (by omega) (Nat.le_of_ble_eq_true rfl) (Nat.zero_le _) (Nat.zero_le _) ?_
        have hMx : zup (zup h 1063 (zO 8 (mfs (upd v 30 (nI k))))) 1077 (zI 4 (ncpy W G 0 0 4)) 1063 = _ := (zup_ne (by decide)).trans (zup_same _ _ _)
        have hWy : zup (zup h 1063 (zO 8 (mfs (upd v 30 (nI k))))) 1077 (zI 4 (ncpy W G 0 0 4)) 1076 = _ := (zup_ne (by decide)).trans hWx
        have hGy := zup_same (zup h 1063 (zO 8 (mfs (upd v 30 (nI k))))) 1077 (zI 4 (ncpy W G 0 0 4))
        have Fy : ∀ a, a ≠ 1063 → a ≠ 1076 → a ≠ 1077 → zup (zup h 1063 (zO 8 (mfs (upd v 30 (nI k))))) 1077 (zI 4 (ncpy W G 0 0 4)) a = h a := fun a q1 _ q3 => (zup_ne q3).trans (zup_ne q1)
        generalize zup (zup h 1063 (zO 8 (mfs (upd v 30 (nI k))))) 1077 (zI 4 (ncpy W G 0 0 4)) = hy at hMx hWy hGy Fy ⊢
        refine z_iconst (pc := 56) C dX12_tryRing_56 (nI 0) (by decide) ?_
        refine z_istore_n (pc := 57) (lv' := [(3, _), (0, _), (1, _), (2, _)]) C dX12_tryRing_57 (by decide) rfl ?_
        refine z_sub (lv' := [(0, _), (1, _), (2, _), (3, _)]) [1, 2, 3, 0] rfl ?_
        have lp58 : ∀ (f : Nat) (z : Nat) (h2 : ZH) (v2 : Nat → Int32) (W2 G2 : Nat → Nat), (z + f = R 3 ∧ h2 1063 = some (zO 8 (mfs v2)) ∧ mV v v2 ∧ v2 30 = nI (srl met ((sOwe R S) (w (k - 1))) (fun z s => stry (sOwe R S) (R 3) F (k + 1) (met ||| 1 <<< z) (nup w k z) s) z s1).1 ∧ h2 1076 = some (zI 4 W2) ∧ (∀ i, i < k → W2 i = w i) ∧ h2 1077 = some (zI 4 G2) ∧ (∀ i, i < 4 → i < (srl met ((sOwe R S) (w (k - 1))) (fun z s => stry (sOwe R S) (R 3) F (k + 1) (met ||| 1 <<< z) (nup w k z) s) z s1).1 → G2 i = (srl met ((sOwe R S) (w (k - 1))) (fun z s => stry (sOwe R S) (R 3) F (k + 1) (met ||| 1 <<< z) (nup w k z) s) z s1).2 i) ∧ ∀ a, a ≠ 1063 → a ≠ 1076 → a ≠ 1077 → h2 a = h a) → Zc X mX12_tryRing (zEnd X (fun r hh n' => r = none ∧ (TrQ (sOwe R S) (R 3) (F + 1) k met w s v h hh) ∧ n' = n) 0 0) 58 [(0, .ref 1063), (1, .int (nI k)), (2, .int (nI met)), (3, .int (nI z))] [] h2 n 0 0 := by
          intro f
          induction f using Nat.strongRecOn with
          | _ f ih =>
            intro z h2 v2 W2 G2 hk2
            obtain ⟨hk2, hM2, hV2, h302, hWa2, hW2, hGa2, hG2, F2⟩ := hk2
            have hA2 : h2 1066 = _ := (F2 _ (by decide) (by decide) (by decide)).trans hA
            have hB2 : h2 1070 = _ := (F2 _ (by decide) (by decide) (by decide)).trans hB
            have b5 : (srl met ((sOwe R S) (w (k - 1))) (fun z s => stry (sOwe R S) (R 3) F (k + 1) (met ||| 1 <<< z) (nup w k z) s) z s1).1 ≤ s1.1 := srl_le (fun z s => stry_le _ _ _ _ _ _ _) _ _
            have b6 : s1.1 ≤ s.1 := by first | (rw [es]; exact Nat.le_refl _) | (rw [es]; show k ≤ s.1; omega)
            refine z_iload_n (pc := 58) C dX12_tryRing_58 3 rfl ?_
            refine z_aload_n (pc := 59) C dX12_tryRing_59 0 rfl ?_
            refine z_getf (pc := 60) C dX12_tryRing_60 fX12_20 hM2 (by first | rfl | assumption) ?_
            refine z_iconst (pc := 63) C dX12_tryRing_63 (nI 3) (by decide) ?_
            first | refine z_ialdN (pc := 64) C dX12_tryRing_64 hA2 (by omega) (by decide) ?_ | refine z_ialdI (pc := 64) C dX12_tryRing_64 hA2 (by omega) (by decide) ?_
            first | refine z_icmpgeN (pc := 65) C 123 dX12_tryRing_65 (by decide) (by omega) (by omega) (fun hc65 => ?_) (fun hc65 => ?_) | refine z_icmp_ge (pc := 65) C 123 dX12_tryRing_65 (by decide) (fun hc65 => ?_) (fun hc65 => ?_)
            · skip
              refine z_vret (pc := 123) C dX12_tryRing_123 rfl (Nat.zero_le _) (Nat.zero_le _) ⟨rfl, ?_, rfl⟩
              obtain rfl : z = R 3 := (by omega)
              have e8 : stry (sOwe R S) (R 3) (F + 1) k met w s = (srl met ((sOwe R S) (w (k - 1))) (fun z s => stry (sOwe R S) (R 3) F (k + 1) (met ||| 1 <<< z) (nup w k z) s) (R 3) s1) := by rw [stry, hs1]
              refine ⟨v2, W2, G2, hM2, hV2, ?_, hWa2, hW2, hGa2, ?_, F2⟩
              · rw [e8]; exact h302
              · rw [e8]; exact hG2
            · skip
              refine z_iload_n (pc := 68) C dX12_tryRing_68 2 rfl ?_
              refine z_iload_n (pc := 69) C dX12_tryRing_69 3 rfl ?_
              refine z_cS1 (pc := 70) mX12_hasBit C [_, _] dX12_tryRing_70 lX12_236 mtX12_hasBit (tX12_hasBit (by omega) (by omega)) rfl rfl (by omega) (Nat.le_of_ble_eq_true rfl) (Nat.zero_le _) (Nat.zero_le _) ?_
              first | refine z_ifneB (pc := 73) C 117 dX12_tryRing_73 (by decide) (fun hc73 => ?_) (fun hc73 => ?_) | refine z_ifneN (pc := 73) C 117 dX12_tryRing_73 (by decide) (by omega) (fun hc73 => ?_) (fun hc73 => ?_) | refine z_if_ne (pc := 73) C 117 dX12_tryRing_73 (by decide) (fun hc73 => ?_) (fun hc73 => ?_)
              · skip
                have e8 : (srl met ((sOwe R S) (w (k - 1))) (fun z s => stry (sOwe R S) (R 3) F (k + 1) (met ||| 1 <<< z) (nup w k z) s) (z + 1) s1) = (srl met ((sOwe R S) (w (k - 1))) (fun z s => stry (sOwe R S) (R 3) F (k + 1) (met ||| 1 <<< z) (nup w k z) s) z s1) := by rw [srl, if_pos (by rw [hc73]; rfl)]
                have e9 := ih (f - 1) (by omega) (z + 1) h2 v2 W2 G2 ⟨by omega, hM2, hV2, by rw [e8]; exact h302, hWa2, hW2, hGa2, by rw [e8]; exact hG2, F2⟩
                first | refine z_iincN (pc := 117) (lv' := [(3, _), (0, _), (1, _), (2, _)]) C 1 dX12_tryRing_117 3 rfl (by decide) (by decide) rfl ?_ | refine z_iinc (pc := 117) (lv' := [(3, _), (0, _), (1, _), (2, _)]) C dX12_tryRing_117 3 rfl _ rfl (by decide) rfl ?_
                refine z_goto (pc := 120) C 58 dX12_tryRing_120 (by decide) ?_
                refine z_sub (lv' := [(0, _), (1, _), (2, _), (3, _)]) [1, 2, 3, 0] rfl ?_
                exact e9
              · skip
                refine z_aload_n (pc := 76) C dX12_tryRing_76 0 rfl ?_
                refine z_aload_n (pc := 77) C dX12_tryRing_77 0 rfl ?_
                refine z_getf (pc := 78) C dX12_tryRing_78 fX12_50 hM2 (by first | rfl | assumption) ?_
                refine z_iload_n (pc := 81) C dX12_tryRing_81 1 rfl ?_
                refine z_iconst (pc := 82) C dX12_tryRing_82 (nI 1) (by decide) ?_
                first | refine z_isubN (pc := 83) C dX12_tryRing_83 (by omega) ?_ | refine z_isub (pc := 83) C dX12_tryRing_83 ?_
                refine z_ialdE (pc := 84) C dX12_tryRing_84 hWa2 (by omega) (by decide) (hW2 (k - 1) (by omega)) ?_
                refine z_cV1 (pc := 85) mX12_owesOf C [_] dX12_tryRing_85 lX12_343 mtX12_owesOf (tX12_owesOf hM2 hA2 hB2 hR hS (by omega)) hM2 rfl rfl (by omega) (Nat.le_of_ble_eq_true rfl) (Nat.zero_le _) (Nat.zero_le _) ?_
                refine z_iload_n (pc := 88) C dX12_tryRing_88 3 rfl ?_
                refine z_cS1 (pc := 89) mX12_hasBit C [_, _] dX12_tryRing_89 lX12_236 mtX12_hasBit (tX12_hasBit (by omega) (by omega)) rfl rfl (by omega) (Nat.le_of_ble_eq_true rfl) (Nat.zero_le _) (Nat.zero_le _) ?_
                first | refine z_ifneB (pc := 92) C 98 dX12_tryRing_92 (by decide) (fun hc92 => ?_) (fun hc92 => ?_) | refine z_ifneN (pc := 92) C 98 dX12_tryRing_92 (by decide) (by omega) (fun hc92 => ?_) (fun hc92 => ?_) | refine z_if_ne (pc := 92) C 98 dX12_tryRing_92 (by decide) (fun hc92 => ?_) (fun hc92 => ?_)
                · skip
                  have e8 : (srl met ((sOwe R S) (w (k - 1))) (fun z s => stry (sOwe R S) (R 3) F (k + 1) (met ||| 1 <<< z) (nup w k z) s) (z + 1) s1) = stry (sOwe R S) (R 3) F (k + 1) (met ||| 1 <<< z) (nup w k z) (srl met ((sOwe R S) (w (k - 1))) (fun z s => stry (sOwe R S) (R 3) F (k + 1) (met ||| 1 <<< z) (nup w k z) s) z s1) := by rw [srl, if_neg (by rw [hc73, hc92]; decide)]
                  have e7 := sone_or hmet (show z < 4 by omega) hc73
                  have e6 := or_16 hmet (show z < 4 by omega)
                  have e5 : k ≤ 3 := by have := sone_pw (N := 4) (by decide) (show met ||| 1 <<< z < 2 ^ 4 from e6); omega
                  refine z_aload_n (pc := 98) C dX12_tryRing_98 0 rfl ?_
                  refine z_getf (pc := 99) C dX12_tryRing_99 fX12_50 hM2 (by first | rfl | assumption) ?_
                  refine z_iload_n (pc := 102) C dX12_tryRing_102 1 rfl ?_
                  refine z_iload_n (pc := 103) C dX12_tryRing_103 3 rfl ?_
                  first | refine z_iastN (pc := 104) C dX12_tryRing_104 hWa2 (by omega) (by decide) ?_ | refine z_iastI (pc := 104) C dX12_tryRing_104 hWa2 (by omega) (by decide) ?_
                  have hM3 : zup h2 1076 (zI 4 (nup W2 k z)) 1063 = _ := (zup_ne (by decide)).trans hM2
                  have hA3 : zup h2 1076 (zI 4 (nup W2 k z)) 1066 = _ := (zup_ne (by decide)).trans hA2
                  have hB3 : zup h2 1076 (zI 4 (nup W2 k z)) 1070 = _ := (zup_ne (by decide)).trans hB2
                  have hG3 : zup h2 1076 (zI 4 (nup W2 k z)) 1077 = _ := (zup_ne (by decide)).trans hGa2
                  have hW3 := zup_same h2 1076 (zI 4 (nup W2 k z))
                  have F3 : ∀ a, a ≠ 1076 → zup h2 1076 (zI 4 (nup W2 k z)) a = h2 a := fun a q => zup_ne q
                  generalize zup h2 1076 (zI 4 (nup W2 k z)) = h3 at hM3 hA3 hB3 hG3 hW3 F3 ⊢
                  refine z_aload_n (pc := 105) C dX12_tryRing_105 0 rfl ?_
                  refine z_iload_n (pc := 106) C dX12_tryRing_106 1 rfl ?_
                  refine z_iconst (pc := 107) C dX12_tryRing_107 (nI 1) (by decide) ?_
                  first | refine z_iaddN (pc := 108) C dX12_tryRing_108 ?_ | refine z_iadd (pc := 108) C dX12_tryRing_108 ?_
                  refine z_iload_n (pc := 109) C dX12_tryRing_109 2 rfl ?_
                  refine z_iconst (pc := 110) C dX12_tryRing_110 (nI 1) (by decide) ?_
                  refine z_iload_n (pc := 111) C dX12_tryRing_111 3 rfl ?_
                  first | refine z_ishlN (pc := 112) C dX12_tryRing_112 (by omega) ?_ | refine z_ishl (pc := 112) C dX12_tryRing_112 ?_
                  first | refine z_iorN (pc := 113) C dX12_tryRing_113 ?_ | refine z_ior (pc := 113) C dX12_tryRing_113 ?_
                  refine z_cV0Q (pc := 114) mX12_tryRing C [_, _] dX12_tryRing_114 lX12_349 mtX12_tryRing (IH h3 v2 (k + 1) (met ||| 1 <<< z) (nup w k z) (nup W2 k z) G2 (srl met ((sOwe R S) (w (k - 1))) (fun z s => stry (sOwe R S) (R 3) F (k + 1) (met ||| 1 <<< z) (nup w k z) s) z s1) (by omega) (by omega) (by omega) e6 hM3 h302 (by omega) hA3 hB3 hW3 (fun i hi => by by_cases q : i = k; (subst q; rw [nup_same, nup_same]); (rw [nup_ne q, nup_ne q]; exact hW2 i (by omega))) (fun i hi => by by_cases q : i = k; (subst q; rw [nup_same]; omega); (rw [nup_ne q]; exact hwN i (by omega))) hG3 hG2) hM3 rfl rfl (by omega) (Nat.le_of_ble_eq_true rfl) (Nat.zero_le _) (Nat.zero_le _) ?_
                  rintro h4 ⟨v4, W4, G4, hM4, hV4, h304, hWa4, hW4, hGa4, hG4, F4⟩
                  have e9 := ih (f - 1) (by omega) (z + 1) h4 v4 W4 G4 ⟨by omega, hM4, hV2.tr hV4, by rw [e8]; exact h304, hWa4, fun i hi => (hW4 i (by omega)).trans (nup_ne (by omega)), hGa4, by rw [e8]; exact hG4, fun a q1 q2 q3 => (F4 a q1 q2 q3).trans ((F3 a q2).trans (F2 a q1 q2 q3))⟩
                  first | refine z_iincN (pc := 117) (lv' := [(3, _), (0, _), (1, _), (2, _)]) C 1 dX12_tryRing_117 3 rfl (by decide) (by decide) rfl ?_ | refine z_iinc (pc := 117) (lv' := [(3, _), (0, _), (1, _), (2, _)]) C dX12_tryRing_117 3 rfl _ rfl (by decide) rfl ?_
                  refine z_goto (pc := 120) C 58 dX12_tryRing_120 (by decide) ?_
                  refine z_sub (lv' := [(0, _), (1, _), (2, _), (3, _)]) [1, 2, 3, 0] rfl ?_
                  exact e9
                · skip
                  have e8 : (srl met ((sOwe R S) (w (k - 1))) (fun z s => stry (sOwe R S) (R 3) F (k + 1) (met ||| 1 <<< z) (nup w k z) s) (z + 1) s1) = (srl met ((sOwe R S) (w (k - 1))) (fun z s => stry (sOwe R S) (R 3) F (k + 1) (met ||| 1 <<< z) (nup w k z) s) z s1) := by rw [srl, if_pos (by rw [hc73, hc92]; rfl)]
                  have e9 := ih (f - 1) (by omega) (z + 1) h2 v2 W2 G2 ⟨by omega, hM2, hV2, by rw [e8]; exact h302, hWa2, hW2, hGa2, by rw [e8]; exact hG2, F2⟩
                  refine z_goto (pc := 95) C 117 dX12_tryRing_95 (by decide) ?_
                  first | refine z_iincN (pc := 117) (lv' := [(3, _), (0, _), (1, _), (2, _)]) C 1 dX12_tryRing_117 3 rfl (by decide) (by decide) rfl ?_ | refine z_iinc (pc := 117) (lv' := [(3, _), (0, _), (1, _), (2, _)]) C dX12_tryRing_117 3 rfl _ rfl (by decide) rfl ?_
                  refine z_goto (pc := 120) C 58 dX12_tryRing_120 (by decide) ?_
                  refine z_sub (lv' := [(0, _), (1, _), (2, _), (3, _)]) [1, 2, 3, 0] rfl ?_
                  exact e9
        first | exact lp58 (R 3) 0 h v W G ⟨by omega, hM, mV.rf v, by show v 30 = nI s1.1; rw [es]; exact h30, hWa, hW, hGa, by show ∀ i, i < 4 → i < s1.1 → G i = s1.2 i; rw [es]; exact hG, fun _ _ _ _ => rfl⟩ | exact lp58 (R 3) 0 hy _ W _ ⟨by omega, hMx, (mV.rf v).up _ (by decide), by show _ = nI s1.1; rw [es]; rfl, hWy, hW, hGy, by show ∀ i, i < 4 → i < s1.1 → ncpy W G 0 0 4 i = s1.2 i; rw [es]; exact fun i h1 h2 => (ncpy_00 _ _ h1).trans (hW i h2), Fy⟩

theorem tX12_tryRing {R S : Nat → Nat} (hR : wfR R) (hS : wfS R S) : ∀ F, TrF R S F := by
  intro F
  induction F with
  | zero =>
    intro h v k met w W G s hk h1 hm hmet
    have := sone_pw (N := 4) (by decide) (show met < 2 ^ 4 from hmet)
    omega
  | succ F ih =>
    intro h v k met w W G s hk h1 hm hmet hM h30 hsb hA hB hWa hW hwN hGa hG
    exact tX12_tryRingS hk h1 hm hmet hM h30 hsb hA hB hWa hW hwN hGa hG hR hS ih _ rfl
theorem mQ.mr {h hh : ZH} {v v' : Nat → Int32} (h1 : hh 1063 = some (zO 8 (mfs v'))) (hV : mV v v') (hJ : mJ h) {W G : Nat → Nat} (h2 : hh 1076 = some (zI 4 W)) (h3 : hh 1077 = some (zI 4 G)) (hF : ∀ a, a ≠ 1063 → a ≠ 1076 → a ≠ 1077 → hh a = h a) : mQ h hh v := by
  obtain ⟨⟨T1, e1⟩, ⟨T2, e2⟩, ⟨T3, e3⟩, -, -⟩ := hJ
  exact ⟨⟨v', h1, hV⟩, ⟨⟨T1, (hF _ (by decide) (by decide) (by decide)).trans e1⟩, ⟨T2, (hF _ (by decide) (by decide) (by decide)).trans e2⟩, ⟨T3, (hF _ (by decide) (by decide) (by decide)).trans e3⟩, ⟨W, h2⟩, G, h3⟩, fun a q1 q2 => hF a q1 (by omega) (by omega)⟩

set_option maxRecDepth 20000 in
set_option maxHeartbeats 1000000 in
theorem tX12_seekRing {h : ZH} {v : Nat → Int32} {R S : Nat → Nat} {m : Nat} (hM : h 1063 = some (zO 8 (mfs v))) (hA : h 1066 = some (zI 241 R)) (hB : h 1070 = some (zI 40 S)) (hJ : mJ h) (hR : wfR R) (hS : wfS R S) (hm : m < R 3) : ZQ1 mX12_seekRing 6 [.ref 1063, .int (nI m)] h (fun w hh => w = .int (zb (slen (sOwe R S) (R 3) m).isSome) ∧ mQ h hh v ∧ ∃ (v' : Nat → Int32) (G' : Nat → Nat), hh 1063 = some (zO 8 (mfs v')) ∧ hh 1077 = some (zI 4 G') ∧ ∀ L, slen (sOwe R S) (R 3) m = some L → v' 30 = nI L ∧ ∀ i, i < L → G' i = srmb (sOwe R S) (R 3) m L i) := by
  intro n
  obtain ⟨w1, w3, w4, w5, w0, wP, wM, wK, wX⟩ := id hR
  obtain ⟨wT, wL, wB⟩ := id hS
  obtain ⟨W, hWa⟩ := id hJ.2.2.2.1
  obtain ⟨G, hGa⟩ := id hJ.2.2.2.2
  have b1 := sone_1 ⟨m, by omega⟩
  have b2 : 1 <<< m < 16 := by rw [Nat.shiftLeft_eq, Nat.one_mul]; exact Nat.lt_of_lt_of_le (Nat.pow_lt_pow_right (n := 4) (by decide) (by omega)) (by decide)
  refine z_enter (lv := [(0, _), (1, _)]) (by decide) (Nat.le_of_ble_eq_true rfl) rfl (fun X C => ?_)
  refine z_aload_n (pc := 0) C dX12_seekRing_0 0 rfl ?_
  refine z_ldcw (pc := 1) C dX12_seekRing_1 kX12_333 ?_
  refine z_top (show (1000000 : Int32) = nI 1000000 from rfl) ?_
  refine z_putf (pc := 4) (fs' := mfs (upd _ 30 _)) C dX12_seekRing_4 gX12_346 hM (fun _ => ⟨rfl, rfl⟩) (by exact Nat.le_of_ble_eq_true rfl) (mfs_set _ 30 _ (by decide)) ?_
  refine z_aload_n (pc := 7) C dX12_seekRing_7 0 rfl ?_
  refine z_getf (pc := 8) C dX12_seekRing_8 fX12_50 (zup_same _ _ _) (by first | rfl | assumption) ?_
  refine z_iconst (pc := 11) C dX12_seekRing_11 (nI 0) (by decide) ?_
  refine z_iload_n (pc := 12) C dX12_seekRing_12 1 rfl ?_
  first | refine z_iastN (pc := 13) C dX12_seekRing_13 ((zup_ne (by decide)).trans hWa) (by omega) (by decide) ?_ | refine z_iastI (pc := 13) C dX12_seekRing_13 ((zup_ne (by decide)).trans hWa) (by omega) (by decide) ?_
  have hM1 : zup (zup h 1063 (zO 8 (mfs (upd v 30 (nI 1000000))))) 1076 (zI 4 (nup W 0 m)) 1063 = _ := (zup_ne (by decide)).trans (zup_same _ _ _)
  have hA1 : zup (zup h 1063 (zO 8 (mfs (upd v 30 (nI 1000000))))) 1076 (zI 4 (nup W 0 m)) 1066 = _ := (zup_ne (by decide)).trans ((zup_ne (by decide)).trans hA)
  have hB1 : zup (zup h 1063 (zO 8 (mfs (upd v 30 (nI 1000000))))) 1076 (zI 4 (nup W 0 m)) 1070 = _ := (zup_ne (by decide)).trans ((zup_ne (by decide)).trans hB)
  have hG1 : zup (zup h 1063 (zO 8 (mfs (upd v 30 (nI 1000000))))) 1076 (zI 4 (nup W 0 m)) 1077 = _ := (zup_ne (by decide)).trans ((zup_ne (by decide)).trans hGa)
  have hW1 := zup_same (zup h 1063 (zO 8 (mfs (upd v 30 (nI 1000000))))) 1076 (zI 4 (nup W 0 m))
  have F1 : ∀ a, a ≠ 1063 → a ≠ 1076 → zup (zup h 1063 (zO 8 (mfs (upd v 30 (nI 1000000))))) 1076 (zI 4 (nup W 0 m)) a = h a := fun a q1 q2 => (zup_ne q2).trans (zup_ne q1)
  generalize zup (zup h 1063 (zO 8 (mfs (upd v 30 (nI 1000000))))) 1076 (zI 4 (nup W 0 m)) = h1 at hM1 hA1 hB1 hG1 hW1 F1 ⊢
  refine z_aload_n (pc := 14) C dX12_seekRing_14 0 rfl ?_
  refine z_iconst (pc := 15) C dX12_seekRing_15 (nI 1) (by decide) ?_
  refine z_iconst (pc := 16) C dX12_seekRing_16 (nI 1) (by decide) ?_
  refine z_iload_n (pc := 17) C dX12_seekRing_17 1 rfl ?_
  first | refine z_ishlN (pc := 18) C dX12_seekRing_18 (by omega) ?_ | refine z_ishl (pc := 18) C dX12_seekRing_18 ?_
  refine z_cV0Q (pc := 19) mX12_tryRing C [_, _] dX12_seekRing_19 lX12_349 mtX12_tryRing (tX12_tryRing hR hS 4 h1 _ 1 (1 <<< m) (nup W 0 m) (nup W 0 m) G (1000000, G) (by omega) (by omega) b1 b2 hM1 rfl (Nat.le_refl _) hA1 hB1 hW1 (fun _ _ => rfl) (fun i hi => by rw [show i = 0 by omega, nup_same]; exact hm) hG1 (fun _ _ _ => rfl)) hM1 rfl rfl (by omega) (Nat.le_of_ble_eq_true rfl) (Nat.zero_le _) (Nat.zero_le _) ?_
  rintro h2 ⟨v2, W2, G2, hM2, hV2, h302, hWa2, hW2, hGa2, hG2, F2⟩
  have hst := stry_top (sRg_owe (S := S) hR) hm (w := nup W 0 m) (nup_same _ _ _) G
  have hQ : mQ h h2 v := mQ.mr hM2 (((mV.rf v).up _ (by decide)).tr hV2) hJ hWa2 hGa2 (fun a q1 q2 q3 => (F2 a q1 q2 q3).trans (F1 a q1 q2))
  have hlb := stry_le (sOwe R S) (R 3) 4 1 (1 <<< m) (nup W 0 m) (1000000, G)
  refine z_aload_n (pc := 22) C dX12_seekRing_22 0 rfl ?_
  refine z_getf (pc := 23) C dX12_seekRing_23 fX12_346 hM2 (by first | rfl | assumption) ?_
  refine z_top h302 ?_
  refine z_ldcw (pc := 26) C dX12_seekRing_26 kX12_333 ?_
  refine z_top (show (1000000 : Int32) = nI 1000000 from rfl) ?_
  have hlb2 : (stry (sOwe R S) (R 3) 4 1 (1 <<< m) (nup W 0 m) (1000000, G)).1 ≤ 1000000 := hlb
  first | refine z_icmpgeN (pc := 29) C 36 dX12_seekRing_29 (by decide) (by omega) (by omega) (fun hc29 => ?_) (fun hc29 => ?_) | refine z_icmp_ge (pc := 29) C 36 dX12_seekRing_29 (by decide) (fun hc29 => ?_) (fun hc29 => ?_)
  · skip
    refine z_iconst (pc := 36) C dX12_seekRing_36 (zb false) (by decide) ?_
    refine z_zret (pc := 37) C dX12_seekRing_37 rfl (by first | exact zb_nar _ | rfl) (Nat.zero_le _) (Nat.zero_le _) ⟨_, rfl, ?_, rfl⟩
    cases e : slen (sOwe R S) (R 3) m with
    | none =>
      rw [e] at hst
      have hst : stry (sOwe R S) (R 3) 4 1 (1 <<< m) (nup W 0 m) (1000000, G) = (1000000, G) := hst
      first
      | (exfalso; rw [hst] at hc29; exact absurd hc29 (Nat.lt_irrefl _))
      | exact ⟨rfl, hQ, v2, G2, hM2, hGa2, fun L hL => by cases hL⟩
    | some L =>
      rw [e] at hst
      obtain ⟨q1, q2⟩ := hst
      obtain ⟨q3, q4⟩ := slen_le e
      first
      | (exfalso; rw [q1] at hc29; omega)
      | exact ⟨rfl, hQ, v2, G2, hM2, hGa2, fun L' hL => by cases hL; exact ⟨by rw [h302, q1], fun i hi => (hG2 i (by omega) (by rw [q1]; exact hi)).trans (q2 i hi)⟩⟩
  · skip
    refine z_iconst (pc := 32) C dX12_seekRing_32 (zb true) (by decide) ?_
    refine z_goto (pc := 33) C 37 dX12_seekRing_33 (by decide) ?_
    refine z_zret (pc := 37) C dX12_seekRing_37 rfl (by first | exact zb_nar _ | rfl) (Nat.zero_le _) (Nat.zero_le _) ⟨_, rfl, ?_, rfl⟩
    cases e : slen (sOwe R S) (R 3) m with
    | none =>
      rw [e] at hst
      have hst : stry (sOwe R S) (R 3) 4 1 (1 <<< m) (nup W 0 m) (1000000, G) = (1000000, G) := hst
      first
      | (exfalso; rw [hst] at hc29; exact absurd hc29 (Nat.lt_irrefl _))
      | exact ⟨rfl, hQ, v2, G2, hM2, hGa2, fun L hL => by cases hL⟩
    | some L =>
      rw [e] at hst
      obtain ⟨q1, q2⟩ := hst
      obtain ⟨q3, q4⟩ := slen_le e
      first
      | (exfalso; rw [q1] at hc29; omega)
      | exact ⟨rfl, hQ, v2, G2, hM2, hGa2, fun L' hL => by cases hL; exact ⟨by rw [h302, q1], fun i hi => (hG2 i (by omega) (by rw [q1]; exact hi)).trans (q2 i hi)⟩⟩

set_option maxRecDepth 20000 in
set_option maxHeartbeats 1000000 in
theorem tX12_ring {h : ZH} {v : Nat → Int32} {R S : Nat → Nat} {b : Bool} {m : Int32} (hM : h 1063 = some (zO 8 (mfs v))) (hA : h 1066 = some (zI 241 R)) (hB : h 1070 = some (zI 40 S)) (hJ : mJ h) (hR : wfR R) (hS : wfS R S) (hF : v 14 = zb b) (hb : wfB b R) : ZQ1 mX12_ring 8 [.ref 1063, .int m] h (fun w hh => w = .int (aRing R S m).1 ∧ mQ h hh (mv v (aRing R S m).2)) := by
  intro n
  obtain ⟨w1, w3, w4, w5, w0, wP, wM, wK, wX⟩ := id hR
  obtain ⟨wT, wL, wB⟩ := id hS
  refine z_enter (lv := [(0, _), (1, _)]) (by decide) (Nat.le_of_ble_eq_true rfl) rfl (fun X C => ?_)
  refine z_aload_n (pc := 0) C dX12_ring_0 0 rfl ?_
  refine z_cV0 (pc := 1) mX12_good C [] dX12_ring_1 lX12_167 mtX12_good (tX12_good (by first | assumption | omega)) (by assumption) rfl rfl (by decide) (Nat.le_of_ble_eq_true rfl) (Nat.zero_le _) (Nat.zero_le _) ?_
  have hM1 : zup h 1063 (zO 8 (mfs (upd (upd v 0 0) 11 0))) 1063 = some (zO 8 (mfs (upd (upd v 0 0) 11 0))) := zup_same _ _ _
  have hA1 : zup h 1063 (zO 8 (mfs (upd (upd v 0 0) 11 0))) 1066 = some (zI 241 R) := (zup_ne (by decide)).trans hA
  have hB1 : zup h 1063 (zO 8 (mfs (upd (upd v 0 0) 11 0))) 1070 = some (zI 40 S) := (zup_ne (by decide)).trans hB
  have hF1 : upd (upd v 0 0) 11 0 14 = zb b := hF
  generalize hg : zup h 1063 (zO 8 (mfs (upd (upd v 0 0) 11 0))) = h1 at hM1 hA1 hB1 ⊢
  have hJ1 : mJ h1 := by rw [← hg]; exact hJ.up _
  refine z_aload_n (pc := 4) C dX12_ring_4 0 rfl ?_
  refine z_iload_n (pc := 5) C dX12_ring_5 1 rfl ?_
  refine z_cV1 (pc := 6) mX12_isMan C [_] dX12_ring_6 lX12_288 mtX12_isMan (tX12_isMan (by first | assumption | omega) (by first | assumption | omega) (by first | assumption | omega) (by first | assumption | omega)) (by assumption) rfl rfl (by decide) (Nat.le_of_ble_eq_true rfl) (Nat.zero_le _) (Nat.zero_le _) ?_
  rw [wfB_m hb m]
  first | refine z_ifneB (pc := 9) C 18 dX12_ring_9 (by decide) (fun hc9 => ?_) (fun hc9 => ?_) | refine z_ifneN (pc := 9) C 18 dX12_ring_9 (by decide) (by omega) (fun hc9 => ?_) (fun hc9 => ?_) | refine z_if_ne (pc := 9) C 18 dX12_ring_9 (by decide) (fun hc9 => ?_) (fun hc9 => ?_)
  · skip
    obtain ⟨j, hj, rfl⟩ := zlt_of (by omega) hc9
    have pj := pn_nI (j := j) (by omega)
    refine z_aload_n (pc := 18) C dX12_ring_18 0 rfl ?_
    refine z_iload_n (pc := 19) C dX12_ring_19 1 rfl ?_
    refine z_cV1Q (pc := 20) mX12_seekRing C [_] dX12_ring_20 lX12_352 mtX12_seekRing (tX12_seekRing hM1 hA1 hB1 hJ1 hR hS hj) hM1 rfl rfl (by decide) (Nat.le_of_ble_eq_true rfl) (Nat.zero_le _) (Nat.zero_le _) ?_
    rintro _ h2 ⟨rfl, Q2, v2, G2, hM2, hGa2, hx2⟩
    first | refine z_ifeqB (pc := 23) C 33 dX12_ring_23 (by decide) (fun hc23 => ?_) (fun hc23 => ?_) | refine z_ifeqN (pc := 23) C 33 dX12_ring_23 (by decide) (by omega) (fun hc23 => ?_) (fun hc23 => ?_) | refine z_if_eq (pc := 23) C 33 dX12_ring_23 (by decide) (fun hc23 => ?_) (fun hc23 => ?_)
    · skip
      have e6 : slen (sOwe R S) (R 3) j = none := Option.isNone_iff_eq_none.mp (Option.isSome_eq_false_iff.mp hc23)
      refine z_bipush (pc := 33) C dX12_ring_33 (-2) (by decide) ?_
      refine z_iret (pc := 35) C dX12_ring_35 rfl (Nat.zero_le _) (Nat.zero_le _) ⟨_, rfl, ?_, rfl⟩
      refine ⟨by simp [aRing, aM, zo, *], ?_⟩
      first | exact mQ.eq (t := 1) (by simp [aRing, aM, zo, *] <;> rfl) (mQ.no0 hg hJ) | exact mQ.eq (t := 2) (by simp [aRing, aM, zo, *] <;> rfl) (mQ.no0 hg hJ) | exact mQ.eq (t := 1) (by simp [aRing, aM, zo, *] <;> rfl) (mQ.no hg hM2 Q2) | exact mQ.eq (t := 2) (by simp [aRing, aM, zo, *] <;> rfl) (mQ.no hg hM2 Q2) | exact mQ.eq (t := 5) (by simp [aRing, aM, zo, *] <;> rfl) (mQ.no hg hM2 Q2) | exact mQ.eq (t := 0) (by simp [aRing, aM, zo, *] <;> rfl) (mQ.ok hg Q2)
    · skip
      obtain ⟨L, e6⟩ := Option.isSome_iff_exists.mp hc23
      have e7 := (hx2 L e6).1
      refine z_aload_n (pc := 26) C dX12_ring_26 0 rfl ?_
      refine z_getf (pc := 27) C dX12_ring_27 fX12_346 hM2 (by first | rfl | assumption) ?_
      refine z_goto (pc := 30) C 35 dX12_ring_30 (by decide) ?_
      refine z_iret (pc := 35) C dX12_ring_35 rfl (Nat.zero_le _) (Nat.zero_le _) ⟨_, rfl, ?_, rfl⟩
      refine ⟨by simp [aRing, aM, zo, *], ?_⟩
      first | exact mQ.eq (t := 1) (by simp [aRing, aM, zo, *] <;> rfl) (mQ.no0 hg hJ) | exact mQ.eq (t := 2) (by simp [aRing, aM, zo, *] <;> rfl) (mQ.no0 hg hJ) | exact mQ.eq (t := 1) (by simp [aRing, aM, zo, *] <;> rfl) (mQ.no hg hM2 Q2) | exact mQ.eq (t := 2) (by simp [aRing, aM, zo, *] <;> rfl) (mQ.no hg hM2 Q2) | exact mQ.eq (t := 5) (by simp [aRing, aM, zo, *] <;> rfl) (mQ.no hg hM2 Q2) | exact mQ.eq (t := 0) (by simp [aRing, aM, zo, *] <;> rfl) (mQ.ok hg Q2)
  · skip
    refine z_aload_n (pc := 12) C dX12_ring_12 0 rfl ?_
    refine z_iconst (pc := 13) C dX12_ring_13 (nI 1) (by decide) ?_
    refine z_cV1 (pc := 14) mX12_no C [_] dX12_ring_14 lX12_170 mtX12_no (tX12_no (by first | assumption | omega)) (by assumption) rfl rfl (by decide) (Nat.le_of_ble_eq_true rfl) (Nat.zero_le _) (Nat.zero_le _) ?_
    refine z_iret (pc := 17) C dX12_ring_17 rfl (Nat.zero_le _) (Nat.zero_le _) ⟨_, rfl, ?_, rfl⟩
    refine ⟨by simp [aRing, aM, zo, *], ?_⟩
    first | exact mQ.eq (t := 1) (by simp [aRing, aM, zo, *] <;> rfl) (mQ.no0 hg hJ) | exact mQ.eq (t := 2) (by simp [aRing, aM, zo, *] <;> rfl) (mQ.no0 hg hJ) | exact mQ.eq (t := 1) (by simp [aRing, aM, zo, *] <;> rfl) (mQ.no hg hM2 Q2) | exact mQ.eq (t := 2) (by simp [aRing, aM, zo, *] <;> rfl) (mQ.no hg hM2 Q2) | exact mQ.eq (t := 5) (by simp [aRing, aM, zo, *] <;> rfl) (mQ.no hg hM2 Q2) | exact mQ.eq (t := 0) (by simp [aRing, aM, zo, *] <;> rfl) (mQ.ok hg Q2)

set_option maxRecDepth 20000 in
set_option maxHeartbeats 1000000 in
theorem tX12_ringAt {h : ZH} {v : Nat → Int32} {R S : Nat → Nat} {b : Bool} {m i : Int32} (hM : h 1063 = some (zO 8 (mfs v))) (hA : h 1066 = some (zI 241 R)) (hB : h 1070 = some (zI 40 S)) (hJ : mJ h) (hR : wfR R) (hS : wfS R S) (hF : v 14 = zb b) (hb : wfB b R) : ZQ1 mX12_ringAt 8 [.ref 1063, .int m, .int i] h (fun w hh => w = .int (aRAt R S m i).1 ∧ mQ h hh (mv v (aRAt R S m i).2)) := by
  intro n
  obtain ⟨w1, w3, w4, w5, w0, wP, wM, wK, wX⟩ := id hR
  obtain ⟨wT, wL, wB⟩ := id hS
  refine z_enter (lv := [(0, _), (1, _), (2, _)]) (by decide) (Nat.le_of_ble_eq_true rfl) rfl (fun X C => ?_)
  refine z_aload_n (pc := 0) C dX12_ringAt_0 0 rfl ?_
  refine z_cV0 (pc := 1) mX12_good C [] dX12_ringAt_1 lX12_167 mtX12_good (tX12_good (by first | assumption | omega)) (by assumption) rfl rfl (by decide) (Nat.le_of_ble_eq_true rfl) (Nat.zero_le _) (Nat.zero_le _) ?_
  have hM1 : zup h 1063 (zO 8 (mfs (upd (upd v 0 0) 11 0))) 1063 = some (zO 8 (mfs (upd (upd v 0 0) 11 0))) := zup_same _ _ _
  have hA1 : zup h 1063 (zO 8 (mfs (upd (upd v 0 0) 11 0))) 1066 = some (zI 241 R) := (zup_ne (by decide)).trans hA
  have hB1 : zup h 1063 (zO 8 (mfs (upd (upd v 0 0) 11 0))) 1070 = some (zI 40 S) := (zup_ne (by decide)).trans hB
  have hF1 : upd (upd v 0 0) 11 0 14 = zb b := hF
  generalize hg : zup h 1063 (zO 8 (mfs (upd (upd v 0 0) 11 0))) = h1 at hM1 hA1 hB1 ⊢
  have hJ1 : mJ h1 := by rw [← hg]; exact hJ.up _
  refine z_aload_n (pc := 4) C dX12_ringAt_4 0 rfl ?_
  refine z_iload_n (pc := 5) C dX12_ringAt_5 1 rfl ?_
  refine z_cV1 (pc := 6) mX12_isMan C [_] dX12_ringAt_6 lX12_288 mtX12_isMan (tX12_isMan (by first | assumption | omega) (by first | assumption | omega) (by first | assumption | omega) (by first | assumption | omega)) (by assumption) rfl rfl (by decide) (Nat.le_of_ble_eq_true rfl) (Nat.zero_le _) (Nat.zero_le _) ?_
  rw [wfB_m hb m]
  first | refine z_ifeqB (pc := 9) C 34 dX12_ringAt_9 (by decide) (fun hc9 => ?_) (fun hc9 => ?_) | refine z_ifeqN (pc := 9) C 34 dX12_ringAt_9 (by decide) (by omega) (fun hc9 => ?_) (fun hc9 => ?_) | refine z_if_eq (pc := 9) C 34 dX12_ringAt_9 (by decide) (fun hc9 => ?_) (fun hc9 => ?_)
  · skip
    refine z_aload_n (pc := 34) C dX12_ringAt_34 0 rfl ?_
    refine z_iconst (pc := 35) C dX12_ringAt_35 (nI 1) (by decide) ?_
    refine z_cV1 (pc := 36) mX12_no C [_] dX12_ringAt_36 lX12_170 mtX12_no (tX12_no (by first | assumption | omega)) (by assumption) rfl rfl (by decide) (Nat.le_of_ble_eq_true rfl) (Nat.zero_le _) (Nat.zero_le _) ?_
    refine z_iret (pc := 39) C dX12_ringAt_39 rfl (Nat.zero_le _) (Nat.zero_le _) ⟨_, rfl, ?_, rfl⟩
    refine ⟨by simp [aRAt, *], ?_⟩
    first | exact mQ.eq (t := 1) (by simp [aRAt, *] <;> rfl) (mQ.no0 hg hJ) | exact mQ.eq (t := 2) (by simp [aRAt, *] <;> rfl) (mQ.no0 hg hJ) | exact mQ.eq (t := 1) (by simp [aRAt, *] <;> rfl) (mQ.no hg hM2 Q2) | exact mQ.eq (t := 2) (by simp [aRAt, *] <;> rfl) (mQ.no hg hM2 Q2) | exact mQ.eq (t := 5) (by simp [aRAt, *] <;> rfl) (mQ.no hg hM2 Q2) | exact mQ.eq (t := 0) (by simp [aRAt, *] <;> rfl) (mQ.ok hg Q2)
  · skip
    obtain ⟨j, hj, rfl⟩ := zlt_of (by omega) hc9
    have pj := pn_nI (j := j) (by omega)
    refine z_aload_n (pc := 12) C dX12_ringAt_12 0 rfl ?_
    refine z_iload_n (pc := 13) C dX12_ringAt_13 1 rfl ?_
    refine z_cV1Q (pc := 14) mX12_seekRing C [_] dX12_ringAt_14 lX12_352 mtX12_seekRing (tX12_seekRing hM1 hA1 hB1 hJ1 hR hS hj) hM1 rfl rfl (by decide) (Nat.le_of_ble_eq_true rfl) (Nat.zero_le _) (Nat.zero_le _) ?_
    rintro _ h2 ⟨rfl, Q2, v2, G2, hM2, hGa2, hx2⟩
    first | refine z_ifeqB (pc := 17) C 34 dX12_ringAt_17 (by decide) (fun hc17 => ?_) (fun hc17 => ?_) | refine z_ifeqN (pc := 17) C 34 dX12_ringAt_17 (by decide) (by omega) (fun hc17 => ?_) (fun hc17 => ?_) | refine z_if_eq (pc := 17) C 34 dX12_ringAt_17 (by decide) (fun hc17 => ?_) (fun hc17 => ?_)
    · skip
      have e6 : slen (sOwe R S) (R 3) j = none := Option.isNone_iff_eq_none.mp (Option.isSome_eq_false_iff.mp hc17)
      refine z_aload_n (pc := 34) C dX12_ringAt_34 0 rfl ?_
      refine z_iconst (pc := 35) C dX12_ringAt_35 (nI 1) (by decide) ?_
      refine z_cV1 (pc := 36) mX12_no C [_] dX12_ringAt_36 lX12_170 mtX12_no (tX12_no (by first | assumption | omega)) (by assumption) rfl rfl (by decide) (Nat.le_of_ble_eq_true rfl) (Nat.zero_le _) (Nat.zero_le _) ?_
      refine z_iret (pc := 39) C dX12_ringAt_39 rfl (Nat.zero_le _) (Nat.zero_le _) ⟨_, rfl, ?_, rfl⟩
      refine ⟨by simp [aRAt, *], ?_⟩
      first | exact mQ.eq (t := 1) (by simp [aRAt, *] <;> rfl) (mQ.no0 hg hJ) | exact mQ.eq (t := 2) (by simp [aRAt, *] <;> rfl) (mQ.no0 hg hJ) | exact mQ.eq (t := 1) (by simp [aRAt, *] <;> rfl) (mQ.no hg hM2 Q2) | exact mQ.eq (t := 2) (by simp [aRAt, *] <;> rfl) (mQ.no hg hM2 Q2) | exact mQ.eq (t := 5) (by simp [aRAt, *] <;> rfl) (mQ.no hg hM2 Q2) | exact mQ.eq (t := 0) (by simp [aRAt, *] <;> rfl) (mQ.ok hg Q2)
    · skip
      obtain ⟨L, e6⟩ := Option.isSome_iff_exists.mp hc17
      have e7 := (hx2 L e6).1
      obtain ⟨e8, e9⟩ := slen_le e6
      refine z_iload_n (pc := 20) C dX12_ringAt_20 2 rfl ?_
      refine z_iconst (pc := 21) C dX12_ringAt_21 (nI 0) (by decide) ?_
      refine z_aload_n (pc := 22) C dX12_ringAt_22 0 rfl ?_
      refine z_getf (pc := 23) C dX12_ringAt_23 fX12_346 hM2 (by first | rfl | assumption) ?_
      refine z_top e7 ?_
      refine z_iconst (pc := 26) C dX12_ringAt_26 (nI 1) (by decide) ?_
      refine z_isub (pc := 27) C dX12_ringAt_27 ?_
      refine z_cS1 (pc := 28) mX12_in C [_, _, _] dX12_ringAt_28 lX12_146 mtX12_in tX12_in rfl rfl (by decide) (Nat.le_of_ble_eq_true rfl) (Nat.zero_le _) (Nat.zero_le _) ?_
      rw [zlt_le i (by omega)]
      first | refine z_ifneB (pc := 31) C 40 dX12_ringAt_31 (by decide) (fun hc31 => ?_) (fun hc31 => ?_) | refine z_ifneN (pc := 31) C 40 dX12_ringAt_31 (by decide) (by omega) (fun hc31 => ?_) (fun hc31 => ?_) | refine z_if_ne (pc := 31) C 40 dX12_ringAt_31 (by decide) (fun hc31 => ?_) (fun hc31 => ?_)
      · skip
        obtain ⟨q, hq, rfl⟩ := zlt_of (by omega) hc31
        have pq := pn_nI (j := q) (by omega)
        have e10 := (hx2 L e6).2 q hq
        refine z_aload_n (pc := 40) C dX12_ringAt_40 0 rfl ?_
        refine z_getf (pc := 41) C dX12_ringAt_41 fX12_53 hM2 (by first | rfl | assumption) ?_
        refine z_iload_n (pc := 44) C dX12_ringAt_44 2 rfl ?_
        first | refine z_ialdN (pc := 45) C dX12_ringAt_45 hGa2 (by omega) (by decide) ?_ | refine z_ialdI (pc := 45) C dX12_ringAt_45 hGa2 (by omega) (by decide) ?_
        refine z_iret (pc := 46) C dX12_ringAt_46 rfl (Nat.zero_le _) (Nat.zero_le _) ⟨_, rfl, ?_, rfl⟩
        refine ⟨by simp [aRAt, *], ?_⟩
        first | exact mQ.eq (t := 1) (by simp [aRAt, *] <;> rfl) (mQ.no0 hg hJ) | exact mQ.eq (t := 2) (by simp [aRAt, *] <;> rfl) (mQ.no0 hg hJ) | exact mQ.eq (t := 1) (by simp [aRAt, *] <;> rfl) (mQ.no hg hM2 Q2) | exact mQ.eq (t := 2) (by simp [aRAt, *] <;> rfl) (mQ.no hg hM2 Q2) | exact mQ.eq (t := 5) (by simp [aRAt, *] <;> rfl) (mQ.no hg hM2 Q2) | exact mQ.eq (t := 0) (by simp [aRAt, *] <;> rfl) (mQ.ok hg Q2)
      · skip
        refine z_aload_n (pc := 34) C dX12_ringAt_34 0 rfl ?_
        refine z_iconst (pc := 35) C dX12_ringAt_35 (nI 1) (by decide) ?_
        refine z_cV1 (pc := 36) mX12_no C [_] dX12_ringAt_36 lX12_170 mtX12_no (tX12_no (by first | assumption | omega)) (by assumption) rfl rfl (by decide) (Nat.le_of_ble_eq_true rfl) (Nat.zero_le _) (Nat.zero_le _) ?_
        refine z_iret (pc := 39) C dX12_ringAt_39 rfl (Nat.zero_le _) (Nat.zero_le _) ⟨_, rfl, ?_, rfl⟩
        refine ⟨by simp [aRAt, *], ?_⟩
        first | exact mQ.eq (t := 1) (by simp [aRAt, *] <;> rfl) (mQ.no0 hg hJ) | exact mQ.eq (t := 2) (by simp [aRAt, *] <;> rfl) (mQ.no0 hg hJ) | exact mQ.eq (t := 1) (by simp [aRAt, *] <;> rfl) (mQ.no hg hM2 Q2) | exact mQ.eq (t := 2) (by simp [aRAt, *] <;> rfl) (mQ.no hg hM2 Q2) | exact mQ.eq (t := 5) (by simp [aRAt, *] <;> rfl) (mQ.no hg hM2 Q2) | exact mQ.eq (t := 0) (by simp [aRAt, *] <;> rfl) (mQ.ok hg Q2)

set_option maxRecDepth 20000 in
set_option maxHeartbeats 1000000 in
theorem tX1_menBehindDebts {h : ZH} {s le tr t : Nat} {R S : Nat → Nat} {m d0 : Nat} (hC : Scn h s le tr t R S) (hR : wfR R) (hS : wfS R S) (hm : m < R 3) (hd : d0 < 2147483648) : ZD mX1_menBehindDebts 1 [.ref s, .int (nI m), .int (nI d0)] h (some (.int (nI (sbd (sOwe R S) (R 3) d0 (1 <<< m))))) h := by
  intro n
  obtain ⟨w1, w3, w4, w5, w0, wP, wM, wK, wX⟩ := id hR
  obtain ⟨wT, wL, wB⟩ := id hS
  obtain ⟨hT, fl, ft, s0, s1, s2, rl, rt⟩ := id hC
  obtain ⟨fc, fh, fn, fk, fs, ff, fw, fe, t0, t1, t2, t3, t4, t5, t6, t7, t8, rc, rh, rn, rk, rs, rf, rv, re⟩ := id hT
  have bO : ∀ z, sOwe R S z < 16 := sOwe_lt hR S
  have b2 : 1 <<< m < 16 := by rw [Nat.shiftLeft_eq, Nat.one_mul]; exact Nat.lt_of_lt_of_le (Nat.pow_lt_pow_right (n := 4) (by decide) (by omega)) (by decide)
  refine z_enter (lv := [(0, _), (1, _), (2, _)]) (by decide) (Nat.le_of_ble_eq_true rfl) rfl (fun X C => ?_)
  refine z_iconst (pc := 0) C dX1_menBehindDebts_0 (nI 1) (by decide) ?_
  refine z_iload_n (pc := 1) C dX1_menBehindDebts_1 1 rfl ?_
  first | refine z_ishlN (pc := 2) C dX1_menBehindDebts_2 (by omega) ?_ | refine z_ishl (pc := 2) C dX1_menBehindDebts_2 ?_
  refine z_istore_n (pc := 3) (lv' := [(3, _), (0, _), (1, _), (2, _)]) C dX1_menBehindDebts_3 (by decide) rfl ?_
  refine z_iconst (pc := 4) C dX1_menBehindDebts_4 (nI 0) (by decide) ?_
  refine z_istore (pc := 5) (lv' := [(4, _), (3, _), (0, _), (1, _), (2, _)]) C dX1_menBehindDebts_5 (by decide) rfl ?_
  refine z_sub (lv' := [(0, _), (1, _), (2, _), (3, _), (4, _)]) [2, 3, 4, 1, 0] rfl ?_
  have lp7 : ∀ (f : Nat) (i : Nat), (i + f = d0) → Zc X mX1_menBehindDebts (zEnd X (fun r hh n' => r = (some (.int (nI (sbd (sOwe R S) (R 3) d0 (1 <<< m))))) ∧ hh = h ∧ n' = n) 0 0) 7 [(0, .ref s), (1, .int (nI m)), (2, .int (nI d0)), (3, .int (nI (sbd (sOwe R S) (R 3) i (1 <<< m)))), (4, .int (nI i))] [] h n 0 0 := by
    intro f
    induction f using Nat.strongRecOn with
    | _ f ih =>
      intro i hk
      have b3 := sbd_lt bO (R 3) b2 i
      refine z_iload (pc := 7) C dX1_menBehindDebts_7 4 rfl ?_
      refine z_iload_n (pc := 9) C dX1_menBehindDebts_9 2 rfl ?_
      first | refine z_icmpgeN (pc := 10) C 68 dX1_menBehindDebts_10 (by decide) (by omega) (by omega) (fun hc10 => ?_) (fun hc10 => ?_) | refine z_icmp_ge (pc := 10) C 68 dX1_menBehindDebts_10 (by decide) (fun hc10 => ?_) (fun hc10 => ?_)
      · skip
        refine z_iload_n (pc := 68) C dX1_menBehindDebts_68 3 rfl ?_
        refine z_iret (pc := 69) C dX1_menBehindDebts_69 rfl (Nat.zero_le _) (Nat.zero_le _) ⟨?_, ?_, rfl⟩
        · obtain rfl : i = d0 := (by omega); rfl
        · rfl
      · skip
        refine z_iconst (pc := 13) C dX1_menBehindDebts_13 (nI 0) (by decide) ?_
        refine z_istore (pc := 14) (lv' := [(5, _), (0, _), (1, _), (2, _), (3, _), (4, _)]) C dX1_menBehindDebts_14 (by decide) rfl ?_
        refine z_iconst (pc := 16) C dX1_menBehindDebts_16 (nI 0) (by decide) ?_
        refine z_istore (pc := 17) (lv' := [(6, _), (5, _), (0, _), (1, _), (2, _), (3, _), (4, _)]) C dX1_menBehindDebts_17 (by decide) rfl ?_
        refine z_sub (lv' := [(0, _), (1, _), (2, _), (3, _), (4, _), (5, _), (6, _)]) [2, 3, 4, 5, 6, 1, 0] rfl ?_
        have lp19 : ∀ (f2 : Nat) (z acc : Nat), (z + f2 = R 3 ∧ acc = scn1 (sOwe R S) (sbd (sOwe R S) (R 3) i (1 <<< m)) z) → Zc X mX1_menBehindDebts (zEnd X (fun r hh n' => r = (some (.int (nI (sbd (sOwe R S) (R 3) d0 (1 <<< m))))) ∧ hh = h ∧ n' = n) 0 0) 19 [(0, .ref s), (1, .int (nI m)), (2, .int (nI d0)), (3, .int (nI (sbd (sOwe R S) (R 3) i (1 <<< m)))), (4, .int (nI i)), (5, .int (nI acc)), (6, .int (nI z))] [] h n 0 0 := by
          intro f2
          induction f2 using Nat.strongRecOn with
          | _ f2 ih2 =>
            intro z acc hk2
            obtain ⟨hk2, he2⟩ := hk2
            refine z_iload (pc := 19) C dX1_menBehindDebts_19 6 rfl ?_
            refine z_aload_n (pc := 21) C dX1_menBehindDebts_21 0 rfl ?_
            refine z_getf (pc := 22) C dX1_menBehindDebts_22 fX1_21 (by assumption) (by first | rfl | assumption) ?_
            refine z_getf (pc := 25) C dX1_menBehindDebts_25 fX1_38 (by assumption) (by first | rfl | assumption) ?_
            refine z_iconst (pc := 28) C dX1_menBehindDebts_28 (nI 3) (by decide) ?_
            refine z_ialdE (pc := 29) C dX1_menBehindDebts_29 (by assumption) (by omega) (by decide) (rc 3 (by decide) (by decide)) ?_
            first | refine z_icmpgeN (pc := 30) C 59 dX1_menBehindDebts_30 (by decide) (by omega) (by omega) (fun hc30 => ?_) (fun hc30 => ?_) | refine z_icmp_ge (pc := 30) C 59 dX1_menBehindDebts_30 (by decide) (fun hc30 => ?_) (fun hc30 => ?_)
            · skip
              refine z_iload (pc := 59) C dX1_menBehindDebts_59 5 rfl ?_
              refine z_istore_n (pc := 61) (lv' := [(3, _), (0, _), (1, _), (2, _), (4, _), (5, _), (6, _)]) C dX1_menBehindDebts_61 (by decide) rfl ?_
              first | refine z_iincN (pc := 62) (lv' := [(4, _), (3, _), (0, _), (1, _), (2, _), (5, _), (6, _)]) C 1 dX1_menBehindDebts_62 4 rfl (by decide) (by decide) rfl ?_ | refine z_iinc (pc := 62) (lv' := [(4, _), (3, _), (0, _), (1, _), (2, _), (5, _), (6, _)]) C dX1_menBehindDebts_62 4 rfl _ rfl (by decide) rfl ?_
              refine z_goto (pc := 65) C 7 dX1_menBehindDebts_65 (by decide) ?_
              refine z_sub (lv' := [(0, _), (1, _), (2, _), (3, _), (4, _)]) [2, 3, 4, 1, 0] rfl ?_
              (obtain rfl : z = R 3 := (by omega); rw [he2]; exact ih (f - 1) (by omega) (i + 1) (by omega))
            · skip
              refine z_iload_n (pc := 33) C dX1_menBehindDebts_33 3 rfl ?_
              refine z_iload (pc := 34) C dX1_menBehindDebts_34 6 rfl ?_
              refine z_cSN1 (pc := 36) mX11_has C [_, _] dX1_menBehindDebts_36 lX1_75 mtX11_has (tX11_has (by omega) (by omega)) rfl rfl (by decide) (Nat.le_of_ble_eq_true rfl) (Nat.zero_le _) (Nat.zero_le _) ?_
              first | refine z_ifeqB (pc := 39) C 53 dX1_menBehindDebts_39 (by decide) (fun hc39 => ?_) (fun hc39 => ?_) | refine z_ifeqN (pc := 39) C 53 dX1_menBehindDebts_39 (by decide) (by omega) (fun hc39 => ?_) (fun hc39 => ?_) | refine z_if_eq (pc := 39) C 53 dX1_menBehindDebts_39 (by decide) (fun hc39 => ?_) (fun hc39 => ?_)
              · skip
                first | refine z_iincN (pc := 53) (lv' := [(6, _), (0, _), (1, _), (2, _), (3, _), (4, _), (5, _)]) C 1 dX1_menBehindDebts_53 6 rfl (by decide) (by decide) rfl ?_ | refine z_iinc (pc := 53) (lv' := [(6, _), (0, _), (1, _), (2, _), (3, _), (4, _), (5, _)]) C dX1_menBehindDebts_53 6 rfl _ rfl (by decide) rfl ?_
                refine z_goto (pc := 56) C 19 dX1_menBehindDebts_56 (by decide) ?_
                refine z_sub (lv' := [(0, _), (1, _), (2, _), (3, _), (4, _), (5, _), (6, _)]) [1, 2, 3, 4, 5, 6, 0] rfl ?_
                exact ih2 (f2 - 1) (by omega) (z + 1) _ ⟨by omega, by rw [he2, scn1, hc39]; simp⟩
              · skip
                refine z_iload (pc := 42) C dX1_menBehindDebts_42 5 rfl ?_
                refine z_aload_n (pc := 44) C dX1_menBehindDebts_44 0 rfl ?_
                refine z_iload (pc := 45) C dX1_menBehindDebts_45 6 rfl ?_
                refine z_cS1 (pc := 47) mX1_creditors C [_, _] dX1_menBehindDebts_47 lX1_79 mtX1_creditors (tX1_creditors hC hR hS (by omega)) rfl rfl (by decide) (Nat.le_of_ble_eq_true rfl) (Nat.zero_le _) (Nat.zero_le _) ?_
                first | refine z_iorN (pc := 50) C dX1_menBehindDebts_50 ?_ | refine z_ior (pc := 50) C dX1_menBehindDebts_50 ?_
                refine z_istore (pc := 51) (lv' := [(5, _), (0, _), (1, _), (2, _), (3, _), (4, _), (6, _)]) C dX1_menBehindDebts_51 (by decide) rfl ?_
                first | refine z_iincN (pc := 53) (lv' := [(6, _), (5, _), (0, _), (1, _), (2, _), (3, _), (4, _)]) C 1 dX1_menBehindDebts_53 6 rfl (by decide) (by decide) rfl ?_ | refine z_iinc (pc := 53) (lv' := [(6, _), (5, _), (0, _), (1, _), (2, _), (3, _), (4, _)]) C dX1_menBehindDebts_53 6 rfl _ rfl (by decide) rfl ?_
                refine z_goto (pc := 56) C 19 dX1_menBehindDebts_56 (by decide) ?_
                refine z_sub (lv' := [(0, _), (1, _), (2, _), (3, _), (4, _), (5, _), (6, _)]) [2, 3, 4, 5, 6, 1, 0] rfl ?_
                exact ih2 (f2 - 1) (by omega) (z + 1) _ ⟨by omega, by rw [he2, scn1, hc39]; simp⟩
        exact lp19 (R 3) 0 0 ⟨by omega, rfl⟩
  exact lp7 d0 0 (by omega)

set_option maxRecDepth 20000 in
set_option maxHeartbeats 1000000 in
theorem tX1_ringLength {h : ZH} {s le tr t : Nat} {R S : Nat → Nat} {m : Nat} (hC : Scn h s le tr t R S) (hR : wfR R) (hS : wfS R S) (hm : m < R 3) : ZD mX1_ringLength 2 [.ref s, .int (nI m)] h (some (.int (zo (slen (sOwe R S) (R 3) m)))) h := by
  intro n
  obtain ⟨w1, w3, w4, w5, w0, wP, wM, wK, wX⟩ := id hR
  obtain ⟨wT, wL, wB⟩ := id hS
  obtain ⟨hT, fl, ft, s0, s1, s2, rl, rt⟩ := id hC
  obtain ⟨fc, fh, fn, fk, fs, ff, fw, fe, t0, t1, t2, t3, t4, t5, t6, t7, t8, rc, rh, rn, rk, rs, rf, rv, re⟩ := id hT
  have bO : ∀ z, sOwe R S z < 16 := sOwe_lt hR S
  have b2 : 1 <<< m < 16 := by rw [Nat.shiftLeft_eq, Nat.one_mul]; exact Nat.lt_of_lt_of_le (Nat.pow_lt_pow_right (n := 4) (by decide) (by omega)) (by decide)
  refine z_enter (lv := [(0, _), (1, _)]) (by decide) (Nat.le_of_ble_eq_true rfl) rfl (fun X C => ?_)
  refine z_iconst (pc := 0) C dX1_ringLength_0 (nI 2) (by decide) ?_
  refine z_istore_n (pc := 1) (lv' := [(2, _), (0, _), (1, _)]) C dX1_ringLength_1 (by decide) rfl ?_
  refine z_sub (lv' := [(0, _), (1, _), (2, _)]) [1, 2, 0] rfl ?_
  have lp2 : ∀ (f : Nat) (L : Nat), (L + f = R 3 + 1 ∧ slen (sOwe R S) (R 3) m = sfst (fun L => (sbd (sOwe R S) (R 3) L (1 <<< m)).testBit m) f L ∨ R 3 < L ∧ f = 0 ∧ L = 2 ∧ slen (sOwe R S) (R 3) m = none) → Zc X mX1_ringLength (zEnd X (fun r hh n' => r = (some (.int (zo (slen (sOwe R S) (R 3) m)))) ∧ hh = h ∧ n' = n) 0 0) 2 [(0, .ref s), (1, .int (nI m)), (2, .int (nI L))] [] h n 0 0 := by
    intro f
    induction f using Nat.strongRecOn with
    | _ f ih =>
      intro L hk
      have b3 := sbd_lt bO (R 3) b2 L
      have b4 : L ≤ R 3 + 1 ∨ L = 2 := by rcases hk with z | z <;> omega
      refine z_iload_n (pc := 2) C dX1_ringLength_2 2 rfl ?_
      refine z_aload_n (pc := 3) C dX1_ringLength_3 0 rfl ?_
      refine z_getf (pc := 4) C dX1_ringLength_4 fX1_21 (by assumption) (by first | rfl | assumption) ?_
      refine z_getf (pc := 7) C dX1_ringLength_7 fX1_38 (by assumption) (by first | rfl | assumption) ?_
      refine z_iconst (pc := 10) C dX1_ringLength_10 (nI 3) (by decide) ?_
      refine z_ialdE (pc := 11) C dX1_ringLength_11 (by assumption) (by omega) (by decide) (rc 3 (by decide) (by decide)) ?_
      first | refine z_icmpgtN (pc := 12) C 36 dX1_ringLength_12 (by decide) (by omega) (by omega) (fun hc12 => ?_) (fun hc12 => ?_) | refine z_icmp_gt (pc := 12) C 36 dX1_ringLength_12 (by decide) (fun hc12 => ?_) (fun hc12 => ?_)
      · skip
        refine z_bipush (pc := 36) C dX1_ringLength_36 (-2) (by decide) ?_
        refine z_iret (pc := 38) C dX1_ringLength_38 rfl (Nat.zero_le _) (Nat.zero_le _) ⟨?_, ?_, rfl⟩
        · rcases hk with ⟨hk, he⟩ | hk; (rw [he, show f = 0 by omega]; rfl); rw [hk.2.2.2]; rfl
        · rfl
      · skip
        refine z_aload_n (pc := 15) C dX1_ringLength_15 0 rfl ?_
        refine z_iload_n (pc := 16) C dX1_ringLength_16 1 rfl ?_
        refine z_iload_n (pc := 17) C dX1_ringLength_17 2 rfl ?_
        refine z_cS1 (pc := 18) mX1_menBehindDebts C [_, _, _] dX1_ringLength_18 lX1_82 mtX1_menBehindDebts (tX1_menBehindDebts hC hR hS hm (by omega)) rfl rfl (by decide) (Nat.le_of_ble_eq_true rfl) (Nat.zero_le _) (Nat.zero_le _) ?_
        refine z_iload_n (pc := 21) C dX1_ringLength_21 1 rfl ?_
        refine z_cSN1 (pc := 22) mX11_has C [_, _] dX1_ringLength_22 lX1_75 mtX11_has (tX11_has (by omega) (by omega)) rfl rfl (by decide) (Nat.le_of_ble_eq_true rfl) (Nat.zero_le _) (Nat.zero_le _) ?_
        first | refine z_ifeqB (pc := 25) C 30 dX1_ringLength_25 (by decide) (fun hc25 => ?_) (fun hc25 => ?_) | refine z_ifeqN (pc := 25) C 30 dX1_ringLength_25 (by decide) (by omega) (fun hc25 => ?_) (fun hc25 => ?_) | refine z_if_eq (pc := 25) C 30 dX1_ringLength_25 (by decide) (fun hc25 => ?_) (fun hc25 => ?_)
        · skip
          first | refine z_iincN (pc := 30) (lv' := [(2, _), (0, _), (1, _)]) C 1 dX1_ringLength_30 2 rfl (by decide) (by decide) rfl ?_ | refine z_iinc (pc := 30) (lv' := [(2, _), (0, _), (1, _)]) C dX1_ringLength_30 2 rfl _ rfl (by decide) rfl ?_
          refine z_goto (pc := 33) C 2 dX1_ringLength_33 (by decide) ?_
          refine z_sub (lv' := [(0, _), (1, _), (2, _)]) [1, 2, 0] rfl ?_
          (rcases hk with ⟨hk, he⟩ | hk; (exact ih (f - 1) (by omega) (L + 1) (Or.inl ⟨by omega, by rw [he]; obtain ⟨f, rfl⟩ : ∃ y, f = y + 1 := ⟨f - 1, by omega⟩; rw [sfst, if_neg (by rw [hc25]; decide)]; rfl⟩)); omega)
        · skip
          refine z_iload_n (pc := 28) C dX1_ringLength_28 2 rfl ?_
          refine z_iret (pc := 29) C dX1_ringLength_29 rfl (Nat.zero_le _) (Nat.zero_le _) ⟨?_, ?_, rfl⟩
          · rcases hk with ⟨hk, he⟩ | hk; (rw [he]; obtain ⟨f, rfl⟩ : ∃ y, f = y + 1 := ⟨f - 1, by omega⟩; rw [sfst, if_pos hc25]; rfl); omega
          · rfl
  (by_cases z : R 3 = 1; (exact lp2 0 2 (Or.inr ⟨by omega, rfl, rfl, by unfold slen; rw [z]; rfl⟩)); exact lp2 (R 3 - 1) 2 (Or.inl ⟨by omega, rfl⟩))

set_option maxRecDepth 20000 in
set_option maxHeartbeats 1000000 in
theorem tX1_firstTowards {h : ZH} {s le tr t : Nat} {R S : Nat → Nat} {a m c : Nat} (hC : Scn h s le tr t R S) (hR : wfR R) (hS : wfS R S) (ha : a < R 3) (hm : m < R 3) (hc : c < 2147483648) : ZD mX1_firstTowards 2 [.ref s, .int (nI a), .int (nI m), .int (nI c)] h (some (.int (nI (sft1 (sOwe R S) (R 3) a m c)))) h := by
  intro n
  obtain ⟨w1, w3, w4, w5, w0, wP, wM, wK, wX⟩ := id hR
  obtain ⟨wT, wL, wB⟩ := id hS
  obtain ⟨hT, fl, ft, s0, s1, s2, rl, rt⟩ := id hC
  obtain ⟨fc, fh, fn, fk, fs, ff, fw, fe, t0, t1, t2, t3, t4, t5, t6, t7, t8, rc, rh, rn, rk, rs, rf, rv, re⟩ := id hT
  have bO : ∀ z, sOwe R S z < 16 := sOwe_lt hR S
  have b2 : ∀ z, z < 4 → 1 <<< z < 16 := fun z hz => by rw [Nat.shiftLeft_eq, Nat.one_mul]; exact Nat.lt_of_lt_of_le (Nat.pow_lt_pow_right (n := 4) (by decide) hz) (by decide)
  have b0 := bO a
  refine z_enter (lv := [(0, _), (1, _), (2, _), (3, _)]) (by decide) (Nat.le_of_ble_eq_true rfl) rfl (fun X C => ?_)
  refine z_aload_n (pc := 0) C dX1_firstTowards_0 0 rfl ?_
  refine z_iload_n (pc := 1) C dX1_firstTowards_1 1 rfl ?_
  refine z_cS1 (pc := 2) mX1_creditors C [_, _] dX1_firstTowards_2 lX1_79 mtX1_creditors (tX1_creditors hC hR hS (by omega)) rfl rfl (by decide) (Nat.le_of_ble_eq_true rfl) (Nat.zero_le _) (Nat.zero_le _) ?_
  refine z_istore (pc := 5) (lv' := [(4, _), (0, _), (1, _), (2, _), (3, _)]) C dX1_firstTowards_5 (by decide) rfl ?_
  refine z_iconst (pc := 7) C dX1_firstTowards_7 (nI 0) (by decide) ?_
  refine z_istore (pc := 8) (lv' := [(5, _), (4, _), (0, _), (1, _), (2, _), (3, _)]) C dX1_firstTowards_8 (by decide) rfl ?_
  refine z_sub (lv' := [(0, _), (1, _), (2, _), (3, _), (4, _), (5, _)]) [2, 3, 4, 5, 1, 0] rfl ?_
  have lp10 : ∀ (f : Nat) (z : Nat), (z + f = R 3 ∧ sfst (fun z => (sOwe R S a).testBit z && (sbd (sOwe R S) (R 3) c (1 <<< z)).testBit m) (R 3) 0 = sfst (fun z => (sOwe R S a).testBit z && (sbd (sOwe R S) (R 3) c (1 <<< z)).testBit m) f z) → Zc X mX1_firstTowards (zEnd X (fun r hh n' => r = (some (.int (nI (sft1 (sOwe R S) (R 3) a m c)))) ∧ hh = h ∧ n' = n) 0 0) 10 [(0, .ref s), (1, .int (nI a)), (2, .int (nI m)), (3, .int (nI c)), (4, .int (nI (sOwe R S a))), (5, .int (nI z))] [] h n 0 0 := by
    intro f
    induction f using Nat.strongRecOn with
    | _ f ih =>
      intro z hk
      obtain ⟨hk, he⟩ := hk
      refine z_iload (pc := 10) C dX1_firstTowards_10 5 rfl ?_
      refine z_aload_n (pc := 12) C dX1_firstTowards_12 0 rfl ?_
      refine z_getf (pc := 13) C dX1_firstTowards_13 fX1_21 (by assumption) (by first | rfl | assumption) ?_
      refine z_getf (pc := 16) C dX1_firstTowards_16 fX1_38 (by assumption) (by first | rfl | assumption) ?_
      refine z_iconst (pc := 19) C dX1_firstTowards_19 (nI 3) (by decide) ?_
      refine z_ialdE (pc := 20) C dX1_firstTowards_20 (by assumption) (by omega) (by decide) (rc 3 (by decide) (by decide)) ?_
      first | refine z_icmpgeN (pc := 21) C 57 dX1_firstTowards_21 (by decide) (by omega) (by omega) (fun hc21 => ?_) (fun hc21 => ?_) | refine z_icmp_ge (pc := 21) C 57 dX1_firstTowards_21 (by decide) (fun hc21 => ?_) (fun hc21 => ?_)
      · skip
        refine z_iload_n (pc := 57) C dX1_firstTowards_57 2 rfl ?_
        refine z_iret (pc := 58) C dX1_firstTowards_58 rfl (Nat.zero_le _) (Nat.zero_le _) ⟨?_, ?_, rfl⟩
        · unfold sft1; rw [he, show f = 0 by omega]; rfl
        · rfl
      · skip
        refine z_iload (pc := 24) C dX1_firstTowards_24 4 rfl ?_
        refine z_iload (pc := 26) C dX1_firstTowards_26 5 rfl ?_
        refine z_cSN1 (pc := 28) mX11_has C [_, _] dX1_firstTowards_28 lX1_75 mtX11_has (tX11_has (by omega) (by omega)) rfl rfl (by decide) (Nat.le_of_ble_eq_true rfl) (Nat.zero_le _) (Nat.zero_le _) ?_
        first | refine z_ifeqB (pc := 31) C 51 dX1_firstTowards_31 (by decide) (fun hc31 => ?_) (fun hc31 => ?_) | refine z_ifeqN (pc := 31) C 51 dX1_firstTowards_31 (by decide) (by omega) (fun hc31 => ?_) (fun hc31 => ?_) | refine z_if_eq (pc := 31) C 51 dX1_firstTowards_31 (by decide) (fun hc31 => ?_) (fun hc31 => ?_)
        · skip
          have e7 : (fun z => (sOwe R S a).testBit z && (sbd (sOwe R S) (R 3) c (1 <<< z)).testBit m) z = false := by show (_ && _) = false; rw [hc31]; rfl
          first | refine z_iincN (pc := 51) (lv' := [(5, _), (0, _), (1, _), (2, _), (3, _), (4, _)]) C 1 dX1_firstTowards_51 5 rfl (by decide) (by decide) rfl ?_ | refine z_iinc (pc := 51) (lv' := [(5, _), (0, _), (1, _), (2, _), (3, _), (4, _)]) C dX1_firstTowards_51 5 rfl _ rfl (by decide) rfl ?_
          refine z_goto (pc := 54) C 10 dX1_firstTowards_54 (by decide) ?_
          refine z_sub (lv' := [(0, _), (1, _), (2, _), (3, _), (4, _), (5, _)]) [1, 2, 3, 4, 5, 0] rfl ?_
          exact ih (f - 1) (by omega) (z + 1) ⟨by omega, by rw [he]; obtain ⟨f, rfl⟩ : ∃ y, f = y + 1 := ⟨f - 1, by omega⟩; rw [sfst, if_neg (fun q => absurd (e7.symm.trans q) (by decide))]; rfl⟩
        · skip
          refine z_aload_n (pc := 34) C dX1_firstTowards_34 0 rfl ?_
          refine z_iload (pc := 35) C dX1_firstTowards_35 5 rfl ?_
          refine z_iload_n (pc := 37) C dX1_firstTowards_37 3 rfl ?_
          refine z_cS1 (pc := 38) mX1_menBehindDebts C [_, _, _] dX1_firstTowards_38 lX1_82 mtX1_menBehindDebts (tX1_menBehindDebts hC hR hS (by omega) (by omega)) rfl rfl (by decide) (Nat.le_of_ble_eq_true rfl) (Nat.zero_le _) (Nat.zero_le _) ?_
          have b3 := sbd_lt bO (R 3) (b2 z (by omega)) c
          refine z_iload_n (pc := 41) C dX1_firstTowards_41 2 rfl ?_
          refine z_cSN1 (pc := 42) mX11_has C [_, _] dX1_firstTowards_42 lX1_75 mtX11_has (tX11_has (by omega) (by omega)) rfl rfl (by decide) (Nat.le_of_ble_eq_true rfl) (Nat.zero_le _) (Nat.zero_le _) ?_
          first | refine z_ifeqB (pc := 45) C 51 dX1_firstTowards_45 (by decide) (fun hc45 => ?_) (fun hc45 => ?_) | refine z_ifeqN (pc := 45) C 51 dX1_firstTowards_45 (by decide) (by omega) (fun hc45 => ?_) (fun hc45 => ?_) | refine z_if_eq (pc := 45) C 51 dX1_firstTowards_45 (by decide) (fun hc45 => ?_) (fun hc45 => ?_)
          · skip
            have e7 : (fun z => (sOwe R S a).testBit z && (sbd (sOwe R S) (R 3) c (1 <<< z)).testBit m) z = false := by show (_ && _) = false; rw [hc31, hc45]; rfl
            first | refine z_iincN (pc := 51) (lv' := [(5, _), (0, _), (1, _), (2, _), (3, _), (4, _)]) C 1 dX1_firstTowards_51 5 rfl (by decide) (by decide) rfl ?_ | refine z_iinc (pc := 51) (lv' := [(5, _), (0, _), (1, _), (2, _), (3, _), (4, _)]) C dX1_firstTowards_51 5 rfl _ rfl (by decide) rfl ?_
            refine z_goto (pc := 54) C 10 dX1_firstTowards_54 (by decide) ?_
            refine z_sub (lv' := [(0, _), (1, _), (2, _), (3, _), (4, _), (5, _)]) [1, 2, 3, 4, 5, 0] rfl ?_
            exact ih (f - 1) (by omega) (z + 1) ⟨by omega, by rw [he]; obtain ⟨f, rfl⟩ : ∃ y, f = y + 1 := ⟨f - 1, by omega⟩; rw [sfst, if_neg (fun q => absurd (e7.symm.trans q) (by decide))]; rfl⟩
          · skip
            refine z_iload (pc := 48) C dX1_firstTowards_48 5 rfl ?_
            refine z_iret (pc := 50) C dX1_firstTowards_50 rfl (Nat.zero_le _) (Nat.zero_le _) ⟨?_, ?_, rfl⟩
            · unfold sft1; rw [he]; obtain ⟨f, rfl⟩ : ∃ y, f = y + 1 := ⟨f - 1, by omega⟩; rw [sfst, if_pos (by rw [hc31, hc45]; rfl)]; rfl
            · rfl
  exact lp10 (R 3) 0 ⟨by omega, rfl⟩

theorem sft1_lt {O : Nat → Nat} {N a m c : Nat} (hm : m < N) : sft1 O N a m c < N := by
  unfold sft1
  cases e : sfst (fun z => (O a).testBit z && (sbd O N c (1 <<< z)).testBit m) N 0 with
  | none => exact hm
  | some z => have := (sfst_some _ _ _ e).2.1; show z < N; omega
theorem srmb_lt {O : Nat → Nat} {N m L : Nat} (hm : m < N) : ∀ i, srmb O N m L i < N := by
  intro i
  cases i with
  | zero => exact hm
  | succ i => exact sft1_lt hm

set_option maxRecDepth 20000 in
set_option maxHeartbeats 1000000 in
theorem tX1_ringMember {h : ZH} {s le tr t : Nat} {R S : Nat → Nat} {m i L : Nat} (hC : Scn h s le tr t R S) (hR : wfR R) (hS : wfS R S) (hm : m < R 3) (hi : i < L) (hL : L < 2147483647) : ZD mX1_ringMember 3 [.ref s, .int (nI m), .int (nI i), .int (nI L)] h (some (.int (nI (srmb (sOwe R S) (R 3) m L i)))) h := by
  intro n
  obtain ⟨w1, w3, w4, w5, w0, wP, wM, wK, wX⟩ := id hR
  refine z_enter (lv := [(0, _), (1, _), (2, _), (3, _)]) (by decide) (Nat.le_of_ble_eq_true rfl) rfl (fun X C => ?_)
  refine z_iload_n (pc := 0) C dX1_ringMember_0 1 rfl ?_
  refine z_istore (pc := 1) (lv' := [(4, _), (0, _), (1, _), (2, _), (3, _)]) C dX1_ringMember_1 (by decide) rfl ?_
  refine z_iconst (pc := 3) C dX1_ringMember_3 (nI 1) (by decide) ?_
  refine z_istore (pc := 4) (lv' := [(5, _), (4, _), (0, _), (1, _), (2, _), (3, _)]) C dX1_ringMember_4 (by decide) rfl ?_
  refine z_sub (lv' := [(0, _), (1, _), (2, _), (3, _), (4, _), (5, _)]) [2, 3, 4, 5, 1, 0] rfl ?_
  have lp6 : ∀ (f : Nat) (g : Nat), (g + f = i) → Zc X mX1_ringMember (zEnd X (fun r hh n' => r = (some (.int (nI (srmb (sOwe R S) (R 3) m L i)))) ∧ hh = h ∧ n' = n) 0 0) 6 [(0, .ref s), (1, .int (nI m)), (2, .int (nI i)), (3, .int (nI L)), (4, .int (nI (srmb (sOwe R S) (R 3) m L g))), (5, .int (nI (g + 1)))] [] h n 0 0 := by
    intro f
    induction f using Nat.strongRecOn with
    | _ f ih =>
      intro g hk
      refine z_iload (pc := 6) C dX1_ringMember_6 5 rfl ?_
      refine z_iload_n (pc := 8) C dX1_ringMember_8 2 rfl ?_
      first | refine z_icmpgtN (pc := 9) C 31 dX1_ringMember_9 (by decide) (by omega) (by omega) (fun hc9 => ?_) (fun hc9 => ?_) | refine z_icmp_gt (pc := 9) C 31 dX1_ringMember_9 (by decide) (fun hc9 => ?_) (fun hc9 => ?_)
      · skip
        refine z_iload (pc := 31) C dX1_ringMember_31 4 rfl ?_
        refine z_iret (pc := 33) C dX1_ringMember_33 rfl (Nat.zero_le _) (Nat.zero_le _) ⟨?_, ?_, rfl⟩
        · obtain rfl : g = i := (by omega); rfl
        · rfl
      · skip
        refine z_aload_n (pc := 12) C dX1_ringMember_12 0 rfl ?_
        refine z_iload (pc := 13) C dX1_ringMember_13 4 rfl ?_
        refine z_iload_n (pc := 15) C dX1_ringMember_15 1 rfl ?_
        refine z_iload_n (pc := 16) C dX1_ringMember_16 3 rfl ?_
        refine z_iload (pc := 17) C dX1_ringMember_17 5 rfl ?_
        first | refine z_isubN (pc := 19) C dX1_ringMember_19 (by omega) ?_ | refine z_isub (pc := 19) C dX1_ringMember_19 ?_
        refine z_cS1 (pc := 20) mX1_firstTowards C [_, _, _, _] dX1_ringMember_20 lX1_85 mtX1_firstTowards (tX1_firstTowards hC hR hS (srmb_lt hm _) hm (by omega)) rfl rfl (by decide) (Nat.le_of_ble_eq_true rfl) (Nat.zero_le _) (Nat.zero_le _) ?_
        refine z_istore (pc := 23) (lv' := [(4, _), (0, _), (1, _), (2, _), (3, _), (5, _)]) C dX1_ringMember_23 (by decide) rfl ?_
        first | refine z_iincN (pc := 25) (lv' := [(5, _), (4, _), (0, _), (1, _), (2, _), (3, _)]) C 1 dX1_ringMember_25 5 rfl (by decide) (by decide) rfl ?_ | refine z_iinc (pc := 25) (lv' := [(5, _), (4, _), (0, _), (1, _), (2, _), (3, _)]) C dX1_ringMember_25 5 rfl _ rfl (by decide) rfl ?_
        refine z_goto (pc := 28) C 6 dX1_ringMember_28 (by decide) ?_
        refine z_sub (lv' := [(0, _), (1, _), (2, _), (3, _), (4, _), (5, _)]) [2, 3, 4, 5, 1, 0] rfl ?_
        exact ih (f - 1) (by omega) (g + 1) (by omega)
  exact lp6 i 0 (by omega)

set_option maxRecDepth 20000 in
set_option maxHeartbeats 1000000 in
theorem tX11_ring {h : ZH} {st : Nat} {ic tb fa pl : Int32} {t : Nat} {R S : Nat → Nat} {m : Int32} (hK : h 1000 = some (zO 7 (kfs st ic tb fa pl))) (hC : Scn h 1051 1052 1053 t R S) (hR : wfR R) (hS : wfS R S) : ZD mX11_ring 3 [.ref 1000, .int m] h (some (.int (aRing R S m).1)) (zup h 1000 (zO 7 (kfs st ic (aRing R S m).2 fa pl))) := by
  intro n
  obtain ⟨w1, w3, w4, w5, w0, wP, wM, wK, wX⟩ := id hR
  obtain ⟨wT, wL, wB⟩ := id hS
  obtain ⟨hT, fl, ft, s0, s1, s2, rl, rt⟩ := id hC
  obtain ⟨fc, fh, fn, fk, fs, ff, fw, fe, t0, t1, t2, t3, t4, t5, t6, t7, t8, rc, rh, rn, rk, rs, rf, rv, re⟩ := id hT
  refine z_enter (lv := [(0, _), (1, _)]) (by decide) (Nat.le_of_ble_eq_true rfl) rfl (fun X C => ?_)
  refine z_aload_n (pc := 0) C dX11_ring_0 0 rfl ?_
  refine z_iload_n (pc := 1) C dX11_ring_1 1 rfl ?_
  refine z_cV1 (pc := 2) mX11_isMan C [_] dX11_ring_2 lX11_140 mtX11_isMan (tX11_isMan (by first | assumption | omega) (by first | assumption | omega) (by first | assumption | omega)) (by assumption) rfl rfl (by decide) (Nat.le_of_ble_eq_true rfl) (Nat.zero_le _) (Nat.zero_le _) ?_
  first | refine z_ifneB (pc := 5) C 14 dX11_ring_5 (by decide) (fun hc5 => ?_) (fun hc5 => ?_) | refine z_ifneN (pc := 5) C 14 dX11_ring_5 (by decide) (by omega) (fun hc5 => ?_) (fun hc5 => ?_) | refine z_if_ne (pc := 5) C 14 dX11_ring_5 (by decide) (fun hc5 => ?_) (fun hc5 => ?_)
  · skip
    obtain ⟨j, hj, rfl⟩ := zlt_of (by omega) hc5
    have pj := pn_nI (j := j) (by omega)
    refine z_aload_n (pc := 14) C dX11_ring_14 0 rfl ?_
    refine z_aload_n (pc := 15) C dX11_ring_15 0 rfl ?_
    refine z_getf (pc := 16) C dX11_ring_16 fX11_53 (by assumption) (by first | rfl | assumption) ?_
    refine z_iload_n (pc := 19) C dX11_ring_19 1 rfl ?_
    refine z_cS1 (pc := 20) mX1_ringLength C [_, _] dX11_ring_20 lX11_262 mtX1_ringLength (tX1_ringLength (by first | assumption | omega) (by first | assumption | omega) (by first | assumption | omega) (by first | assumption | omega)) rfl rfl (by decide) (Nat.le_of_ble_eq_true rfl) (Nat.zero_le _) (Nat.zero_le _) ?_
    refine z_cV1 (pc := 23) mX11_answer C [_] dX11_ring_23 lX11_108 mtX11_answer (tX11_answer (by first | assumption | omega)) (by assumption) rfl rfl (by decide) (Nat.le_of_ble_eq_true rfl) (Nat.zero_le _) (Nat.zero_le _) ?_
    refine z_iret (pc := 26) C dX11_ring_26 rfl (Nat.zero_le _) (Nat.zero_le _) ⟨?_, ?_, rfl⟩
    · simp [aRing, aM, *]
    · simp [aRing, aM, *] <;> rfl
  · skip
    refine z_aload_n (pc := 8) C dX11_ring_8 0 rfl ?_
    refine z_iconst (pc := 9) C dX11_ring_9 (nI 1) (by decide) ?_
    refine z_cV1 (pc := 10) mX11_refuse C [_] dX11_ring_10 lX11_70 mtX11_refuse (tX11_refuse (by first | assumption | omega)) (by assumption) rfl rfl (by decide) (Nat.le_of_ble_eq_true rfl) (Nat.zero_le _) (Nat.zero_le _) ?_
    refine z_iret (pc := 13) C dX11_ring_13 rfl (Nat.zero_le _) (Nat.zero_le _) ⟨?_, ?_, rfl⟩
    · simp [aRing, aM, *]
    · simp [aRing, aM, *] <;> rfl

set_option maxRecDepth 20000 in
set_option maxHeartbeats 1000000 in
theorem tX11_ringAt {h : ZH} {st : Nat} {ic tb fa pl : Int32} {t : Nat} {R S : Nat → Nat} {m i : Int32} (hK : h 1000 = some (zO 7 (kfs st ic tb fa pl))) (hC : Scn h 1051 1052 1053 t R S) (hR : wfR R) (hS : wfS R S) : ZD mX11_ringAt 4 [.ref 1000, .int m, .int i] h (some (.int (aRAt R S m i).1)) (zup h 1000 (zO 7 (kfs st ic (aRAt R S m i).2 fa pl))) := by
  intro n
  obtain ⟨w1, w3, w4, w5, w0, wP, wM, wK, wX⟩ := id hR
  obtain ⟨wT, wL, wB⟩ := id hS
  obtain ⟨hT, fl, ft, s0, s1, s2, rl, rt⟩ := id hC
  obtain ⟨fc, fh, fn, fk, fs, ff, fw, fe, t0, t1, t2, t3, t4, t5, t6, t7, t8, rc, rh, rn, rk, rs, rf, rv, re⟩ := id hT
  refine z_enter (lv := [(0, _), (1, _), (2, _)]) (by decide) (Nat.le_of_ble_eq_true rfl) rfl (fun X C => ?_)
  refine z_aload_n (pc := 0) C dX11_ringAt_0 0 rfl ?_
  refine z_iload_n (pc := 1) C dX11_ringAt_1 1 rfl ?_
  refine z_cV1 (pc := 2) mX11_isMan C [_] dX11_ringAt_2 lX11_140 mtX11_isMan (tX11_isMan (by first | assumption | omega) (by first | assumption | omega) (by first | assumption | omega)) (by assumption) rfl rfl (by decide) (Nat.le_of_ble_eq_true rfl) (Nat.zero_le _) (Nat.zero_le _) ?_
  first | refine z_ifneB (pc := 5) C 14 dX11_ringAt_5 (by decide) (fun hc5 => ?_) (fun hc5 => ?_) | refine z_ifneN (pc := 5) C 14 dX11_ringAt_5 (by decide) (by omega) (fun hc5 => ?_) (fun hc5 => ?_) | refine z_if_ne (pc := 5) C 14 dX11_ringAt_5 (by decide) (fun hc5 => ?_) (fun hc5 => ?_)
  · skip
    obtain ⟨j, hj, rfl⟩ := zlt_of (by omega) hc5
    have pj := pn_nI (j := j) (by omega)
    have hlt : ∀ L, slen (sOwe R S) (R 3) j = some L → L < 2147483648 := fun L hL => by have := slen_le hL; omega
    refine z_aload_n (pc := 14) C dX11_ringAt_14 0 rfl ?_
    refine z_getf (pc := 15) C dX11_ringAt_15 fX11_53 (by assumption) (by first | rfl | assumption) ?_
    refine z_iload_n (pc := 18) C dX11_ringAt_18 1 rfl ?_
    refine z_cS1 (pc := 19) mX1_ringLength C [_, _] dX11_ringAt_19 lX11_262 mtX1_ringLength (tX1_ringLength (by first | assumption | omega) (by first | assumption | omega) (by first | assumption | omega) (by first | assumption | omega)) rfl rfl (by decide) (Nat.le_of_ble_eq_true rfl) (Nat.zero_le _) (Nat.zero_le _) ?_
    refine z_istore_n (pc := 22) (lv' := [(3, _), (0, _), (1, _), (2, _)]) C dX11_ringAt_22 (by decide) rfl ?_
    refine z_iload_n (pc := 23) C dX11_ringAt_23 3 rfl ?_
    refine z_if_lt (pc := 24) C 32 dX11_ringAt_24 (by decide) (fun hc24 => ?_) (fun hc24 => ?_)
    · skip
      have e5 : ∀ L, zlt i L = false := fun L => zlt_f1 hc24
      have e6 : aRAt R S (nI j) i = (-1, 1) := by
        unfold aRAt
        rw [hc5, pj]
        cases slen (sOwe R S) (R 3) j with
        | none => rfl
        | some L => show (if zlt i L = true then _ else _) = _; rw [e5]; rfl
      refine z_aload_n (pc := 32) C dX11_ringAt_32 1 rfl ?_
      refine z_iconst (pc := 33) C dX11_ringAt_33 (nI 1) (by decide) ?_
      refine z_cV1 (pc := 34) mX11_refuse C [_] dX11_ringAt_34 lX11_70 mtX11_refuse (tX11_refuse (by first | assumption | omega)) (by assumption) rfl rfl (by decide) (Nat.le_of_ble_eq_true rfl) (Nat.zero_le _) (Nat.zero_le _) ?_
      refine z_iret (pc := 37) C dX11_ringAt_37 rfl (Nat.zero_le _) (Nat.zero_le _) ⟨?_, ?_, rfl⟩
      · rw [e6]
      · rw [e6]; rfl
    · skip
      refine z_iload_n (pc := 27) C dX11_ringAt_27 3 rfl ?_
      refine z_iload_n (pc := 28) C dX11_ringAt_28 0 rfl ?_
      refine z_icmp_lt (pc := 29) C 38 dX11_ringAt_29 (by decide) (fun hc29 => ?_) (fun hc29 => ?_)
      · skip
        obtain ⟨L, e6⟩ : ∃ L, slen (sOwe R S) (R 3) j = some L := by
          cases e : slen (sOwe R S) (R 3) j with
          | some L => exact ⟨L, rfl⟩
          | none =>
            rw [e] at hc29
            exact absurd (Int32.lt_of_le_of_lt (Int32.not_lt.mp hc24) hc29) (by decide)
        obtain ⟨e8, e9⟩ := slen_le e6
        rw [e6] at hc29
        have e5 := zlt_t (hlt L e6) hc24 (Int32.not_le.mpr hc29)
        obtain ⟨q, hq, rfl⟩ := zlt_of (by omega) e5
        have pq := pn_nI (j := q) (by omega)
        refine z_aload_n (pc := 38) C dX11_ringAt_38 1 rfl ?_
        refine z_aload_n (pc := 39) C dX11_ringAt_39 1 rfl ?_
        refine z_getf (pc := 40) C dX11_ringAt_40 fX11_53 (by assumption) (by first | rfl | assumption) ?_
        refine z_iload_n (pc := 43) C dX11_ringAt_43 2 rfl ?_
        refine z_iload_n (pc := 44) C dX11_ringAt_44 3 rfl ?_
        refine z_iload_n (pc := 45) C dX11_ringAt_45 0 rfl ?_
        refine z_top (show zo (slen (sOwe R S) (R 3) j) = nI L from by rw [e6]; rfl) ?_
        refine z_cS1 (pc := 46) mX1_ringMember C [_, _, _, _] dX11_ringAt_46 lX11_265 mtX1_ringMember (tX1_ringMember hC hR hS hj hq (by omega)) rfl rfl (by decide) (Nat.le_of_ble_eq_true rfl) (Nat.zero_le _) (Nat.zero_le _) ?_
        refine z_cV1 (pc := 49) mX11_answer C [_] dX11_ringAt_49 lX11_108 mtX11_answer (tX11_answer (by first | assumption | omega)) (by assumption) rfl rfl (by decide) (Nat.le_of_ble_eq_true rfl) (Nat.zero_le _) (Nat.zero_le _) ?_
        refine z_iret (pc := 52) C dX11_ringAt_52 rfl (Nat.zero_le _) (Nat.zero_le _) ⟨?_, ?_, rfl⟩
        · simp [aRAt, *]
        · simp [aRAt, *] <;> rfl
      · skip
        have e6 : aRAt R S (nI j) i = (-1, 1) := by
          unfold aRAt
          rw [hc5, pj]
          cases e : slen (sOwe R S) (R 3) j with
          | none => rfl
          | some L => show (if zlt i L = true then _ else _) = _; rw [e] at hc29; rw [zlt_f2 (hlt L e) (Int32.not_lt.mp hc29)]; rfl
        refine z_aload_n (pc := 32) C dX11_ringAt_32 1 rfl ?_
        refine z_iconst (pc := 33) C dX11_ringAt_33 (nI 1) (by decide) ?_
        refine z_cV1 (pc := 34) mX11_refuse C [_] dX11_ringAt_34 lX11_70 mtX11_refuse (tX11_refuse (by first | assumption | omega)) (by assumption) rfl rfl (by decide) (Nat.le_of_ble_eq_true rfl) (Nat.zero_le _) (Nat.zero_le _) ?_
        refine z_iret (pc := 37) C dX11_ringAt_37 rfl (Nat.zero_le _) (Nat.zero_le _) ⟨?_, ?_, rfl⟩
        · rw [e6]
        · rw [e6]; rfl
  · skip
    refine z_aload_n (pc := 8) C dX11_ringAt_8 0 rfl ?_
    refine z_iconst (pc := 9) C dX11_ringAt_9 (nI 1) (by decide) ?_
    refine z_cV1 (pc := 10) mX11_refuse C [_] dX11_ringAt_10 lX11_70 mtX11_refuse (tX11_refuse (by first | assumption | omega)) (by assumption) rfl rfl (by decide) (Nat.le_of_ble_eq_true rfl) (Nat.zero_le _) (Nat.zero_le _) ?_
    refine z_iret (pc := 13) C dX11_ringAt_13 rfl (Nat.zero_le _) (Nat.zero_le _) ⟨?_, ?_, rfl⟩
    · simp [aRAt, *]
    · simp [aRAt, *] <;> rfl
