theorem Tld_up {h : ZH} {t a : Nat} {c : ZE} {R : Nat → Nat} (hT : Tld h t R) (ha : a < t ∨ t + 8 < a) : Tld (zup h a c) t R := by
  obtain ⟨fc, fh, fn, fk, fs, ff, fw, fe, t0, t1, t2, t3, t4, t5, t6, t7, t8, r⟩ := hT
  exact ⟨fc, fh, fn, fk, fs, ff, fw, fe, (zup_ne (by omega)).trans t0, (zup_ne (by omega)).trans t1, (zup_ne (by omega)).trans t2, (zup_ne (by omega)).trans t3, (zup_ne (by omega)).trans t4, (zup_ne (by omega)).trans t5, (zup_ne (by omega)).trans t6, (zup_ne (by omega)).trans t7, (zup_ne (by omega)).trans t8, r⟩
theorem Scn_up {h : ZH} {s le tr t a : Nat} {c : ZE} {R S : Nat → Nat} (hC : Scn h s le tr t R S) (h1 : a ≠ s) (h2 : a ≠ le) (h3 : a ≠ tr) (ha : a < t ∨ t + 8 < a) : Scn (zup h a c) s le tr t R S := by
  obtain ⟨hT, fl, ft, s0, s1, s2, r⟩ := hC
  exact ⟨Tld_up hT ha, fl, ft, (zup_ne (Ne.symm h1)).trans s0, (zup_ne (Ne.symm h2)).trans s1, (zup_ne (Ne.symm h3)).trans s2, r⟩
theorem sfs_zero (R F : Nat → Nat) (s : Nat) : ∀ n, sfs R F s n = 0 ↔ ∀ k, k < n → sfi R F s k 4 = 0 := by
  intro n
  induction n with
  | zero => exact ⟨fun _ k hk => by omega, fun _ => rfl⟩
  | succ n ih =>
    rw [sfs]
    constructor
    · intro h k hk
      by_cases e : k = n
      · subst e; omega
      · exact ih.mp (by omega) k (by omega)
    · intro h
      have h1 := ih.mpr (fun k hk => h k (by omega))
      have h2 := h n (by omega)
      omega
theorem sfs_one (R F : Nat → Nat) (s m : Nat) : ∀ n, m < n → (sfi R F s m 4 = sfs R F s n ↔ ∀ k, k < n → k ≠ m → sfi R F s k 4 = 0) := by
  intro n
  induction n with
  | zero => intro h; omega
  | succ n ih =>
    intro hm
    rw [sfs]
    by_cases e : m = n
    · subst e
      constructor
      · intro h k hk hk2
        exact (sfs_zero R F s m).mp (by omega) k (by omega)
      · intro h
        have := (sfs_zero R F s m).mpr (fun k hk => h k (by omega) (by omega))
        omega
    · have ih := ih (by omega)
      have hg := sfs_ge R F s m n (by omega)
      constructor
      · intro h k hk hk2
        by_cases q : k = n
        · subst q; omega
        · exact ih.mp (by omega) k (by omega) hk2
      · intro h
        have h1 := ih.mpr (fun k hk hk2 => h k (by omega) hk2)
        have h2 := h n (by omega) (fun z => e z.symm)
        omega
theorem sbits_one {P : Nat → Bool} {n m : Nat} (hm : m < n) : sbits P n = 1 <<< m ↔ P m = true ∧ ∀ k, k < n → k ≠ m → P k = false := by
  constructor
  · intro h
    have hb : ∀ k, (decide (k < n) && P k) = decide (m = k) := fun k => by rw [← sbits_tb, h, tb1]
    refine ⟨?_, fun k hk hk2 => ?_⟩
    · have := hb m; simpa [hm] using this
    · have := hb k; rw [decide_eq_true hk, decide_eq_false (fun z => hk2 z.symm)] at this; simpa using this
  · rintro ⟨h1, h2⟩
    apply Nat.eq_of_testBit_eq
    intro k
    rw [sbits_tb, tb1]
    by_cases e : m = k
    · subst e; simp [hm, h1]
    · by_cases q : k < n
      · rw [h2 k q (fun z => e z.symm)]; simp [e]
      · simp [q, e]
def sPs (R F : Nat → Nat) (s : Nat) : Nat → Bool := fun m => decide (0 < sfi R F s m 4) && decide (sfi R F s m 4 = sfs R F s (R 3))
theorem sPs_eq (R F : Nat → Nat) (s : Nat) {m : Nat} (hm : m < R 3) : sPs R F s m = true ↔ sbits (fun m => decide (0 < sfi R F s m 4)) (R 3) = 1 <<< m := by
  rw [sbits_one hm]
  unfold sPs
  simp only [Bool.and_eq_true, decide_eq_true_eq]
  rw [sfs_one R F s m _ hm]
  constructor
  · rintro ⟨h1, h2⟩
    exact ⟨h1, fun k hk hk2 => decide_eq_false (by have := h2 k hk hk2; omega)⟩
  · rintro ⟨h1, h2⟩
    exact ⟨h1, fun k hk hk2 => by have := of_decide_eq_false (h2 k hk hk2); omega⟩
theorem sspr_tb (R : Nat → Nat) (a op q : Nat) : ∀ n, (sspr R a op n).testBit q = true ↔ a.testBit q = true ∨ ∃ p, p < n ∧ a.testBit p = true ∧ (R (23 + p) &&& op).testBit q = true := by
  intro n
  induction n with
  | zero =>
    rw [sspr]
    constructor
    · exact Or.inl
    · rintro (h | ⟨p, hp, -⟩)
      · exact h
      · omega
  | succ n ih =>
    rw [sspr, Nat.testBit_or, Bool.or_eq_true, ih]
    constructor
    · rintro ((h | ⟨p, hp, h⟩) | h)
      · exact Or.inl h
      · exact Or.inr ⟨p, by omega, h⟩
      · by_cases e : a.testBit n = true
        · rw [if_pos e] at h; exact Or.inr ⟨n, by omega, e, h⟩
        · rw [if_neg e, Nat.zero_testBit] at h; cases h
    · rintro (h | ⟨p, hp, h1, h2⟩)
      · exact Or.inl (Or.inl h)
      · by_cases e : p = n
        · subst e; exact Or.inr (by rw [if_pos h1]; exact h2)
        · exact Or.inl (Or.inr ⟨p, by omega, h1, h2⟩)
def sSub (a b : Nat) : Prop := ∀ q, a.testBit q = true → b.testBit q = true
def sCls (R : Nat → Nat) (op a : Nat) : Prop := ∀ p, p < R 1 → a.testBit p = true → sSub (R (23 + p) &&& op) a
theorem srch_up (R : Nat → Nat) (op a : Nat) : ∀ f, sSub (srch R op f a) (srch R op (f + 1) a) := fun f q h => by
  rw [srch_s]
  exact (sspr_tb R _ op q _).mpr (Or.inl h)
theorem srch_mono (R : Nat → Nat) (op a i : Nat) : ∀ f, i ≤ f → sSub (srch R op i a) (srch R op f a) := by
  intro f
  induction f with
  | zero => intro h; rw [show i = 0 by omega]; exact fun _ h => h
  | succ f ih =>
    intro h
    by_cases e : i = f + 1
    · rw [e]; exact fun _ h => h
    · exact fun q hq => srch_up R op a f q (ih (by omega) q hq)
theorem sStp_rch (R : Nat → Nat) (p q op : Nat) : sStp R p q op = none ↔ (sRch R p op).testBit q = false := by
  unfold sStp sRch
  rw [sstp_none]
  constructor
  · intro h; exact h 7 (by decide)
  · intro h i hi
    cases e : (srch R op i (1 <<< p)).testBit q with
    | false => rfl
    | true => rw [srch_mono R op _ i 7 (by omega) q e] at h; cases h
theorem sSpr_sub {R : Nat → Nat} {op a b : Nat} (hc : sCls R op a) (hb : sSub b a) : sSub (sSpr R b op) a := by
  intro q h
  rcases (sspr_tb R b op q _).mp h with h | ⟨p, hp, h1, h2⟩
  · exact hb q h
  · exact hc p hp (hb p h1) q h2
theorem srch_sub {R : Nat → Nat} {op a : Nat} (hc : sCls R op a) : ∀ f b, sSub b a → sSub (srch R op f b) a := by
  intro f
  induction f with
  | zero => intro b hb; exact hb
  | succ f ih => intro b hb; exact ih _ (sSpr_sub hc hb)
theorem sCls_fix {R : Nat → Nat} {op a : Nat} (h : sSpr R a op = a) : sCls R op a := by
  intro p hp h1 q h2
  rw [← h]
  exact (sspr_tb R a op q _).mpr (Or.inr ⟨p, hp, h1, h2⟩)
theorem sCls_or {R : Nat → Nat} {op a b : Nat} (h1 : sCls R op a) (h2 : sCls R op b) : sCls R op (a ||| b) := by
  intro p hp h q hq
  rw [Nat.testBit_or, Bool.or_eq_true] at h ⊢
  rcases h with h | h
  · exact Or.inl (h1 p hp h q hq)
  · exact Or.inr (h2 p hp h q hq)
theorem sCls_prt {R : Nat → Nat} (hR : wfR R) : ∀ p, p ≤ 7 → sCls R 127 (sprt R p).2 := by
  intro p
  induction p with
  | zero => intro _ q _ h; rw [show (sprt R 0).2 = 0 from rfl, Nat.zero_testBit] at h; cases h
  | succ p ih =>
    intro hp
    refine sCls_or (ih (by omega)) ?_
    rw [← srch_67 hR 127 (by omega)]
    exact sCls_fix (srch_fix hR 127 (by omega))
theorem sprt_in {R : Nat → Nat} (hR : wfR R) {p : Nat} (hp : p < 7) (h : (sprt R p).2.testBit p = true) : sprt R (p + 1) = sprt R p := by
  have h1 : sSub (sRch R p 127) (sprt R p).2 := srch_sub (sCls_prt hR p (by omega)) 7 _ (fun q hq => by rw [tb1] at hq; have := of_decide_eq_true hq; subst this; exact h)
  rw [sprt, h]
  refine Prod.ext (Nat.add_zero _) ?_
  apply Nat.eq_of_testBit_eq
  intro q
  show ((sprt R p).2 ||| sRch R p 127).testBit q = _
  rw [Nat.testBit_or]
  cases e : (sRch R p 127).testBit q with
  | false => rw [Bool.or_false]
  | true => rw [h1 q e]; rfl
theorem sends : ∀ (a : Fin 128) (p q : Fin 7), (a.val &&& (1 <<< p.val ||| 1 <<< q.val) = 0) = (a.val.testBit p.val = false ∧ a.val.testBit q.val = false) := by
  have h : ∀ (a : Fin 128) (p q : Fin 7), decide (a.val &&& (1 <<< p.val ||| 1 <<< q.val) = 0) = decide (a.val.testBit p.val = false ∧ a.val.testBit q.val = false) := by decide +kernel
  intro a p q
  exact propext (decide_eq_decide.mp (h a p q))
theorem sone7 : ∀ a : Fin 128, sone a.val 8 ≤ 7 := by decide +kernel
theorem sone6 : ∀ a : Fin 64, sone a.val 8 ≤ 6 := by decide +kernel
def sfw (d : Nat) (t : Option Nat) : Nat := match t with
  | none => d
  | some x => sone x 8
theorem sfw_le {d : Nat} (hd : d ≤ 8) (t : Option Nat) : sfw d t ≤ 8 := by
  cases t with
  | none => exact hd
  | some x => exact sone_le x 8
theorem sfw_ct {t : Option Nat} {k : Nat} (hk : k < 128) : sfw 8 t ≤ sone k 8 ↔ sctb t k = true := by
  cases t with
  | none =>
    have := sone7 ⟨k, hk⟩
    show 8 ≤ sone k 8 ↔ false = true
    constructor
    · intro z; have : sone k 8 ≤ 7 := this; omega
    · intro z; cases z
  | some x => exact ⟨fun z => decide_eq_true z, fun z => of_decide_eq_true z⟩
theorem sOp_cut {R : Nat → Nat} (hR : wfR R) (x : Nat) : sOp R ((1 <<< R 1) - 1 &&& x) x := by
  intro p hp
  have h1 := sOp_all hR p hp
  have h2 : R (23 + p) &&& 127 = R (23 + p) := Nat.and_two_pow_sub_one_of_lt_two_pow (n := 7) (hR.2.2.2.2.2.1 p hp).2.1
  rw [← Nat.and_assoc, h1, h2]
theorem srch_cut {R : Nat → Nat} (hR : wfR R) {p q : Nat} (hp : p < 7) (x : Nat) : (srch R ((1 <<< R 1) - 1 &&& x) 6 (1 <<< p)).testBit q = false ↔ sStp R p q x = none := by
  rw [srch_congr (sOp_cut hR x), srch_67 hR x hp, sStp_rch]
theorem sStp_near {R : Nat → Nat} (hR : wfR R) {p q op : Nat} (hp : p < R 1) (hq : op.testBit q = true) (h : p = q ∨ (R (23 + p)).testBit q = true) : ¬ sStp R p q op = none := by
  rw [sStp_rch]
  intro z
  rcases h with h | h
  · have := srch_mono R op (1 <<< p) 0 7 (by omega) q (by show (1 <<< p).testBit q = true; rw [tb1]; exact decide_eq_true h)
    rw [show (sRch R p op).testBit q = true from this] at z; cases z
  · have := srch_mono R op (1 <<< p) 1 7 (by omega) q (by
      show (sSpr R (1 <<< p) op).testBit q = true
      refine (sspr_tb R _ op q _).mpr (Or.inr ⟨p, hp, by rw [tb1]; exact decide_eq_true rfl, ?_⟩)
      rw [Nat.testBit_and, h, hq]; rfl)
    rw [show (sRch R p op).testBit q = true from this] at z; cases z
theorem scut_none {R : Nat → Nat} (hR : wfR R) {p q : Nat} (hp : p < R 1) (hq : q < 7) (h : p = q ∨ (R (23 + p)).testBit q = true) : ∀ a, scut R p q a = none := by
  intro a
  induction a with
  | zero => rfl
  | succ a ih =>
    rw [scut_s, ih]
    by_cases e : a.testBit q = true
    · rw [if_pos (by rw [e]; simp)]
    · have e2 : a.testBit q = false := by simpa using e
      split
      · rfl
      · rw [if_neg (sStp_near hR hp (by rw [Nat.testBit_xor, e2, tb127, decide_eq_true hq]; rfl) h)]
def scl (R S : Nat → Nat) (c m : Nat) : Nat := sbits (fun k => match sDo R S m k with | some d => decide (d ≤ c) | none => false) (R 4)
theorem shas_cl {R S : Nat → Nat} {c : Nat} (hc : c < 1000000) (a m : Nat) : ∀ n, shas R S a c m n = true ↔ ∃ k, k < n ∧ a.testBit k = true ∧ (match sDo R S m k with | some d => decide (d ≤ c) | none => false) = true := by
  intro n
  induction n with
  | zero => exact ⟨fun h => (by cases h), fun ⟨k, hk, _⟩ => (by omega)⟩
  | succ n ih =>
    have hd : decide (sDis R S m n ≤ c) = (match sDo R S m n with | some d => decide (d ≤ c) | none => false) := by
      rw [sDis_o]
      cases sDo R S m n with
      | none => exact decide_eq_false (by show ¬ 1000000 ≤ c; omega)
      | some d => rfl
    rw [shas, Bool.or_eq_true, ih, hd, Bool.and_eq_true]
    constructor
    · rintro (⟨k, hk, h⟩ | h)
      · exact ⟨k, by omega, h⟩
      · exact ⟨n, by omega, h⟩
    · rintro ⟨k, hk, h⟩
      by_cases e : k = n
      · subst e; exact Or.inr h
      · exact Or.inl ⟨k, by omega, h⟩
theorem shas_and {R S : Nat → Nat} {c : Nat} (hc : c < 1000000) (a m : Nat) : shas R S a c m (R 4) = true ↔ ¬ scl R S c m &&& a = 0 := by
  rw [shas_cl hc]
  constructor
  · rintro ⟨k, hk, h1, h2⟩ z
    have := congrArg (fun x => x.testBit k) z
    simp only [Nat.testBit_and, Nat.zero_testBit, scl, sbits_tb, h1, decide_eq_true hk, Bool.true_and, Bool.and_true] at this
    rw [h2] at this; cases this
  · intro h
    obtain ⟨k, hk⟩ : ∃ k, (scl R S c m &&& a).testBit k = true := Nat.exists_testBit_of_ne_zero h
    rw [Nat.testBit_and, scl, sbits_tb] at hk
    simp only [Bool.and_eq_true, decide_eq_true_eq] at hk
    exact ⟨k, hk.1.1, hk.2, hk.1.2⟩
def sclo (R S : Nat → Nat) (c : Nat) (g : Nat → Nat) (n : Nat) : Nat → Nat := fun j => if j < n then scl R S c j else g j
theorem sclo_s (R S : Nat → Nat) (c : Nat) (g : Nat → Nat) (n : Nat) : nup (sclo R S c g n) n (scl R S c n) = sclo R S c g (n + 1) := by
  funext j
  by_cases e : j = n
  · subst e; simp [nup, sclo]
  · by_cases q : j < n
    · simp [nup, sclo, e, q, Nat.lt_succ_of_lt q]
    · have : ¬ j < n + 1 := by omega
      simp [nup, sclo, e, q, this]
theorem sclo_0 (R S : Nat → Nat) (c : Nat) (g : Nat → Nat) : sclo R S c g 0 = g := by funext j; simp [sclo]
def scmb (t : Option Nat) (a : Nat) : Bool := match t with
  | none => true
  | some b => decide (sone a 8 < sone b 8)
theorem scmp_s (R S : Nat → Nat) (st a : Nat) : scmp R S st (a + 1) = (if (scmb (scmp R S st a) a && scom R S a st (R 3)) = true then some a else scmp R S st a) := by rw [scmp]; rfl
theorem sfw_cm {t : Option Nat} {k : Nat} (hk : k < 64) : sone k 8 < sfw 7 t ↔ scmb t k = true := by
  cases t with
  | none =>
    have : sone k 8 ≤ 6 := sone6 ⟨k, hk⟩
    exact ⟨fun _ => rfl, fun _ => by show _ < 7; omega⟩
  | some x => exact ⟨fun z => decide_eq_true z, fun z => of_decide_eq_true z⟩
theorem smost_congr {L L' : Nat → Nat} : ∀ n, (∀ a b, a < n → b < n → (L a < L b ↔ L' a < L' b)) → smost L n = smost L' n := by
  intro n
  induction n with
  | zero => intro _; rfl
  | succ n ih =>
    intro h
    have e := ih (fun a b ha hb => h a b (by omega) (by omega))
    rw [smost, smost, ← e]
    cases hq : smost L n with
    | none => rfl
    | some b =>
      have hb := smost_lt L n b hq
      show (if L b < L n then some n else some b) = if L' b < L' n then some n else some b
      by_cases z : L b < L n
      · rw [if_pos z, if_pos ((h b n (by omega) (by omega)).mp z)]
      · rw [if_neg z, if_neg (fun y => z ((h b n (by omega) (by omega)).mpr y))]
theorem snea_7 {R S : Nat → Nat} (hR : wfR R) (hS : wfS R S) {m : Nat} (hm : m < R 3) : ∀ k, snea R S m k = if sn7 R S m k = 7 then 1000000 else sn7 R S m k := by
  intro k
  induction k with
  | zero => rfl
  | succ k ih =>
    have h7 := sn7_le R S m k
    rw [snea, sn7, sDis_o, ih]
    cases e : sDo R S m k with
    | none =>
      show min 1000000 _ = if sn7 R S m k = 7 then 1000000 else sn7 R S m k
      split <;> omega
    | some d =>
      have := sDo_lt hR hS hm e
      show min d _ = if min (sn7 R S m k) d = 7 then 1000000 else min (sn7 R S m k) d
      rw [if_neg (show ¬ min (sn7 R S m k) d = 7 by omega)]
      split <;> omega
theorem slon_eq {R S : Nat → Nat} (hR : wfR R) (hS : wfS R S) : smost (fun m => sn7 R S m (R 4)) (R 3) = smost (fun m => snea R S m (R 4)) (R 3) := by
  refine smost_congr _ (fun a b ha hb => ?_)
  show sn7 R S a (R 4) < sn7 R S b (R 4) ↔ snea R S a (R 4) < snea R S b (R 4)
  rw [snea_7 hR hS ha, snea_7 hR hS hb]
  have h1 := sn7_le R S a (R 4)
  have h2 := sn7_le R S b (R 4)
  split <;> split <;> omega
/-- Fibonacci, for the steps of Euclid -/
def sfb : Nat → Nat × Nat
  | 0 => (0, 1)
  | n + 1 => ((sfb n).2, (sfb n).1 + (sfb n).2)
def sEu (n x y : Nat) : Prop := y < x ∧ (x < (sfb (n + 2)).1 ∨ y < (sfb (n + 1)).1)
theorem sEu_0 {x y : Nat} (h : sEu 0 x y) : y = 0 := by
  obtain ⟨h1, h2⟩ := h
  rw [show (sfb 2).1 = 1 from rfl, show (sfb 1).1 = 1 from rfl] at h2
  omega
theorem sEu_s {n x y : Nat} (h : sEu (n + 1) x y) (hy : 0 < y) : sEu n y (x % y) := by
  obtain ⟨h1, h2⟩ := h
  refine ⟨Nat.mod_lt x hy, ?_⟩
  have e1 : (sfb (n + 2)).1 = (sfb (n + 1)).2 := rfl
  have e2 : (sfb (n + 3)).1 = (sfb (n + 1)).1 + (sfb (n + 1)).2 := rfl
  by_cases z : y < (sfb (n + 2)).1
  · exact Or.inl z
  · right
    have h3 : x % y ≤ x - y := by
      rw [Nat.mod_eq_sub_mod (by omega)]
      exact Nat.mod_le _ _
    have h2 : x < (sfb (n + 3)).1 ∨ y < (sfb (n + 2)).1 := h2
    omega
theorem sEu_99 {a b : Nat} (hb : 0 < b) (h : b < 1000000000000000000) : sEu 98 b (a % b) := by
  refine ⟨Nat.mod_lt a hb, Or.inl (Nat.lt_of_lt_of_le h ?_)⟩
  decide +kernel
theorem lc0 {y : Nat} (hy : y < 2 ^ 63) (h : 0 < y) : ¬ lg_cmp (lN y) 0 ≤ 0 := by
  unfold lg_cmp
  have h2 : (0 : Int64) < lN y := (pk_lLT (a := 0) (b := y) (Nat.two_pow_pos 63) hy).mpr h
  have h1 : ¬ lN y < 0 := fun z => by
    have := (pk_lLT (a := y) (b := 0) hy (Nat.two_pow_pos 63)).mp z
    omega
  simp [h1, h2]
theorem sz_cases {w : Int32} (h : w ≤ 0 ∨ nI 8 ≤ w) : w = nI 0 ∨ w = nI 8 ∨ w = nI 9 ∨ w = nI 10 ∨ w = nI 11 ∨ (w.toInt < 0 ∨ 11 < w.toInt) := by
  rw [Int32.le_iff_toInt_le, Int32.le_iff_toInt_le, nI_toInt (by omega), show (0 : Int32).toInt = 0 from rfl] at h
  have e : ∀ k : Nat, k < 100 → w.toInt = (k : Int) → w = nI k := fun k hk hw => Int32.toInt_inj.mp (by rw [hw, nI_toInt (by omega)])
  by_cases h0 : w.toInt = 0
  · exact Or.inl (e 0 (by decide) h0)
  · by_cases h8 : w.toInt = 8
    · exact Or.inr (Or.inl (e 8 (by decide) h8))
    · by_cases h9 : w.toInt = 9
      · exact Or.inr (Or.inr (Or.inl (e 9 (by decide) h9)))
      · by_cases h10 : w.toInt = 10
        · exact Or.inr (Or.inr (Or.inr (Or.inl (e 10 (by decide) h10))))
        · by_cases h11 : w.toInt = 11
          · exact Or.inr (Or.inr (Or.inr (Or.inr (Or.inl (e 11 (by decide) h11)))))
          · exact Or.inr (Or.inr (Or.inr (Or.inr (Or.inr (by omega)))))
theorem sz_out {R S : Nat → Nat} {w un ic ln : Int32} (h : w.toInt < 0 ∨ 11 < w.toInt) : aSize R S w un ic ln = -1 := by
  have e : ∀ k : Nat, k < 12 → w ≠ nI k := fun k hk hw => by rw [hw, nI_toInt (by omega)] at h; omega
  unfold aSize
  rw [show zlt w 8 = false from decide_eq_false (by omega), if_neg (e 8 (by decide)), if_neg (e 9 (by decide)), if_neg (e 10 (by decide)), if_neg (e 11 (by decide))]
  rfl

set_option maxRecDepth 20000 in
set_option maxHeartbeats 1000000 in
theorem tX6_onlyMan {h : ZH} {s le tr t : Nat} {R S : Nat → Nat} {g : Nat} (hC : Scn h s le tr t R S) (hR : wfR R) (hS : wfS R S) (hg : g < R 5) : ZD mX6_onlyMan 4 [.ref s, .int (nI g)] h (some (.int (zo (sfst (sPs R S g) (R 3) 0)))) h := by
  intro n
  obtain ⟨w1, w3, w4, w5, w0, wP, wM, wK, wX⟩ := id hR
  obtain ⟨wT, wL, wB⟩ := id hS
  obtain ⟨hT, fl, ft, s0, s1, s2, rl, rt⟩ := id hC
  obtain ⟨fc, fh, fn, fk, fs, ff, fw, fe, t0, t1, t2, t3, t4, t5, t6, t7, t8, rc, rh, rn, rk, rs, rf, rv, re⟩ := id hT
  have e0 := sbits_lt7 (fun m => decide (0 < sfi R S g m 4)) (k := R 3) (by omega)
  refine z_enter (lv := [(0, _), (1, _)]) (by decide) (Nat.le_of_ble_eq_true rfl) rfl (fun X C => ?_)
  refine z_aload_n (pc := 0) C dX6_onlyMan_0 0 rfl ?_
  refine z_iload_n (pc := 1) C dX6_onlyMan_1 1 rfl ?_
  refine z_cS1 (pc := 2) mX6_menOfFits C [_, _] dX6_onlyMan_2 lX6_34 mtX6_menOfFits (tX6_menOfFits (by first | assumption | omega) (by first | assumption | omega) (by first | assumption | omega) (by first | assumption | omega)) rfl rfl (by decide) (Nat.le_of_ble_eq_true rfl) (Nat.zero_le _) (Nat.zero_le _) ?_
  refine z_istore_n (pc := 5) (lv' := [(2, _), (0, _), (1, _)]) C dX6_onlyMan_5 (by decide) rfl ?_
  refine z_iconst (pc := 6) C dX6_onlyMan_6 (nI 0) (by decide) ?_
  refine z_istore_n (pc := 7) (lv' := [(3, _), (2, _), (0, _), (1, _)]) C dX6_onlyMan_7 (by decide) rfl ?_
  refine z_sub (lv' := [(0, _), (1, _), (2, _), (3, _)]) [2, 3, 1, 0] rfl ?_
  have lp8 : ∀ (f : Nat) (k : Nat), (k + f = R 3 ∧ sfst (sPs R S g) (R 3) 0 = sfst (sPs R S g) f k) → Zc X mX6_onlyMan (zEnd X (fun r hh n' => r = (some (.int (zo (sfst (sPs R S g) (R 3) 0)))) ∧ hh = h ∧ n' = n) 0 0) 8 [(0, .ref s), (1, .int (nI g)), (2, .int (nI (sbits (fun m => decide (0 < sfi R S g m 4)) (R 3)))), (3, .int (nI k))] [] h n 0 0 := by
    intro f
    induction f using Nat.strongRecOn with
    | _ f ih =>
      intro k hk
      obtain ⟨hk, he⟩ := hk
      refine z_iload_n (pc := 8) C dX6_onlyMan_8 3 rfl ?_
      refine z_aload_n (pc := 9) C dX6_onlyMan_9 0 rfl ?_
      refine z_getf (pc := 10) C dX6_onlyMan_10 fX6_15 (by assumption) (by first | rfl | assumption) ?_
      refine z_getf (pc := 13) C dX6_onlyMan_13 fX6_25 (by assumption) (by first | rfl | assumption) ?_
      refine z_iconst (pc := 16) C dX6_onlyMan_16 (nI 3) (by decide) ?_
      refine z_ialdE (pc := 17) C dX6_onlyMan_17 (by assumption) (by omega) (by decide) (rc 3 (by decide) (by decide)) ?_
      first | refine z_icmpgeN (pc := 18) C 36 dX6_onlyMan_18 (by decide) (by omega) (by omega) (fun hc18 => ?_) (fun hc18 => ?_) | refine z_icmp_ge (pc := 18) C 36 dX6_onlyMan_18 (by decide) (fun hc18 => ?_) (fun hc18 => ?_)
      · skip
        refine z_bipush (pc := 36) C dX6_onlyMan_36 (-2) (by decide) ?_
        refine z_iret (pc := 38) C dX6_onlyMan_38 rfl (Nat.zero_le _) (Nat.zero_le _) ⟨?_, ?_, rfl⟩
        · rw [he]; obtain rfl : f = 0 := (by omega); rfl
        · rfl
      · skip
        refine z_iload_n (pc := 21) C dX6_onlyMan_21 2 rfl ?_
        refine z_iconst (pc := 22) C dX6_onlyMan_22 (nI 1) (by decide) ?_
        refine z_iload_n (pc := 23) C dX6_onlyMan_23 3 rfl ?_
        first | refine z_ishlN (pc := 24) C dX6_onlyMan_24 (by omega) ?_ | refine z_ishl (pc := 24) C dX6_onlyMan_24 ?_
        have e1 := s1_lt (p := k) (by omega)
        first | refine z_icmpneN (pc := 25) C 30 dX6_onlyMan_25 (by decide) (by omega) (by omega) (fun hc25 => ?_) (fun hc25 => ?_) | refine z_icmp_ne (pc := 25) C 30 dX6_onlyMan_25 (by decide) (fun hc25 => ?_) (fun hc25 => ?_)
        · skip
          have e5 : sPs R S g k = false := by cases z : sPs R S g k with | false => rfl | true => exact absurd ((sPs_eq R S g (by omega)).mp z) hc25
          first | refine z_iincN (pc := 30) (lv' := [(3, _), (0, _), (1, _), (2, _)]) C 1 dX6_onlyMan_30 3 rfl (by decide) (by decide) rfl ?_ | refine z_iinc (pc := 30) (lv' := [(3, _), (0, _), (1, _), (2, _)]) C dX6_onlyMan_30 3 rfl _ rfl (by decide) rfl ?_
          refine z_goto (pc := 33) C 8 dX6_onlyMan_33 (by decide) ?_
          refine z_sub (lv' := [(0, _), (1, _), (2, _), (3, _)]) [1, 2, 3, 0] rfl ?_
          exact ih (f - 1) (by omega) (k + 1) ⟨by omega, by rw [he]; obtain ⟨f, rfl⟩ : ∃ g, f = g + 1 := ⟨f - 1, by omega⟩; rw [sfst, e5] <;> rfl⟩
        · skip
          have e5 : sPs R S g k = true := (sPs_eq R S g (by omega)).mpr hc25
          refine z_iload_n (pc := 28) C dX6_onlyMan_28 3 rfl ?_
          refine z_iret (pc := 29) C dX6_onlyMan_29 rfl (Nat.zero_le _) (Nat.zero_le _) ⟨?_, ?_, rfl⟩
          · rw [he]; obtain ⟨f, rfl⟩ : ∃ g, f = g + 1 := ⟨f - 1, by omega⟩; rw [sfst, e5] <;> rfl
          · rfl
  exact lp8 (R 3) 0 ⟨by omega, rfl⟩

set_option maxRecDepth 20000 in
set_option maxHeartbeats 1000000 in
theorem tX11_surely {h : ZH} {st : Nat} {ic tb fa pl : Int32} {sl sr t : Nat} {R S : Nat → Nat} {s : Int32} (hK : h 1000 = some (zO 7 (kfs st ic tb fa pl))) (hC : Scn h st sl sr t R S) (hR : wfR R) (hS : wfS R S) : ZD mX11_surely 5 [.ref 1000, .int s] h (some (.int (aSure R S s).1)) (zup h 1000 (zO 7 (kfs st ic (aSure R S s).2 fa pl))) := by
  intro n
  obtain ⟨w1, w3, w4, w5, w0, wP, wM, wK, wX⟩ := id hR
  obtain ⟨wT, wL, wB⟩ := id hS
  obtain ⟨hT, fl, ft, s0, s1, s2, rl, rt⟩ := id hC
  obtain ⟨fc, fh, fn, fk, fs, ff, fw, fe, t0, t1, t2, t3, t4, t5, t6, t7, t8, rc, rh, rn, rk, rs, rf, rv, re⟩ := id hT
  refine z_enter (lv := [(0, _), (1, _)]) (by decide) (Nat.le_of_ble_eq_true rfl) rfl (fun X C => ?_)
  refine z_aload_n (pc := 0) C dX11_surely_0 0 rfl ?_
  refine z_iload_n (pc := 1) C dX11_surely_1 1 rfl ?_
  refine z_cV1 (pc := 2) mX11_isStray C [_] dX11_surely_2 lX11_275 mtX11_isStray (tX11_isStray (by first | assumption | omega) (by first | assumption | omega) (by first | assumption | omega)) (by assumption) rfl rfl (by decide) (Nat.le_of_ble_eq_true rfl) (Nat.zero_le _) (Nat.zero_le _) ?_
  first | refine z_ifneB (pc := 5) C 14 dX11_surely_5 (by decide) (fun hc5 => ?_) (fun hc5 => ?_) | refine z_ifneN (pc := 5) C 14 dX11_surely_5 (by decide) (by omega) (fun hc5 => ?_) (fun hc5 => ?_) | refine z_if_ne (pc := 5) C 14 dX11_surely_5 (by decide) (fun hc5 => ?_) (fun hc5 => ?_)
  · skip
    obtain ⟨j, hj, rfl⟩ := zlt_of (by omega) hc5
    have pj := pn_nI (j := j) (by omega)
    refine z_aload_n (pc := 14) C dX11_surely_14 0 rfl ?_
    refine z_aload_n (pc := 15) C dX11_surely_15 0 rfl ?_
    refine z_getf (pc := 16) C dX11_surely_16 fX11_49 (by assumption) (by first | rfl | assumption) ?_
    refine z_iload_n (pc := 19) C dX11_surely_19 1 rfl ?_
    refine z_cS1 (pc := 20) mX6_onlyMan C [_, _] dX11_surely_20 lX11_290 mtX6_onlyMan (tX6_onlyMan (by first | assumption | omega) (by first | assumption | omega) (by first | assumption | omega) (by first | assumption | omega)) rfl rfl (by decide) (Nat.le_of_ble_eq_true rfl) (Nat.zero_le _) (Nat.zero_le _) ?_
    unfold sPs
    refine z_cV1 (pc := 23) mX11_answer C [_] dX11_surely_23 lX11_108 mtX11_answer (tX11_answer (by first | assumption | omega)) (by assumption) rfl rfl (by decide) (Nat.le_of_ble_eq_true rfl) (Nat.zero_le _) (Nat.zero_le _) ?_
    refine z_iret (pc := 26) C dX11_surely_26 rfl (Nat.zero_le _) (Nat.zero_le _) ⟨?_, ?_, rfl⟩
    · simp [aSure, aS, *]
    · simp [aSure, aS, *] <;> rfl
  · skip
    refine z_aload_n (pc := 8) C dX11_surely_8 0 rfl ?_
    refine z_iconst (pc := 9) C dX11_surely_9 (nI 1) (by decide) ?_
    refine z_cV1 (pc := 10) mX11_refuse C [_] dX11_surely_10 lX11_70 mtX11_refuse (tX11_refuse (by first | assumption | omega)) (by assumption) rfl rfl (by decide) (Nat.le_of_ble_eq_true rfl) (Nat.zero_le _) (Nat.zero_le _) ?_
    refine z_iret (pc := 13) C dX11_surely_13 rfl (Nat.zero_le _) (Nat.zero_le _) ⟨?_, ?_, rfl⟩
    · simp [aSure, aS, *]
    · simp [aSure, aS, *] <;> rfl

set_option maxRecDepth 20000 in
set_option maxHeartbeats 1000000 in
theorem tX6_soManieth {h : ZH} {s le tr t : Nat} {R S : Nat → Nat} {g : Nat} {i : Int32} (hC : Scn h s le tr t R S) (hR : wfR R) (hS : wfS R S) (hg : g < R 5) : ZD mX6_soManieth 2 [.ref s, .int (nI g), .int i] h (some (.int (match snth (sPf R S g) i (4 * R 3) with | some k => nI (10 * (k / 4) + k % 4) | none => -1))) h := by
  intro n
  obtain ⟨w1, w3, w4, w5, w0, wP, wM, wK, wX⟩ := id hR
  obtain ⟨wT, wL, wB⟩ := id hS
  obtain ⟨hT, fl, ft, s0, s1, s2, rl, rt⟩ := id hC
  obtain ⟨fc, fh, fn, fk, fs, ff, fw, fe, t0, t1, t2, t3, t4, t5, t6, t7, t8, rc, rh, rn, rk, rs, rf, rv, re⟩ := id hT
  have e0 := wX g hg
  refine z_enter (lv := [(0, _), (1, _), (2, _)]) (by decide) (Nat.le_of_ble_eq_true rfl) rfl (fun X C => ?_)
  refine z_iload_n (pc := 0) C dX6_soManieth_0 2 rfl ?_
  refine z_istore_n (pc := 1) (lv' := [(3, _), (0, _), (1, _), (2, _)]) C dX6_soManieth_1 (by decide) rfl ?_
  refine z_iconst (pc := 2) C dX6_soManieth_2 (nI 0) (by decide) ?_
  refine z_istore (pc := 3) (lv' := [(4, _), (3, _), (0, _), (1, _), (2, _)]) C dX6_soManieth_3 (by decide) rfl ?_
  refine z_sub (lv' := [(0, _), (1, _), (2, _), (3, _), (4, _)]) [2, 3, 4, 1, 0] rfl ?_
  have lp5 : ∀ (f : Nat) (k : Nat), (k + f = R 3 ∧ snth (sPf R S g) i (4 * k) = none) → Zc X mX6_soManieth (zEnd X (fun r hh n' => r = (some (.int (match snth (sPf R S g) i (4 * R 3) with | some k => nI (10 * (k / 4) + k % 4) | none => -1))) ∧ hh = h ∧ n' = n) 0 0) 5 [(0, .ref s), (1, .int (nI g)), (2, .int i), (3, .int (i - nI (scn (sPf R S g) (4 * k)))), (4, .int (nI k))] [] h n 0 0 := by
    intro f
    induction f using Nat.strongRecOn with
    | _ f ih =>
      intro k hk
      obtain ⟨hk, he⟩ := hk
      refine z_iload (pc := 5) C dX6_soManieth_5 4 rfl ?_
      refine z_aload_n (pc := 7) C dX6_soManieth_7 0 rfl ?_
      refine z_getf (pc := 8) C dX6_soManieth_8 fX6_15 (by assumption) (by first | rfl | assumption) ?_
      refine z_getf (pc := 11) C dX6_soManieth_11 fX6_25 (by assumption) (by first | rfl | assumption) ?_
      refine z_iconst (pc := 14) C dX6_soManieth_14 (nI 3) (by decide) ?_
      refine z_ialdE (pc := 15) C dX6_soManieth_15 (by assumption) (by omega) (by decide) (rc 3 (by decide) (by decide)) ?_
      first | refine z_icmpgeN (pc := 16) C 76 dX6_soManieth_16 (by decide) (by omega) (by omega) (fun hc16 => ?_) (fun hc16 => ?_) | refine z_icmp_ge (pc := 16) C 76 dX6_soManieth_16 (by decide) (fun hc16 => ?_) (fun hc16 => ?_)
      · skip
        refine z_iconst (pc := 76) C dX6_soManieth_76 (-1) (by decide) ?_
        refine z_iret (pc := 77) C dX6_soManieth_77 rfl (Nat.zero_le _) (Nat.zero_le _) ⟨?_, ?_, rfl⟩
        · obtain rfl : k = R 3 := (by omega); rw [he]
        · rfl
      · skip
        refine z_iconst (pc := 19) C dX6_soManieth_19 (nI 0) (by decide) ?_
        refine z_istore (pc := 20) (lv' := [(5, _), (0, _), (1, _), (2, _), (3, _), (4, _)]) C dX6_soManieth_20 (by decide) rfl ?_
        refine z_sub (lv' := [(0, _), (1, _), (2, _), (3, _), (4, _), (5, _)]) [1, 2, 3, 4, 5, 0] rfl ?_
        have lp22 : ∀ (f2 : Nat) (q : Nat), (q + f2 = 4 ∧ snth (sPf R S g) i (4 * k + q) = none) → Zc X mX6_soManieth (zEnd X (fun r hh n' => r = (some (.int (match snth (sPf R S g) i (4 * R 3) with | some k => nI (10 * (k / 4) + k % 4) | none => -1))) ∧ hh = h ∧ n' = n) 0 0) 22 [(0, .ref s), (1, .int (nI g)), (2, .int i), (3, .int (i - nI (scn (sPf R S g) (4 * k + q)))), (4, .int (nI k)), (5, .int (nI q))] [] h n 0 0 := by
          intro f2
          induction f2 using Nat.strongRecOn with
          | _ f2 ih2 =>
            intro q hk2
            obtain ⟨hk2, he2⟩ := hk2
            refine z_iload (pc := 22) C dX6_soManieth_22 5 rfl ?_
            refine z_iconst (pc := 24) C dX6_soManieth_24 (nI 3) (by decide) ?_
            first | refine z_icmpgtN (pc := 25) C 70 dX6_soManieth_25 (by decide) (by omega) (by omega) (fun hc25 => ?_) (fun hc25 => ?_) | refine z_icmp_gt (pc := 25) C 70 dX6_soManieth_25 (by decide) (fun hc25 => ?_) (fun hc25 => ?_)
            · skip
              first | refine z_iincN (pc := 70) (lv' := [(4, _), (0, _), (1, _), (2, _), (3, _), (5, _)]) C 1 dX6_soManieth_70 4 rfl (by decide) (by decide) rfl ?_ | refine z_iinc (pc := 70) (lv' := [(4, _), (0, _), (1, _), (2, _), (3, _), (5, _)]) C dX6_soManieth_70 4 rfl _ rfl (by decide) rfl ?_
              refine z_goto (pc := 73) C 5 dX6_soManieth_73 (by decide) ?_
              refine z_sub (lv' := [(0, _), (1, _), (2, _), (3, _), (4, _)]) [1, 2, 3, 4, 0] rfl ?_
              (obtain rfl : q = 4 := (by omega); exact ih (f - 1) (by omega) (k + 1) ⟨by omega, he2⟩)
            · skip
              refine z_aload_n (pc := 28) C dX6_soManieth_28 0 rfl ?_
              refine z_iload (pc := 29) C dX6_soManieth_29 4 rfl ?_
              refine z_iload (pc := 31) C dX6_soManieth_31 5 rfl ?_
              refine z_cV1 (pc := 33) mX5_standBehind C [_, _] dX6_soManieth_33 lX6_9 mtX5_standBehind (tX5_standBehind hC hR hS (by omega) (by omega)) (by assumption) rfl rfl (by decide) (Nat.le_of_ble_eq_true rfl) (Nat.zero_le _) (Nat.zero_le _) ?_
              refine z_aload_n (pc := 36) C dX6_soManieth_36 0 rfl ?_
              refine z_getf (pc := 37) C dX6_soManieth_37 fX6_15 (by assumption) (by first | rfl | assumption) ?_
              refine z_getf (pc := 40) C dX6_soManieth_40 fX6_19 (by assumption) (by first | rfl | assumption) ?_
              refine z_iload_n (pc := 43) C dX6_soManieth_43 1 rfl ?_
              refine z_ialdE (pc := 44) C dX6_soManieth_44 (by assumption) (by omega) (by decide) (re g hg) ?_
              have e2 : ∀ w, sdark S k (8 - sbeh R k q) (sbeh R k q) = some w → w < 2147483648 := fun w hq => by have := sdark_lt (fun j hj => wT k (by omega) j hj) _ _ _ (by have := sbeh_le R (m := k) (far := q) (by omega); omega) hq; omega
              refine z_icmp_ne (pc := 45) C 64 dX6_soManieth_45 (by decide) (fun hc45 => ?_) (fun hc45 => ?_)
              · skip
                have e6 : (sPf R S g) (4 * k + q) = false := by unfold sPf; rw [show (4 * k + q) / 4 = k by omega, show (4 * k + q) % 4 = q by omega]; exact decide_eq_false (fun z => hc45 ((zo_eq (by omega) e2).mpr z))
                have e4 : i - nI (scn (sPf R S g) (4 * k + q)) = i - nI (scn (sPf R S g) (4 * k + (q + 1))) := by rw [← Nat.add_assoc, scn_f e6]
                have e5 := snth_no1 he2 e6
                first | refine z_iincN (pc := 64) (lv' := [(5, _), (0, _), (1, _), (2, _), (3, _), (4, _)]) C 1 dX6_soManieth_64 5 rfl (by decide) (by decide) rfl ?_ | refine z_iinc (pc := 64) (lv' := [(5, _), (0, _), (1, _), (2, _), (3, _), (4, _)]) C dX6_soManieth_64 5 rfl _ rfl (by decide) rfl ?_
                refine z_goto (pc := 67) C 22 dX6_soManieth_67 (by decide) ?_
                refine z_sub (lv' := [(0, _), (1, _), (2, _), (3, _), (4, _), (5, _)]) [1, 2, 3, 4, 5, 0] rfl ?_
                (rw [e4]; exact ih2 (f2 - 1) (by omega) (q + 1) ⟨by omega, e5⟩)
              · skip
                have e6 : (sPf R S g) (4 * k + q) = true := by unfold sPf; rw [show (4 * k + q) / 4 = k by omega, show (4 * k + q) % 4 = q by omega]; exact decide_eq_true ((zo_eq (by omega) e2).mp hc45)
                refine z_iload_n (pc := 48) C dX6_soManieth_48 3 rfl ?_
                refine z_if_ne (pc := 49) C 61 dX6_soManieth_49 (by decide) (fun hc49 => ?_) (fun hc49 => ?_)
                · skip
                  have e4 : i - nI (scn (sPf R S g) (4 * k + q)) + Int32.ofInt (-1) = i - nI (scn (sPf R S g) (4 * k + (q + 1))) := by rw [← Nat.add_assoc, scn_t e6, ← nI_add, show Int32.ofInt (-1) = - nI 1 from rfl]; simp only [Int32.sub_eq_add_neg, Int32.neg_add, Int32.add_assoc]
                  have e5 := snth_no2 he2 (fun z => hc49 (by rw [z, Int32.sub_self]))
                  refine z_iinc (pc := 61) (lv' := [(3, _), (0, _), (1, _), (2, _), (4, _), (5, _)]) C dX6_soManieth_61 3 rfl _ rfl (by decide) rfl ?_
                  first | refine z_iincN (pc := 64) (lv' := [(5, _), (3, _), (0, _), (1, _), (2, _), (4, _)]) C 1 dX6_soManieth_64 5 rfl (by decide) (by decide) rfl ?_ | refine z_iinc (pc := 64) (lv' := [(5, _), (3, _), (0, _), (1, _), (2, _), (4, _)]) C dX6_soManieth_64 5 rfl _ rfl (by decide) rfl ?_
                  refine z_goto (pc := 67) C 22 dX6_soManieth_67 (by decide) ?_
                  refine z_sub (lv' := [(0, _), (1, _), (2, _), (3, _), (4, _), (5, _)]) [2, 3, 4, 1, 5, 0] rfl ?_
                  (rw [e4]; exact ih2 (f2 - 1) (by omega) (q + 1) ⟨by omega, e5⟩)
                · skip
                  have e7 : nI (scn (sPf R S g) (4 * k + q)) = i := (Int32.sub_eq_iff_eq_add.mp hc49).symm ▸ (by simp)
                  have e5 := snth_hit he2 e6 e7 (4 * R 3) (by omega)
                  refine z_bipush (pc := 52) C dX6_soManieth_52 (nI 10) (by decide) ?_
                  refine z_iload (pc := 54) C dX6_soManieth_54 4 rfl ?_
                  first | refine z_imulN (pc := 56) C dX6_soManieth_56 ?_ | refine z_imul (pc := 56) C dX6_soManieth_56 ?_
                  refine z_iload (pc := 57) C dX6_soManieth_57 5 rfl ?_
                  first | refine z_iaddN (pc := 59) C dX6_soManieth_59 ?_ | refine z_iadd (pc := 59) C dX6_soManieth_59 ?_
                  refine z_iret (pc := 60) C dX6_soManieth_60 rfl (Nat.zero_le _) (Nat.zero_le _) ⟨?_, ?_, rfl⟩
                  · rw [e5]; show some (Value.int (nI (10 * k + q))) = some (Value.int (nI (10 * ((4 * k + q) / 4) + (4 * k + q) % 4))); rw [show (4 * k + q) / 4 = k by omega, show (4 * k + q) % 4 = q by omega]
                  · rfl
        exact lp22 4 0 ⟨by omega, he⟩
  (refine z_sub (lv' := [(0, _), (1, _), (2, _), (3, .int (i - nI 0)), (4, _)]) [0, 1, 2, 3, 4] (by rw [show i - nI 0 = i from Int32.sub_zero i]; rfl) ?_; exact lp5 (R 3) 0 ⟨by omega, rfl⟩)

set_option maxRecDepth 20000 in
set_option maxHeartbeats 1000000 in
theorem tX11_fitAt {h : ZH} {st : Nat} {ic tb fa pl : Int32} {sl sr t : Nat} {R S : Nat → Nat} {s i : Int32} (hK : h 1000 = some (zO 7 (kfs st ic tb fa pl))) (hC : Scn h st sl sr t R S) (hR : wfR R) (hS : wfS R S) : ZD mX11_fitAt 4 [.ref 1000, .int s, .int i] h (some (.int (aFitAt R S s i).1)) (zup h 1000 (zO 7 (kfs st ic (aFitAt R S s i).2 fa pl))) := by
  intro n
  obtain ⟨w1, w3, w4, w5, w0, wP, wM, wK, wX⟩ := id hR
  obtain ⟨wT, wL, wB⟩ := id hS
  obtain ⟨hT, fl, ft, s0, s1, s2, rl, rt⟩ := id hC
  obtain ⟨fc, fh, fn, fk, fs, ff, fw, fe, t0, t1, t2, t3, t4, t5, t6, t7, t8, rc, rh, rn, rk, rs, rf, rv, re⟩ := id hT
  refine z_enter (lv := [(0, _), (1, _), (2, _)]) (by decide) (Nat.le_of_ble_eq_true rfl) rfl (fun X C => ?_)
  refine z_aload_n (pc := 0) C dX11_fitAt_0 0 rfl ?_
  refine z_iload_n (pc := 1) C dX11_fitAt_1 1 rfl ?_
  refine z_cV1 (pc := 2) mX11_isStray C [_] dX11_fitAt_2 lX11_275 mtX11_isStray (tX11_isStray (by first | assumption | omega) (by first | assumption | omega) (by first | assumption | omega)) (by assumption) rfl rfl (by decide) (Nat.le_of_ble_eq_true rfl) (Nat.zero_le _) (Nat.zero_le _) ?_
  first | refine z_ifeqB (pc := 5) C 24 dX11_fitAt_5 (by decide) (fun hc5 => ?_) (fun hc5 => ?_) | refine z_ifeqN (pc := 5) C 24 dX11_fitAt_5 (by decide) (by omega) (fun hc5 => ?_) (fun hc5 => ?_) | refine z_if_eq (pc := 5) C 24 dX11_fitAt_5 (by decide) (fun hc5 => ?_) (fun hc5 => ?_)
  · skip
    refine z_aload_n (pc := 24) C dX11_fitAt_24 0 rfl ?_
    refine z_iconst (pc := 25) C dX11_fitAt_25 (nI 1) (by decide) ?_
    refine z_cV1 (pc := 26) mX11_refuse C [_] dX11_fitAt_26 lX11_70 mtX11_refuse (tX11_refuse (by first | assumption | omega)) (by assumption) rfl rfl (by decide) (Nat.le_of_ble_eq_true rfl) (Nat.zero_le _) (Nat.zero_le _) ?_
    refine z_iret (pc := 29) C dX11_fitAt_29 rfl (Nat.zero_le _) (Nat.zero_le _) ⟨?_, ?_, rfl⟩
    · simp [aFitAt, *]
    · simp [aFitAt, *] <;> rfl
  · skip
    obtain ⟨j, hj, rfl⟩ := zlt_of (by omega) hc5
    have pj := pn_nI (j := j) (by omega)
    have e1 := scn_fit R S j (R 3)
    have e2 := snth_some (P := sPf R S j) (i := i) (4 * R 3) (by omega)
    have e3 := sfs_le R S j (R 3)
    refine z_iload_n (pc := 8) C dX11_fitAt_8 2 rfl ?_
    refine z_if_lt (pc := 9) C 24 dX11_fitAt_9 (by decide) (fun hc9 => ?_) (fun hc9 => ?_)
    · skip
      have e5 : snth (sPf R S j) i (4 * R 3) = none := by cases z : snth (sPf R S j) i (4 * R 3) with | none => rfl | some y => rw [z, zlt_f1 hc9] at e2; cases e2
      refine z_aload_n (pc := 24) C dX11_fitAt_24 0 rfl ?_
      refine z_iconst (pc := 25) C dX11_fitAt_25 (nI 1) (by decide) ?_
      refine z_cV1 (pc := 26) mX11_refuse C [_] dX11_fitAt_26 lX11_70 mtX11_refuse (tX11_refuse (by first | assumption | omega)) (by assumption) rfl rfl (by decide) (Nat.le_of_ble_eq_true rfl) (Nat.zero_le _) (Nat.zero_le _) ?_
      refine z_iret (pc := 29) C dX11_fitAt_29 rfl (Nat.zero_le _) (Nat.zero_le _) ⟨?_, ?_, rfl⟩
      · simp [aFitAt, *]
      · simp [aFitAt, *] <;> rfl
    · skip
      refine z_iload_n (pc := 12) C dX11_fitAt_12 2 rfl ?_
      refine z_aload_n (pc := 13) C dX11_fitAt_13 0 rfl ?_
      refine z_getf (pc := 14) C dX11_fitAt_14 fX11_49 (by assumption) (by first | rfl | assumption) ?_
      refine z_iload_n (pc := 17) C dX11_fitAt_17 1 rfl ?_
      refine z_cS1 (pc := 18) mX6_countAll C [_, _] dX11_fitAt_18 lX11_278 mtX6_countAll (tX6_countAll (by first | assumption | omega) (by first | assumption | omega) (by first | assumption | omega) (by first | assumption | omega)) rfl rfl (by decide) (Nat.le_of_ble_eq_true rfl) (Nat.zero_le _) (Nat.zero_le _) ?_
      refine z_icmp_lt (pc := 21) C 30 dX11_fitAt_21 (by decide) (fun hc21 => ?_) (fun hc21 => ?_)
      · skip
        obtain ⟨y, e5⟩ : ∃ y, snth (sPf R S j) i (4 * R 3) = some y := by
          rw [e1, zlt_t (by omega) hc9 (Int32.not_le.mpr hc21)] at e2
          cases z : snth (sPf R S j) i (4 * R 3) with
          | none => rw [z] at e2; cases e2
          | some y => exact ⟨y, rfl⟩
        refine z_aload_n (pc := 30) C dX11_fitAt_30 0 rfl ?_
        refine z_aload_n (pc := 31) C dX11_fitAt_31 0 rfl ?_
        refine z_getf (pc := 32) C dX11_fitAt_32 fX11_49 (by assumption) (by first | rfl | assumption) ?_
        refine z_iload_n (pc := 35) C dX11_fitAt_35 1 rfl ?_
        refine z_iload_n (pc := 36) C dX11_fitAt_36 2 rfl ?_
        refine z_cS1 (pc := 37) mX6_soManieth C [_, _, _] dX11_fitAt_37 lX11_283 mtX6_soManieth (tX6_soManieth (by first | assumption | omega) (by first | assumption | omega) (by first | assumption | omega) (by first | assumption | omega)) rfl rfl (by decide) (Nat.le_of_ble_eq_true rfl) (Nat.zero_le _) (Nat.zero_le _) ?_
        refine z_cV1 (pc := 40) mX11_answer C [_] dX11_fitAt_40 lX11_108 mtX11_answer (tX11_answer (by first | assumption | omega)) (by assumption) rfl rfl (by decide) (Nat.le_of_ble_eq_true rfl) (Nat.zero_le _) (Nat.zero_le _) ?_
        refine z_iret (pc := 43) C dX11_fitAt_43 rfl (Nat.zero_le _) (Nat.zero_le _) ⟨?_, ?_, rfl⟩
        · simp [aFitAt, *]
        · simp [aFitAt, *] <;> rfl
      · skip
        have e5 : snth (sPf R S j) i (4 * R 3) = none := by cases z : snth (sPf R S j) i (4 * R 3) with | none => rfl | some y => rw [z, e1, zlt_f2 (by omega) (Int32.not_lt.mp hc21)] at e2; cases e2
        refine z_aload_n (pc := 24) C dX11_fitAt_24 0 rfl ?_
        refine z_iconst (pc := 25) C dX11_fitAt_25 (nI 1) (by decide) ?_
        refine z_cV1 (pc := 26) mX11_refuse C [_] dX11_fitAt_26 lX11_70 mtX11_refuse (tX11_refuse (by first | assumption | omega)) (by assumption) rfl rfl (by decide) (Nat.le_of_ble_eq_true rfl) (Nat.zero_le _) (Nat.zero_le _) ?_
        refine z_iret (pc := 29) C dX11_fitAt_29 rfl (Nat.zero_le _) (Nat.zero_le _) ⟨?_, ?_, rfl⟩
        · simp [aFitAt, *]
        · simp [aFitAt, *] <;> rfl

set_option maxRecDepth 20000 in
set_option maxHeartbeats 1000000 in
theorem tX5_soManiethNowhere {h : ZH} {s le tr t : Nat} {R S : Nat → Nat} {i : Int32} (hC : Scn h s le tr t R S) (hR : wfR R) (hS : wfS R S) : ZD mX5_soManiethNowhere 3 [.ref s, .int i] h (some (.int (zo (aLed R S i)))) h := by
  intro n
  obtain ⟨w1, w3, w4, w5, w0, wP, wM, wK, wX⟩ := id hR
  obtain ⟨wT, wL, wB⟩ := id hS
  obtain ⟨hT, fl, ft, s0, s1, s2, rl, rt⟩ := id hC
  obtain ⟨fc, fh, fn, fk, fs, ff, fw, fe, t0, t1, t2, t3, t4, t5, t6, t7, t8, rc, rh, rn, rk, rs, rf, rv, re⟩ := id hT
  refine z_enter (lv := [(0, _), (1, _)]) (by decide) (Nat.le_of_ble_eq_true rfl) rfl (fun X C => ?_)
  refine z_iload_n (pc := 0) C dX5_soManiethNowhere_0 1 rfl ?_
  refine z_istore_n (pc := 1) (lv' := [(2, _), (0, _), (1, _)]) C dX5_soManiethNowhere_1 (by decide) rfl ?_
  refine z_iconst (pc := 2) C dX5_soManiethNowhere_2 (nI 0) (by decide) ?_
  refine z_istore_n (pc := 3) (lv' := [(3, _), (2, _), (0, _), (1, _)]) C dX5_soManiethNowhere_3 (by decide) rfl ?_
  refine z_sub (lv' := [(0, _), (1, _), (2, _), (3, _)]) [2, 3, 1, 0] rfl ?_
  have lp4 : ∀ (f : Nat) (k : Nat), (k + f = R 4 ∧ snth (sNo R S) i k = none) → Zc X mX5_soManiethNowhere (zEnd X (fun r hh n' => r = (some (.int (zo (aLed R S i)))) ∧ hh = h ∧ n' = n) 0 0) 4 [(0, .ref s), (1, .int i), (2, .int (i - nI (scn (sNo R S) k))), (3, .int (nI k))] [] h n 0 0 := by
    intro f
    induction f using Nat.strongRecOn with
    | _ f ih =>
      intro k hk
      obtain ⟨hk, he⟩ := hk
      refine z_iload_n (pc := 4) C dX5_soManiethNowhere_4 3 rfl ?_
      refine z_aload_n (pc := 5) C dX5_soManiethNowhere_5 0 rfl ?_
      refine z_getf (pc := 6) C dX5_soManiethNowhere_6 fX5_18 (by assumption) (by first | rfl | assumption) ?_
      refine z_getf (pc := 9) C dX5_soManiethNowhere_9 fX5_64 (by assumption) (by first | rfl | assumption) ?_
      refine z_iconst (pc := 12) C dX5_soManiethNowhere_12 (nI 4) (by decide) ?_
      refine z_ialdE (pc := 13) C dX5_soManiethNowhere_13 (by assumption) (by omega) (by decide) (rc 4 (by decide) (by decide)) ?_
      first | refine z_icmpgeN (pc := 14) C 42 dX5_soManiethNowhere_14 (by decide) (by omega) (by omega) (fun hc14 => ?_) (fun hc14 => ?_) | refine z_icmp_ge (pc := 14) C 42 dX5_soManiethNowhere_14 (by decide) (fun hc14 => ?_) (fun hc14 => ?_)
      · skip
        refine z_bipush (pc := 42) C dX5_soManiethNowhere_42 (-2) (by decide) ?_
        refine z_iret (pc := 44) C dX5_soManiethNowhere_44 rfl (Nat.zero_le _) (Nat.zero_le _) ⟨?_, ?_, rfl⟩
        · rw [show aLed R S i = none from by obtain rfl : k = R 4 := (by omega); exact he]; rfl
        · rfl
      · skip
        refine z_aload_n (pc := 17) C dX5_soManiethNowhere_17 0 rfl ?_
        refine z_iload_n (pc := 18) C dX5_soManiethNowhere_18 3 rfl ?_
        refine z_cV1 (pc := 19) mX5_standOf C [_] dX5_soManiethNowhere_19 lX5_67 mtX5_standOf (tX5_standOf hC hR hS (by omega)) (by assumption) rfl rfl (by decide) (Nat.le_of_ble_eq_true rfl) (Nat.zero_le _) (Nat.zero_le _) ?_
        refine z_bipush (pc := 22) C dX5_soManiethNowhere_22 (zo none) (by decide) ?_
        have e1 : ∀ q, sstd R S k = some q → q < 2147483648 := fun q hq => by have := sstd_lt hR hS (by omega) hq; omega
        refine z_icmp_ne (pc := 24) C 36 dX5_soManiethNowhere_24 (by decide) (fun hc24 => ?_) (fun hc24 => ?_)
        · skip
          have e6 : sNo R S k = false := decide_eq_false (fun z => hc24 (by rw [z]))
          have e4 : i - nI (scn (sNo R S) k) = i - nI (scn (sNo R S) (k + 1)) := by rw [scn_f e6]
          have e5 := snth_no1 he e6
          first | refine z_iincN (pc := 36) (lv' := [(3, _), (0, _), (1, _), (2, _)]) C 1 dX5_soManiethNowhere_36 3 rfl (by decide) (by decide) rfl ?_ | refine z_iinc (pc := 36) (lv' := [(3, _), (0, _), (1, _), (2, _)]) C dX5_soManiethNowhere_36 3 rfl _ rfl (by decide) rfl ?_
          refine z_goto (pc := 39) C 4 dX5_soManiethNowhere_39 (by decide) ?_
          refine z_sub (lv' := [(0, _), (1, _), (2, _), (3, _)]) [1, 2, 3, 0] rfl ?_
          (rw [e4]; exact ih (f - 1) (by omega) (k + 1) ⟨by omega, e5⟩)
        · skip
          have e6 : sNo R S k = true := decide_eq_true (by
            cases z : sstd R S k with
            | none => rfl
            | some q =>
              rw [z] at hc24
              exact absurd ((zo_eq (o := none) (p := q) (e1 q z) (fun _ y => by cases y)).mp hc24.symm) (by simp))
          refine z_iload_n (pc := 27) C dX5_soManiethNowhere_27 2 rfl ?_
          refine z_if_ne (pc := 28) C 33 dX5_soManiethNowhere_28 (by decide) (fun hc28 => ?_) (fun hc28 => ?_)
          · skip
            have e4 : i - nI (scn (sNo R S) k) + Int32.ofInt (-1) = i - nI (scn (sNo R S) (k + 1)) := by rw [scn_t e6, ← nI_add, show Int32.ofInt (-1) = - nI 1 from rfl]; simp only [Int32.sub_eq_add_neg, Int32.neg_add, Int32.add_assoc]
            have e5 := snth_no2 he (fun z => hc28 (by rw [z, Int32.sub_self]))
            refine z_iinc (pc := 33) (lv' := [(2, _), (0, _), (1, _), (3, _)]) C dX5_soManiethNowhere_33 2 rfl _ rfl (by decide) rfl ?_
            first | refine z_iincN (pc := 36) (lv' := [(3, _), (2, _), (0, _), (1, _)]) C 1 dX5_soManiethNowhere_36 3 rfl (by decide) (by decide) rfl ?_ | refine z_iinc (pc := 36) (lv' := [(3, _), (2, _), (0, _), (1, _)]) C dX5_soManiethNowhere_36 3 rfl _ rfl (by decide) rfl ?_
            refine z_goto (pc := 39) C 4 dX5_soManiethNowhere_39 (by decide) ?_
            refine z_sub (lv' := [(0, _), (1, _), (2, _), (3, _)]) [2, 3, 1, 0] rfl ?_
            (rw [e4]; exact ih (f - 1) (by omega) (k + 1) ⟨by omega, e5⟩)
          · skip
            have e7 : nI (scn (sNo R S) k) = i := (Int32.sub_eq_iff_eq_add.mp hc28).symm ▸ (by simp)
            have e5 : aLed R S i = some k := snth_hit he e6 e7 (R 4) (by omega)
            refine z_iload_n (pc := 31) C dX5_soManiethNowhere_31 3 rfl ?_
            refine z_iret (pc := 32) C dX5_soManiethNowhere_32 rfl (Nat.zero_le _) (Nat.zero_le _) ⟨?_, ?_, rfl⟩
            · rw [e5]; rfl
            · rfl
  (refine z_sub (lv' := [(0, _), (1, _), (2, .int (i - nI 0)), (3, _)]) [0, 1, 2, 3] (by rw [show i - nI 0 = i from Int32.sub_zero i]; rfl) ?_; exact lp4 (R 4) 0 ⟨by omega, rfl⟩)

set_option maxRecDepth 20000 in
set_option maxHeartbeats 1000000 in
theorem tX11_size {h : ZH} {st : Nat} {ic tb fa pl : Int32} {t : Nat} {R S : Nat → Nat} {w un x1 ln x2 x3 x4 x6 x7 y1 y2 y6 : Int32} {x5 : Int64} {y7 : Nat} (hK : h 1000 = some (zO 7 (kfs st ic tb fa pl))) (hC : Scn h 1051 1052 1053 t R S) (hP : h 1034 = some (zO 1 [.int un, .ref 1035, .ref 1036, .ref 1037, .int x1])) (hQ : h 1001 = some (zO 2 [.ref 1002, .int y1, .int y2, .ref 1004, .ref 1005, .ref 1006, .int y6, .ref y7])) (hU : h 1002 = some (zO 4 [.int ln, .int x2, .int x3, .int x4, .long x5, .ref 1003, .int x6, .int x7])) : ZD mX11_size 0 [.ref 1000, .int w] h (some (.int (aSize R S w un ic ln))) h := by
  intro n
  obtain ⟨hT, fl, ft, s0, s1, s2, rl, rt⟩ := id hC
  obtain ⟨fc, fh, fn, fk, fs, ff, fw, fe, t0, t1, t2, t3, t4, t5, t6, t7, t8, rc, rh, rn, rk, rs, rf, rv, re⟩ := id hT
  refine z_enter (lv := [(0, _), (1, _)]) (by decide) (Nat.le_of_ble_eq_true rfl) rfl (fun X C => ?_)
  refine z_iload_n (pc := 0) C dX11_size_0 1 rfl ?_
  refine z_if_le (pc := 1) C 23 dX11_size_1 (by decide) (fun hc1 => ?_) (fun hc1 => ?_)
  · skip
    have e9 := sz_cases (w := w) (Or.inl hc1)
    refine z_iload_n (pc := 23) C dX11_size_23 1 rfl ?_
    rcases e9 with rfl | rfl | rfl | rfl | rfl | e9
    · skip
      refine z_tblIn (pc := 24) C 88 dX11_size_24 (by decide) (by decide) rfl (by decide) ?_
      refine z_aload_n (pc := 88) C dX11_size_88 0 rfl ?_
      refine z_getf (pc := 89) C dX11_size_89 fX11_53 (by assumption) (by first | rfl | assumption) ?_
      refine z_getf (pc := 92) C dX11_size_92 fX11_120 (by assumption) (by first | rfl | assumption) ?_
      refine z_getf (pc := 95) C dX11_size_95 fX11_314 (by assumption) (by first | rfl | assumption) ?_
      refine z_iret (pc := 98) C dX11_size_98 rfl (Nat.zero_le _) (Nat.zero_le _) ⟨?_, ?_, rfl⟩
      · rfl
      · rfl
    · skip
      refine z_tblIn (pc := 24) C 99 dX11_size_24 (by decide) (by decide) rfl (by decide) ?_
      refine z_aload_n (pc := 99) C dX11_size_99 0 rfl ?_
      refine z_getf (pc := 100) C dX11_size_100 fX11_53 (by assumption) (by first | rfl | assumption) ?_
      refine z_getf (pc := 103) C dX11_size_103 fX11_361 (by assumption) (by first | rfl | assumption) ?_
      refine z_iret (pc := 106) C dX11_size_106 rfl (Nat.zero_le _) (Nat.zero_le _) ⟨?_, ?_, rfl⟩
      · rfl
      · rfl
    · skip
      refine z_tblIn (pc := 24) C 107 dX11_size_24 (by decide) (by decide) rfl (by decide) ?_
      refine z_aload_n (pc := 107) C dX11_size_107 0 rfl ?_
      refine z_getf (pc := 108) C dX11_size_108 fX11_33 (by assumption) (by first | rfl | assumption) ?_
      refine z_getf (pc := 111) C dX11_size_111 fX11_390 (by assumption) (by first | rfl | assumption) ?_
      refine z_iret (pc := 114) C dX11_size_114 rfl (Nat.zero_le _) (Nat.zero_le _) ⟨?_, ?_, rfl⟩
      · rfl
      · rfl
    · skip
      refine z_tblIn (pc := 24) C 115 dX11_size_24 (by decide) (by decide) rfl (by decide) ?_
      refine z_aload_n (pc := 115) C dX11_size_115 0 rfl ?_
      refine z_getf (pc := 116) C dX11_size_116 fX11_101 (by assumption) (by first | rfl | assumption) ?_
      refine z_iret (pc := 119) C dX11_size_119 rfl (Nat.zero_le _) (Nat.zero_le _) ⟨?_, ?_, rfl⟩
      · rfl
      · rfl
    · skip
      refine z_tblIn (pc := 24) C 120 dX11_size_24 (by decide) (by decide) rfl (by decide) ?_
      refine z_aload_n (pc := 120) C dX11_size_120 0 rfl ?_
      refine z_getf (pc := 121) C dX11_size_121 fX11_10 (by assumption) (by first | rfl | assumption) ?_
      refine z_getf (pc := 124) C dX11_size_124 fX11_56 (by assumption) (by first | rfl | assumption) ?_
      refine z_getf (pc := 127) C dX11_size_127 fX11_60 (by assumption) (by first | rfl | assumption) ?_
      refine z_iret (pc := 130) C dX11_size_130 rfl (Nat.zero_le _) (Nat.zero_le _) ⟨?_, ?_, rfl⟩
      · rfl
      · rfl
    · skip
      refine z_tblOut (pc := 24) C 131 dX11_size_24 e9 (by decide) ?_
      refine z_iconst (pc := 131) C dX11_size_131 (-1) (by decide) ?_
      refine z_iret (pc := 132) C dX11_size_132 rfl (Nat.zero_le _) (Nat.zero_le _) ⟨?_, ?_, rfl⟩
      · rw [sz_out e9]
      · rfl
  · skip
    have e1 : ¬ w < 0 := fun z => hc1 (Int32.le_of_lt z)
    refine z_iload_n (pc := 4) C dX11_size_4 1 rfl ?_
    refine z_bipush (pc := 5) C dX11_size_5 (nI 8) (by decide) ?_
    refine z_icmp_ge (pc := 7) C 23 dX11_size_7 (by decide) (fun hc7 => ?_) (fun hc7 => ?_)
    · skip
      have e9 := sz_cases (w := w) (Or.inr hc7)
      refine z_iload_n (pc := 23) C dX11_size_23 1 rfl ?_
      rcases e9 with rfl | rfl | rfl | rfl | rfl | e9
      · skip
        refine z_tblIn (pc := 24) C 88 dX11_size_24 (by decide) (by decide) rfl (by decide) ?_
        refine z_aload_n (pc := 88) C dX11_size_88 0 rfl ?_
        refine z_getf (pc := 89) C dX11_size_89 fX11_53 (by assumption) (by first | rfl | assumption) ?_
        refine z_getf (pc := 92) C dX11_size_92 fX11_120 (by assumption) (by first | rfl | assumption) ?_
        refine z_getf (pc := 95) C dX11_size_95 fX11_314 (by assumption) (by first | rfl | assumption) ?_
        refine z_iret (pc := 98) C dX11_size_98 rfl (Nat.zero_le _) (Nat.zero_le _) ⟨?_, ?_, rfl⟩
        · rfl
        · rfl
      · skip
        refine z_tblIn (pc := 24) C 99 dX11_size_24 (by decide) (by decide) rfl (by decide) ?_
        refine z_aload_n (pc := 99) C dX11_size_99 0 rfl ?_
        refine z_getf (pc := 100) C dX11_size_100 fX11_53 (by assumption) (by first | rfl | assumption) ?_
        refine z_getf (pc := 103) C dX11_size_103 fX11_361 (by assumption) (by first | rfl | assumption) ?_
        refine z_iret (pc := 106) C dX11_size_106 rfl (Nat.zero_le _) (Nat.zero_le _) ⟨?_, ?_, rfl⟩
        · rfl
        · rfl
      · skip
        refine z_tblIn (pc := 24) C 107 dX11_size_24 (by decide) (by decide) rfl (by decide) ?_
        refine z_aload_n (pc := 107) C dX11_size_107 0 rfl ?_
        refine z_getf (pc := 108) C dX11_size_108 fX11_33 (by assumption) (by first | rfl | assumption) ?_
        refine z_getf (pc := 111) C dX11_size_111 fX11_390 (by assumption) (by first | rfl | assumption) ?_
        refine z_iret (pc := 114) C dX11_size_114 rfl (Nat.zero_le _) (Nat.zero_le _) ⟨?_, ?_, rfl⟩
        · rfl
        · rfl
      · skip
        refine z_tblIn (pc := 24) C 115 dX11_size_24 (by decide) (by decide) rfl (by decide) ?_
        refine z_aload_n (pc := 115) C dX11_size_115 0 rfl ?_
        refine z_getf (pc := 116) C dX11_size_116 fX11_101 (by assumption) (by first | rfl | assumption) ?_
        refine z_iret (pc := 119) C dX11_size_119 rfl (Nat.zero_le _) (Nat.zero_le _) ⟨?_, ?_, rfl⟩
        · rfl
        · rfl
      · skip
        refine z_tblIn (pc := 24) C 120 dX11_size_24 (by decide) (by decide) rfl (by decide) ?_
        refine z_aload_n (pc := 120) C dX11_size_120 0 rfl ?_
        refine z_getf (pc := 121) C dX11_size_121 fX11_10 (by assumption) (by first | rfl | assumption) ?_
        refine z_getf (pc := 124) C dX11_size_124 fX11_56 (by assumption) (by first | rfl | assumption) ?_
        refine z_getf (pc := 127) C dX11_size_127 fX11_60 (by assumption) (by first | rfl | assumption) ?_
        refine z_iret (pc := 130) C dX11_size_130 rfl (Nat.zero_le _) (Nat.zero_le _) ⟨?_, ?_, rfl⟩
        · rfl
        · rfl
      · skip
        refine z_tblOut (pc := 24) C 131 dX11_size_24 e9 (by decide) ?_
        refine z_iconst (pc := 131) C dX11_size_131 (-1) (by decide) ?_
        refine z_iret (pc := 132) C dX11_size_132 rfl (Nat.zero_le _) (Nat.zero_le _) ⟨?_, ?_, rfl⟩
        · rw [sz_out e9]
        · rfl
    · skip
      have e5 : zlt w 8 = true := zlt_t (by decide) e1 hc7
      obtain ⟨q, hq, rfl⟩ := zlt_of (by omega) e5
      have pq := pn_nI (j := q) (by omega)
      have e6 : 1 ≤ q := by
        rcases Nat.eq_zero_or_pos q with z | z
        · subst z; exact absurd (Int32.le_refl 0) hc1
        · exact z
      refine z_aload_n (pc := 10) C dX11_size_10 0 rfl ?_
      refine z_getf (pc := 11) C dX11_size_11 fX11_53 (by assumption) (by first | rfl | assumption) ?_
      refine z_getf (pc := 14) C dX11_size_14 fX11_120 (by assumption) (by first | rfl | assumption) ?_
      refine z_getf (pc := 17) C dX11_size_17 fX11_387 (by assumption) (by first | rfl | assumption) ?_
      refine z_iload_n (pc := 20) C dX11_size_20 1 rfl ?_
      refine z_ialdE (pc := 21) C dX11_size_21 (by assumption) (by omega) (by decide) (rc q e6 (by omega)) ?_
      refine z_iret (pc := 22) C dX11_size_22 rfl (Nat.zero_le _) (Nat.zero_le _) ⟨?_, ?_, rfl⟩
      · unfold aSize; rw [e5, pq]; rfl
      · rfl

set_option maxRecDepth 20000 in
set_option maxHeartbeats 1000000 in
theorem tX10_fewestBetween {h : ZH} {t : Nat} {R : Nat → Nat} {p q : Nat} (hT : Tld h t R) (hR : wfR R) (hp : p < R 1) (hq : q < R 1) : ZD mX10_fewestBetween 3 [.ref t, .int (nI p), .int (nI q)] h (some (.int (zo (scut R p q (1 <<< R 1))))) h := by
  intro n
  obtain ⟨w1, w3, w4, w5, w0, wP, wM, wK, wX⟩ := id hR
  obtain ⟨fc, fh, fn, fk, fs, ff, fw, fe, t0, t1, t2, t3, t4, t5, t6, t7, t8, rc, rh, rn, rk, rs, rf, rv, re⟩ := id hT
  have s4 := sall_lt w1
  have e0 := (wP p hp).2.1
  refine z_enter (lv := [(0, _), (1, _), (2, _)]) (by decide) (Nat.le_of_ble_eq_true rfl) rfl (fun X C => ?_)
  refine z_iload_n (pc := 0) C dX10_fewestBetween_0 1 rfl ?_
  refine z_iload_n (pc := 1) C dX10_fewestBetween_1 2 rfl ?_
  first | refine z_icmpeqN (pc := 2) C 18 dX10_fewestBetween_2 (by decide) (by omega) (by omega) (fun hc2 => ?_) (fun hc2 => ?_) | refine z_icmp_eq (pc := 2) C 18 dX10_fewestBetween_2 (by decide) (fun hc2 => ?_) (fun hc2 => ?_)
  · skip
    refine z_bipush (pc := 18) C dX10_fewestBetween_18 (zo none) (by decide) ?_
    refine z_iret (pc := 20) C dX10_fewestBetween_20 rfl (Nat.zero_le _) (Nat.zero_le _) ⟨?_, ?_, rfl⟩
    · first | (rw [scut_none hR hp (by omega) (Or.inl hc2)]) | (rw [scut_none hR hp (by omega) (Or.inr hc15)])
    · rfl
  · skip
    refine z_aload_n (pc := 5) C dX10_fewestBetween_5 0 rfl ?_
    refine z_getf (pc := 6) C dX10_fewestBetween_6 fX10_19 (by assumption) (by first | rfl | assumption) ?_
    refine z_iload_n (pc := 9) C dX10_fewestBetween_9 1 rfl ?_
    refine z_ialdE (pc := 10) C dX10_fewestBetween_10 (by assumption) (by omega) (by decide) (rn p hp) ?_
    refine z_iload_n (pc := 11) C dX10_fewestBetween_11 2 rfl ?_
    refine z_cSN1 (pc := 12) mX11_has C [_, _] dX10_fewestBetween_12 lX10_15 mtX11_has (tX11_has (by first | assumption | omega) (by first | assumption | omega)) rfl rfl (by decide) (Nat.le_of_ble_eq_true rfl) (Nat.zero_le _) (Nat.zero_le _) ?_
    first | refine z_ifeqB (pc := 15) C 21 dX10_fewestBetween_15 (by decide) (fun hc15 => ?_) (fun hc15 => ?_) | refine z_ifeqN (pc := 15) C 21 dX10_fewestBetween_15 (by decide) (by omega) (fun hc15 => ?_) (fun hc15 => ?_) | refine z_if_eq (pc := 15) C 21 dX10_fewestBetween_15 (by decide) (fun hc15 => ?_) (fun hc15 => ?_)
    · skip
      refine z_iconst (pc := 21) C dX10_fewestBetween_21 (nI 1) (by decide) ?_
      refine z_iload_n (pc := 22) C dX10_fewestBetween_22 1 rfl ?_
      first | refine z_ishlN (pc := 23) C dX10_fewestBetween_23 (by omega) ?_ | refine z_ishl (pc := 23) C dX10_fewestBetween_23 ?_
      refine z_iconst (pc := 24) C dX10_fewestBetween_24 (nI 1) (by decide) ?_
      refine z_iload_n (pc := 25) C dX10_fewestBetween_25 2 rfl ?_
      first | refine z_ishlN (pc := 26) C dX10_fewestBetween_26 (by omega) ?_ | refine z_ishl (pc := 26) C dX10_fewestBetween_26 ?_
      first | refine z_iorN (pc := 27) C dX10_fewestBetween_27 ?_ | refine z_ior (pc := 27) C dX10_fewestBetween_27 ?_
      refine z_istore_n (pc := 28) (lv' := [(3, _), (0, _), (1, _), (2, _)]) C dX10_fewestBetween_28 (by decide) rfl ?_
      refine z_bipush (pc := 29) C dX10_fewestBetween_29 (zo none) (by decide) ?_
      refine z_istore (pc := 31) (lv' := [(4, _), (3, _), (0, _), (1, _), (2, _)]) C dX10_fewestBetween_31 (by decide) rfl ?_
      refine z_bipush (pc := 33) C dX10_fewestBetween_33 (nI (sfw 8 none)) (by decide) ?_
      refine z_istore (pc := 35) (lv' := [(5, _), (4, _), (3, _), (0, _), (1, _), (2, _)]) C dX10_fewestBetween_35 (by decide) rfl ?_
      refine z_iconst (pc := 37) C dX10_fewestBetween_37 (nI 0) (by decide) ?_
      refine z_istore (pc := 38) (lv' := [(6, _), (5, _), (4, _), (3, _), (0, _), (1, _), (2, _)]) C dX10_fewestBetween_38 (by decide) rfl ?_
      refine z_sub (lv' := [(0, _), (1, _), (2, _), (3, _), (4, _), (5, _), (6, _)]) [4, 5, 6, 3, 2, 1, 0] rfl ?_
      have lp40 : ∀ (f : Nat) (k : Nat) (t1 : Option Nat), (k + f = 1 <<< R 1 ∧ t1 = scut R p q k) → Zc X mX10_fewestBetween (zEnd X (fun r hh n' => r = (some (.int (zo (scut R p q (1 <<< R 1))))) ∧ hh = h ∧ n' = n) 0 0) 40 [(0, .ref t), (1, .int (nI p)), (2, .int (nI q)), (3, .int (nI (1 <<< p ||| 1 <<< q))), (4, .int (zo t1)), (5, .int (nI (sfw 8 t1))), (6, .int (nI k))] [] h n 0 0 := by
        intro f
        induction f using Nat.strongRecOn with
        | _ f ih =>
          intro k t1 hk
          obtain ⟨hk, he⟩ := hk
          have e3 := sone_le k 8
          have e1 := sfw_le (d := 8) (by decide) t1
          refine z_iload (pc := 40) C dX10_fewestBetween_40 6 rfl ?_
          refine z_aload_n (pc := 42) C dX10_fewestBetween_42 0 rfl ?_
          refine z_cS1 (pc := 43) mX10_all C [_] dX10_fewestBetween_43 lX10_28 mtX10_all (tX10_all hT hR) rfl rfl (by decide) (Nat.le_of_ble_eq_true rfl) (Nat.zero_le _) (Nat.zero_le _) ?_
          first | refine z_icmpgtN (pc := 46) C 104 dX10_fewestBetween_46 (by decide) (by omega) (by omega) (fun hc46 => ?_) (fun hc46 => ?_) | refine z_icmp_gt (pc := 46) C 104 dX10_fewestBetween_46 (by decide) (fun hc46 => ?_) (fun hc46 => ?_)
          · skip
            refine z_iload (pc := 104) C dX10_fewestBetween_104 4 rfl ?_
            refine z_iret (pc := 106) C dX10_fewestBetween_106 rfl (Nat.zero_le _) (Nat.zero_le _) ⟨?_, ?_, rfl⟩
            · obtain rfl : f = 0 := (by omega); obtain rfl : k = 1 <<< R 1 := (by omega); rw [he]
            · rfl
          · skip
            refine z_iload (pc := 49) C dX10_fewestBetween_49 6 rfl ?_
            refine z_iload_n (pc := 51) C dX10_fewestBetween_51 3 rfl ?_
            first | refine z_iandN (pc := 52) C dX10_fewestBetween_52 ?_ | refine z_iand (pc := 52) C dX10_fewestBetween_52 ?_
            have e2 : (k &&& (1 <<< p ||| 1 <<< q) = 0) = (k.testBit p = false ∧ k.testBit q = false) := sends ⟨k, by omega⟩ ⟨p, by omega⟩ ⟨q, by omega⟩
            have e4 : k &&& (1 <<< p ||| 1 <<< q) ≤ k := Nat.and_le_left
            first | refine z_ifneB (pc := 53) C 98 dX10_fewestBetween_53 (by decide) (fun hc53 => ?_) (fun hc53 => ?_) | refine z_ifneN (pc := 53) C 98 dX10_fewestBetween_53 (by decide) (by omega) (fun hc53 => ?_) (fun hc53 => ?_) | refine z_if_ne (pc := 53) C 98 dX10_fewestBetween_53 (by decide) (fun hc53 => ?_) (fun hc53 => ?_)
            · skip
              have e5 : t1 = scut R p q (k + 1) := by
                rw [scut_s, if_pos, ← he]
                have : ¬ (k &&& (1 <<< p ||| 1 <<< q) = 0) := by omega
                rw [e2] at this
                cases z1 : k.testBit p with
                | true => rfl
                | false =>
                  cases z2 : k.testBit q with
                  | true => rfl
                  | false => exact absurd ⟨z1, z2⟩ this
              first | refine z_iincN (pc := 98) (lv' := [(6, _), (0, _), (1, _), (2, _), (3, _), (4, _), (5, _)]) C 1 dX10_fewestBetween_98 6 rfl (by decide) (by decide) rfl ?_ | refine z_iinc (pc := 98) (lv' := [(6, _), (0, _), (1, _), (2, _), (3, _), (4, _), (5, _)]) C dX10_fewestBetween_98 6 rfl _ rfl (by decide) rfl ?_
              refine z_goto (pc := 101) C 40 dX10_fewestBetween_101 (by decide) ?_
              refine z_sub (lv' := [(0, _), (1, _), (2, _), (3, _), (4, _), (5, _), (6, _)]) [1, 2, 3, 4, 5, 6, 0] rfl ?_
              exact ih (f - 1) (by omega) (k + 1) _ ⟨by omega, e5⟩
            · skip
              have e6 := hc53
              rw [e2] at e6
              obtain ⟨e6, e7⟩ := e6
              refine z_iload (pc := 56) C dX10_fewestBetween_56 6 rfl ?_
              refine z_cS1 (pc := 58) mJ6_bitCount_0f7a4 C [_] dX10_fewestBetween_58 lX10_36 mtJ6_bitCount_0f7a4 (tJ6_bitCount_0f7a4 (by omega)) rfl rfl (by decide) (Nat.le_of_ble_eq_true rfl) (Nat.zero_le _) (Nat.zero_le _) ?_
              refine z_iload (pc := 61) C dX10_fewestBetween_61 5 rfl ?_
              first | refine z_icmpgeN (pc := 63) C 98 dX10_fewestBetween_63 (by decide) (by omega) (by omega) (fun hc63 => ?_) (fun hc63 => ?_) | refine z_icmp_ge (pc := 63) C 98 dX10_fewestBetween_63 (by decide) (fun hc63 => ?_) (fun hc63 => ?_)
              · skip
                have e5 : t1 = scut R p q (k + 1) := by rw [scut_s, ← he, if_pos (by rw [(sfw_ct (by omega)).mp hc63]; simp)]
                first | refine z_iincN (pc := 98) (lv' := [(6, _), (0, _), (1, _), (2, _), (3, _), (4, _), (5, _)]) C 1 dX10_fewestBetween_98 6 rfl (by decide) (by decide) rfl ?_ | refine z_iinc (pc := 98) (lv' := [(6, _), (0, _), (1, _), (2, _), (3, _), (4, _), (5, _)]) C dX10_fewestBetween_98 6 rfl _ rfl (by decide) rfl ?_
                refine z_goto (pc := 101) C 40 dX10_fewestBetween_101 (by decide) ?_
                refine z_sub (lv' := [(0, _), (1, _), (2, _), (3, _), (4, _), (5, _), (6, _)]) [1, 2, 3, 4, 5, 6, 0] rfl ?_
                exact ih (f - 1) (by omega) (k + 1) _ ⟨by omega, e5⟩
              · skip
                have e8 : sctb t1 k = false := by cases z : sctb t1 k with | false => rfl | true => have := (sfw_ct (t := t1) (k := k) (by omega)).mpr z; omega
                refine z_aload_n (pc := 66) C dX10_fewestBetween_66 0 rfl ?_
                refine z_iload_n (pc := 67) C dX10_fewestBetween_67 1 rfl ?_
                refine z_aload_n (pc := 68) C dX10_fewestBetween_68 0 rfl ?_
                refine z_cS1 (pc := 69) mX10_all C [_] dX10_fewestBetween_69 lX10_28 mtX10_all (tX10_all hT hR) rfl rfl (by decide) (Nat.le_of_ble_eq_true rfl) (Nat.zero_le _) (Nat.zero_le _) ?_
                refine z_iload (pc := 72) C dX10_fewestBetween_72 6 rfl ?_
                refine z_iconst (pc := 74) C dX10_fewestBetween_74 (-1) (by decide) ?_
                refine z_ixor (pc := 75) C dX10_fewestBetween_75 ?_
                refine z_iand (pc := 76) C dX10_fewestBetween_76 ?_
                refine z_top (nI_andn (by omega) (by omega)) ?_
                refine z_cS1 (pc := 77) mX10_reach C [_, _, _] dX10_fewestBetween_77 lX10_42 mtX10_reach (tX10_reach hT hR (by omega)) rfl rfl (by decide) (Nat.le_of_ble_eq_true rfl) (Nat.zero_le _) (Nat.zero_le _) ?_
                refine z_iload_n (pc := 80) C dX10_fewestBetween_80 2 rfl ?_
                refine z_cSN1 (pc := 81) mX11_has C [_, _] dX10_fewestBetween_81 lX10_15 mtX11_has (tX11_has (Nat.lt_of_lt_of_le (srch_lt hR _ _ _ (s1_lt (by omega))) (by decide)) (by omega)) rfl rfl (by decide) (Nat.le_of_ble_eq_true rfl) (Nat.zero_le _) (Nat.zero_le _) ?_
                first | refine z_ifneB (pc := 84) C 98 dX10_fewestBetween_84 (by decide) (fun hc84 => ?_) (fun hc84 => ?_) | refine z_ifneN (pc := 84) C 98 dX10_fewestBetween_84 (by decide) (by omega) (fun hc84 => ?_) (fun hc84 => ?_) | refine z_if_ne (pc := 84) C 98 dX10_fewestBetween_84 (by decide) (fun hc84 => ?_) (fun hc84 => ?_)
                · skip
                  have e5 : t1 = scut R p q (k + 1) := by
                    rw [scut_s, ← he, e6, e7, e8]
                    refine (if_neg (fun z => ?_)).symm
                    rw [(srch_cut hR (by omega) _).mpr z] at hc84; cases hc84
                  first | refine z_iincN (pc := 98) (lv' := [(6, _), (0, _), (1, _), (2, _), (3, _), (4, _), (5, _)]) C 1 dX10_fewestBetween_98 6 rfl (by decide) (by decide) rfl ?_ | refine z_iinc (pc := 98) (lv' := [(6, _), (0, _), (1, _), (2, _), (3, _), (4, _), (5, _)]) C dX10_fewestBetween_98 6 rfl _ rfl (by decide) rfl ?_
                  refine z_goto (pc := 101) C 40 dX10_fewestBetween_101 (by decide) ?_
                  refine z_sub (lv' := [(0, _), (1, _), (2, _), (3, _), (4, _), (5, _), (6, _)]) [1, 2, 3, 4, 5, 6, 0] rfl ?_
                  exact ih (f - 1) (by omega) (k + 1) _ ⟨by omega, e5⟩
                · skip
                  have e5 : some k = scut R p q (k + 1) := by rw [scut_s, ← he, e6, e7, e8, if_pos ((srch_cut hR (by omega) _).mp hc84)]; rfl
                  refine z_iload (pc := 87) C dX10_fewestBetween_87 6 rfl ?_
                  refine z_top (show nI k = zo (some k) from rfl) ?_
                  refine z_istore (pc := 89) (lv' := [(4, _), (0, _), (1, _), (2, _), (3, _), (5, _), (6, _)]) C dX10_fewestBetween_89 (by decide) rfl ?_
                  refine z_iload (pc := 91) C dX10_fewestBetween_91 6 rfl ?_
                  refine z_cS1 (pc := 93) mJ6_bitCount_0f7a4 C [_] dX10_fewestBetween_93 lX10_36 mtJ6_bitCount_0f7a4 (tJ6_bitCount_0f7a4 (by omega)) rfl rfl (by decide) (Nat.le_of_ble_eq_true rfl) (Nat.zero_le _) (Nat.zero_le _) ?_
                  refine z_top (show nI (sone k 8) = nI (sfw 8 (some k)) from rfl) ?_
                  refine z_istore (pc := 96) (lv' := [(5, _), (4, _), (0, _), (1, _), (2, _), (3, _), (6, _)]) C dX10_fewestBetween_96 (by decide) rfl ?_
                  first | refine z_iincN (pc := 98) (lv' := [(6, _), (5, _), (4, _), (0, _), (1, _), (2, _), (3, _)]) C 1 dX10_fewestBetween_98 6 rfl (by decide) (by decide) rfl ?_ | refine z_iinc (pc := 98) (lv' := [(6, _), (5, _), (4, _), (0, _), (1, _), (2, _), (3, _)]) C dX10_fewestBetween_98 6 rfl _ rfl (by decide) rfl ?_
                  refine z_goto (pc := 101) C 40 dX10_fewestBetween_101 (by decide) ?_
                  refine z_sub (lv' := [(0, _), (1, _), (2, _), (3, _), (4, _), (5, _), (6, _)]) [3, 4, 5, 6, 2, 1, 0] rfl ?_
                  exact ih (f - 1) (by omega) (k + 1) _ ⟨by omega, e5⟩
      exact lp40 (1 <<< R 1) 0 none ⟨by omega, rfl⟩
    · skip
      refine z_bipush (pc := 18) C dX10_fewestBetween_18 (zo none) (by decide) ?_
      refine z_iret (pc := 20) C dX10_fewestBetween_20 rfl (Nat.zero_le _) (Nat.zero_le _) ⟨?_, ?_, rfl⟩
      · first | (rw [scut_none hR hp (by omega) (Or.inl hc2)]) | (rw [scut_none hR hp (by omega) (Or.inr hc15)])
      · rfl

set_option maxRecDepth 20000 in
set_option maxHeartbeats 1000000 in
theorem tX11_cut {h : ZH} {st : Nat} {ic tb fa pl : Int32} {t : Nat} {R S : Nat → Nat} {m p : Int32} (hK : h 1000 = some (zO 7 (kfs st ic tb fa pl))) (hC : Scn h 1051 1052 1053 t R S) (hR : wfR R) (hS : wfS R S) : ZD mX11_cut 4 [.ref 1000, .int m, .int p] h (some (.int (aCut R S m p).1)) (zup h 1000 (zO 7 (kfs st ic (aCut R S m p).2 fa pl))) := by
  intro n
  obtain ⟨w1, w3, w4, w5, w0, wP, wM, wK, wX⟩ := id hR
  obtain ⟨wT, wL, wB⟩ := id hS
  obtain ⟨hT, fl, ft, s0, s1, s2, rl, rt⟩ := id hC
  obtain ⟨fc, fh, fn, fk, fs, ff, fw, fe, t0, t1, t2, t3, t4, t5, t6, t7, t8, rc, rh, rn, rk, rs, rf, rv, re⟩ := id hT
  refine z_enter (lv := [(0, _), (1, _), (2, _)]) (by decide) (Nat.le_of_ble_eq_true rfl) rfl (fun X C => ?_)
  refine z_aload_n (pc := 0) C dX11_cut_0 0 rfl ?_
  refine z_iload_n (pc := 1) C dX11_cut_1 1 rfl ?_
  refine z_cV1 (pc := 2) mX11_isMan C [_] dX11_cut_2 lX11_140 mtX11_isMan (tX11_isMan (by first | assumption | omega) (by first | assumption | omega) (by first | assumption | omega)) (by assumption) rfl rfl (by decide) (Nat.le_of_ble_eq_true rfl) (Nat.zero_le _) (Nat.zero_le _) ?_
  first | refine z_ifeqB (pc := 5) C 16 dX11_cut_5 (by decide) (fun hc5 => ?_) (fun hc5 => ?_) | refine z_ifeqN (pc := 5) C 16 dX11_cut_5 (by decide) (by omega) (fun hc5 => ?_) (fun hc5 => ?_) | refine z_if_eq (pc := 5) C 16 dX11_cut_5 (by decide) (fun hc5 => ?_) (fun hc5 => ?_)
  · skip
    refine z_aload_n (pc := 16) C dX11_cut_16 0 rfl ?_
    refine z_iconst (pc := 17) C dX11_cut_17 (nI 1) (by decide) ?_
    refine z_cV1 (pc := 18) mX11_refuse C [_] dX11_cut_18 lX11_70 mtX11_refuse (tX11_refuse (by first | assumption | omega)) (by assumption) rfl rfl (by decide) (Nat.le_of_ble_eq_true rfl) (Nat.zero_le _) (Nat.zero_le _) ?_
    refine z_iret (pc := 21) C dX11_cut_21 rfl (Nat.zero_le _) (Nat.zero_le _) ⟨?_, ?_, rfl⟩
    · simp [aCut, aMP, *]
    · simp [aCut, aMP, *] <;> rfl
  · skip
    refine z_aload_n (pc := 8) C dX11_cut_8 0 rfl ?_
    refine z_iload_n (pc := 9) C dX11_cut_9 2 rfl ?_
    refine z_cV1 (pc := 10) mX11_isPlace C [_] dX11_cut_10 lX11_114 mtX11_isPlace (tX11_isPlace (by first | assumption | omega) (by first | assumption | omega) (by first | assumption | omega)) (by assumption) rfl rfl (by decide) (Nat.le_of_ble_eq_true rfl) (Nat.zero_le _) (Nat.zero_le _) ?_
    first | refine z_ifneB (pc := 13) C 22 dX11_cut_13 (by decide) (fun hc13 => ?_) (fun hc13 => ?_) | refine z_ifneN (pc := 13) C 22 dX11_cut_13 (by decide) (by omega) (fun hc13 => ?_) (fun hc13 => ?_) | refine z_if_ne (pc := 13) C 22 dX11_cut_13 (by decide) (fun hc13 => ?_) (fun hc13 => ?_)
    · skip
      obtain ⟨j, hj, rfl⟩ := zlt_of (by omega) hc5
      have pj := pn_nI (j := j) (by omega)
      obtain ⟨i, hi, rfl⟩ := zlt_of (by omega) hc13
      have pi := pn_nI (j := i) (by omega)
      have e1 : S (8 * j) < R 1 := wT j hj 0 (by omega)
      refine z_aload_n (pc := 22) C dX11_cut_22 0 rfl ?_
      refine z_aload_n (pc := 23) C dX11_cut_23 0 rfl ?_
      refine z_getf (pc := 24) C dX11_cut_24 fX11_53 (by assumption) (by first | rfl | assumption) ?_
      refine z_getf (pc := 27) C dX11_cut_27 fX11_120 (by assumption) (by first | rfl | assumption) ?_
      refine z_aload_n (pc := 30) C dX11_cut_30 0 rfl ?_
      refine z_getf (pc := 31) C dX11_cut_31 fX11_53 (by assumption) (by first | rfl | assumption) ?_
      refine z_iload_n (pc := 34) C dX11_cut_34 1 rfl ?_
      refine z_cV1 (pc := 35) mX5_at C [_] dX11_cut_35 lX11_146 mtX5_at (tX5_at (by first | assumption | omega) (by first | assumption | omega) (by first | assumption | omega)) (by assumption) rfl rfl (by decide) (Nat.le_of_ble_eq_true rfl) (Nat.zero_le _) (Nat.zero_le _) ?_
      refine z_iload_n (pc := 38) C dX11_cut_38 2 rfl ?_
      refine z_cS1 (pc := 39) mX10_fewestBetween C [_, _, _] dX11_cut_39 lX11_219 mtX10_fewestBetween (tX10_fewestBetween hT hR e1 hi) rfl rfl (by decide) (Nat.le_of_ble_eq_true rfl) (Nat.zero_le _) (Nat.zero_le _) ?_
      refine z_cV1 (pc := 42) mX11_answer C [_] dX11_cut_42 lX11_108 mtX11_answer (tX11_answer (by first | assumption | omega)) (by assumption) rfl rfl (by decide) (Nat.le_of_ble_eq_true rfl) (Nat.zero_le _) (Nat.zero_le _) ?_
      refine z_iret (pc := 45) C dX11_cut_45 rfl (Nat.zero_le _) (Nat.zero_le _) ⟨?_, ?_, rfl⟩
      · simp [aCut, aMP, *]
      · simp [aCut, aMP, *] <;> rfl
    · skip
      refine z_aload_n (pc := 16) C dX11_cut_16 0 rfl ?_
      refine z_iconst (pc := 17) C dX11_cut_17 (nI 1) (by decide) ?_
      refine z_cV1 (pc := 18) mX11_refuse C [_] dX11_cut_18 lX11_70 mtX11_refuse (tX11_refuse (by first | assumption | omega)) (by assumption) rfl rfl (by decide) (Nat.le_of_ble_eq_true rfl) (Nat.zero_le _) (Nat.zero_le _) ?_
      refine z_iret (pc := 21) C dX11_cut_21 rfl (Nat.zero_le _) (Nat.zero_le _) ⟨?_, ?_, rfl⟩
      · simp [aCut, aMP, *]
      · simp [aCut, aMP, *] <;> rfl

set_option maxRecDepth 20000 in
set_option maxHeartbeats 1000000 in
theorem tX10_partCount {h : ZH} {t : Nat} {R : Nat → Nat} (hT : Tld h t R) (hR : wfR R) : ZD mX10_partCount 3 [.ref t] h (some (.int (nI (sprt R (R 1)).1))) h := by
  intro n
  obtain ⟨w1, w3, w4, w5, w0, wP, wM, wK, wX⟩ := id hR
  obtain ⟨fc, fh, fn, fk, fs, ff, fw, fe, t0, t1, t2, t3, t4, t5, t6, t7, t8, rc, rh, rn, rk, rs, rf, rv, re⟩ := id hT
  refine z_enter (lv := [(0, _)]) (by decide) (Nat.le_of_ble_eq_true rfl) rfl (fun X C => ?_)
  refine z_iconst (pc := 0) C dX10_partCount_0 (nI 0) (by decide) ?_
  refine z_istore_n (pc := 1) (lv' := [(1, _), (0, _)]) C dX10_partCount_1 (by decide) rfl ?_
  refine z_iconst (pc := 2) C dX10_partCount_2 (nI 0) (by decide) ?_
  refine z_istore_n (pc := 3) (lv' := [(2, _), (1, _), (0, _)]) C dX10_partCount_3 (by decide) rfl ?_
  refine z_iconst (pc := 4) C dX10_partCount_4 (nI 0) (by decide) ?_
  refine z_istore_n (pc := 5) (lv' := [(3, _), (2, _), (1, _), (0, _)]) C dX10_partCount_5 (by decide) rfl ?_
  refine z_sub (lv' := [(0, _), (1, _), (2, _), (3, _)]) [3, 2, 1, 0] rfl ?_
  have lp6 : ∀ (f : Nat) (k u1 u2 : Nat), (k + f = R 1 ∧ (u1, u2) = sprt R k) → Zc X mX10_partCount (zEnd X (fun r hh n' => r = (some (.int (nI (sprt R (R 1)).1))) ∧ hh = h ∧ n' = n) 0 0) 6 [(0, .ref t), (1, .int (nI u1)), (2, .int (nI u2)), (3, .int (nI k))] [] h n 0 0 := by
    intro f
    induction f using Nat.strongRecOn with
    | _ f ih =>
      intro k u1 u2 hk
      obtain ⟨hk, he⟩ := hk
      have e1 := sprt_lt hR k (by omega)
      rw [← he] at e1
      obtain ⟨e2, e3⟩ := e1
      refine z_iload_n (pc := 6) C dX10_partCount_6 3 rfl ?_
      refine z_aload_n (pc := 7) C dX10_partCount_7 0 rfl ?_
      refine z_getf (pc := 8) C dX10_partCount_8 fX10_9 (by assumption) (by first | rfl | assumption) ?_
      refine z_iconst (pc := 11) C dX10_partCount_11 (nI 1) (by decide) ?_
      refine z_ialdE (pc := 12) C dX10_partCount_12 (by assumption) (by omega) (by decide) (rc 1 (by decide) (by decide)) ?_
      first | refine z_icmpgeN (pc := 13) C 45 dX10_partCount_13 (by decide) (by omega) (by omega) (fun hc13 => ?_) (fun hc13 => ?_) | refine z_icmp_ge (pc := 13) C 45 dX10_partCount_13 (by decide) (fun hc13 => ?_) (fun hc13 => ?_)
      · skip
        refine z_iload_n (pc := 45) C dX10_partCount_45 1 rfl ?_
        refine z_iret (pc := 46) C dX10_partCount_46 rfl (Nat.zero_le _) (Nat.zero_le _) ⟨?_, ?_, rfl⟩
        · obtain rfl : f = 0 := (by omega); obtain rfl : k = R 1 := (by omega); rw [← he]
        · rfl
      · skip
        refine z_iload_n (pc := 16) C dX10_partCount_16 2 rfl ?_
        refine z_iload_n (pc := 17) C dX10_partCount_17 3 rfl ?_
        refine z_cSN1 (pc := 18) mX11_has C [_, _] dX10_partCount_18 lX10_15 mtX11_has (tX11_has (by first | assumption | omega) (by first | assumption | omega)) rfl rfl (by decide) (Nat.le_of_ble_eq_true rfl) (Nat.zero_le _) (Nat.zero_le _) ?_
        first | refine z_ifneB (pc := 21) C 39 dX10_partCount_21 (by decide) (fun hc21 => ?_) (fun hc21 => ?_) | refine z_ifneN (pc := 21) C 39 dX10_partCount_21 (by decide) (by omega) (fun hc21 => ?_) (fun hc21 => ?_) | refine z_if_ne (pc := 21) C 39 dX10_partCount_21 (by decide) (fun hc21 => ?_) (fun hc21 => ?_)
        · skip
          have e5 : (u1, u2) = sprt R (k + 1) := by rw [sprt_in hR (by omega) (by rw [← he]; exact hc21)]; exact he
          first | refine z_iincN (pc := 39) (lv' := [(3, _), (0, _), (1, _), (2, _)]) C 1 dX10_partCount_39 3 rfl (by decide) (by decide) rfl ?_ | refine z_iinc (pc := 39) (lv' := [(3, _), (0, _), (1, _), (2, _)]) C dX10_partCount_39 3 rfl _ rfl (by decide) rfl ?_
          refine z_goto (pc := 42) C 6 dX10_partCount_42 (by decide) ?_
          refine z_sub (lv' := [(0, _), (1, _), (2, _), (3, _)]) [1, 2, 3, 0] rfl ?_
          exact ih (f - 1) (by omega) (k + 1) _ _ ⟨by omega, e5⟩
        · skip
          have e5 : (u1 + 1, u2 ||| sRch R k 127) = sprt R (k + 1) := by rw [sprt, ← he, hc21]; rfl
          first | refine z_iincN (pc := 24) (lv' := [(1, _), (0, _), (2, _), (3, _)]) C 1 dX10_partCount_24 1 rfl (by decide) (by decide) rfl ?_ | refine z_iinc (pc := 24) (lv' := [(1, _), (0, _), (2, _), (3, _)]) C dX10_partCount_24 1 rfl _ rfl (by decide) rfl ?_
          refine z_iload_n (pc := 27) C dX10_partCount_27 2 rfl ?_
          refine z_aload_n (pc := 28) C dX10_partCount_28 1 rfl ?_
          refine z_iload_n (pc := 29) C dX10_partCount_29 3 rfl ?_
          refine z_aload_n (pc := 30) C dX10_partCount_30 1 rfl ?_
          refine z_cS1 (pc := 31) mX10_all C [_] dX10_partCount_31 lX10_28 mtX10_all (tX10_all hT hR) rfl rfl (by decide) (Nat.le_of_ble_eq_true rfl) (Nat.zero_le _) (Nat.zero_le _) ?_
          refine z_cS1 (pc := 34) mX10_reach C [_, _, _] dX10_partCount_34 lX10_42 mtX10_reach (tX10_reach hT hR (by omega)) rfl rfl (by decide) (Nat.le_of_ble_eq_true rfl) (Nat.zero_le _) (Nat.zero_le _) ?_
          rw [sreach_all hR (by omega)]
          first | refine z_iorN (pc := 37) C dX10_partCount_37 ?_ | refine z_ior (pc := 37) C dX10_partCount_37 ?_
          refine z_istore_n (pc := 38) (lv' := [(2, _), (1, _), (0, _), (3, _)]) C dX10_partCount_38 (by decide) rfl ?_
          first | refine z_iincN (pc := 39) (lv' := [(3, _), (2, _), (1, _), (0, _)]) C 1 dX10_partCount_39 3 rfl (by decide) (by decide) rfl ?_ | refine z_iinc (pc := 39) (lv' := [(3, _), (2, _), (1, _), (0, _)]) C dX10_partCount_39 3 rfl _ rfl (by decide) rfl ?_
          refine z_goto (pc := 42) C 6 dX10_partCount_42 (by decide) ?_
          refine z_sub (lv' := [(0, _), (1, _), (2, _), (3, _)]) [3, 2, 1, 0] rfl ?_
          exact ih (f - 1) (by omega) (k + 1) _ _ ⟨by omega, e5⟩
  exact lp6 (R 1) 0 0 0 ⟨by omega, rfl⟩

set_option maxRecDepth 20000 in
set_option maxHeartbeats 1000000 in
theorem tX11_parts {h : ZH} {st : Nat} {ic tb fa pl : Int32} {t : Nat} {R S : Nat → Nat}  (hK : h 1000 = some (zO 7 (kfs st ic tb fa pl))) (hC : Scn h 1051 1052 1053 t R S) (hR : wfR R) (hS : wfS R S) : ZD mX11_parts 4 [.ref 1000] h (some (.int (aParts R).1)) (zup h 1000 (zO 7 (kfs st ic (aParts R).2 fa pl))) := by
  intro n
  obtain ⟨w1, w3, w4, w5, w0, wP, wM, wK, wX⟩ := id hR
  obtain ⟨wT, wL, wB⟩ := id hS
  obtain ⟨hT, fl, ft, s0, s1, s2, rl, rt⟩ := id hC
  obtain ⟨fc, fh, fn, fk, fs, ff, fw, fe, t0, t1, t2, t3, t4, t5, t6, t7, t8, rc, rh, rn, rk, rs, rf, rv, re⟩ := id hT
  refine z_enter (lv := [(0, _)]) (by decide) (Nat.le_of_ble_eq_true rfl) rfl (fun X C => ?_)
  refine z_aload_n (pc := 0) C dX11_parts_0 0 rfl ?_
  refine z_cV1 (pc := 1) mX11_isForest C [] dX11_parts_1 lX11_183 mtX11_isForest (tX11_isForest (by first | assumption | omega) (by first | assumption | omega) (by first | assumption | omega)) (by assumption) rfl rfl (by decide) (Nat.le_of_ble_eq_true rfl) (Nat.zero_le _) (Nat.zero_le _) ?_
  first | refine z_ifneB (pc := 4) C 13 dX11_parts_4 (by decide) (fun hc4 => ?_) (fun hc4 => ?_) | refine z_ifneN (pc := 4) C 13 dX11_parts_4 (by decide) (by omega) (fun hc4 => ?_) (fun hc4 => ?_) | refine z_if_ne (pc := 4) C 13 dX11_parts_4 (by decide) (fun hc4 => ?_) (fun hc4 => ?_)
  · skip
    have e0 := of_decide_eq_true hc4
    refine z_aload_n (pc := 13) C dX11_parts_13 0 rfl ?_
    refine z_aload_n (pc := 14) C dX11_parts_14 0 rfl ?_
    refine z_getf (pc := 15) C dX11_parts_15 fX11_53 (by assumption) (by first | rfl | assumption) ?_
    refine z_getf (pc := 18) C dX11_parts_18 fX11_120 (by assumption) (by first | rfl | assumption) ?_
    refine z_cS1 (pc := 21) mX10_partCount C [_] dX11_parts_21 lX11_225 mtX10_partCount (tX10_partCount hT hR) rfl rfl (by decide) (Nat.le_of_ble_eq_true rfl) (Nat.zero_le _) (Nat.zero_le _) ?_
    refine z_cV1 (pc := 24) mX11_answer C [_] dX11_parts_24 lX11_108 mtX11_answer (tX11_answer (by first | assumption | omega)) (by assumption) rfl rfl (by decide) (Nat.le_of_ble_eq_true rfl) (Nat.zero_le _) (Nat.zero_le _) ?_
    refine z_iret (pc := 27) C dX11_parts_27 rfl (Nat.zero_le _) (Nat.zero_le _) ⟨?_, ?_, rfl⟩
    · simp [aParts, aF, *]
    · simp [aParts, aF, *] <;> rfl
  · skip
    have e0 := of_decide_eq_false hc4
    refine z_aload_n (pc := 7) C dX11_parts_7 0 rfl ?_
    refine z_iconst (pc := 8) C dX11_parts_8 (nI 1) (by decide) ?_
    refine z_cV1 (pc := 9) mX11_refuse C [_] dX11_parts_9 lX11_70 mtX11_refuse (tX11_refuse (by first | assumption | omega)) (by assumption) rfl rfl (by decide) (Nat.le_of_ble_eq_true rfl) (Nat.zero_le _) (Nat.zero_le _) ?_
    refine z_iret (pc := 12) C dX11_parts_12 rfl (Nat.zero_le _) (Nat.zero_le _) ⟨?_, ?_, rfl⟩
    · simp [aParts, aF, *]
    · simp [aParts, aF, *] <;> rfl

set_option maxRecDepth 20000 in
set_option maxHeartbeats 1000000 in
theorem tX1_loneliest {h : ZH} {s le tr t : Nat} {R S : Nat → Nat} (hC : Scn h s le tr t R S) (hR : wfR R) (hS : wfS R S) : ZD mX1_loneliest 5 [.ref s] h (some (.int (zo (smost (fun m => snea R S m (R 4)) (R 3))))) h := by
  intro n
  obtain ⟨w1, w3, w4, w5, w0, wP, wM, wK, wX⟩ := id hR
  obtain ⟨wT, wL, wB⟩ := id hS
  obtain ⟨hT, fl, ft, s0, s1, s2, rl, rt⟩ := id hC
  obtain ⟨fc, fh, fn, fk, fs, ff, fw, fe, t0, t1, t2, t3, t4, t5, t6, t7, t8, rc, rh, rn, rk, rs, rf, rv, re⟩ := id hT
  refine z_enter (lv := [(0, _)]) (by decide) (Nat.le_of_ble_eq_true rfl) rfl (fun X C => ?_)
  refine z_bipush (pc := 0) C dX1_loneliest_0 (zo none) (by decide) ?_
  refine z_istore_n (pc := 2) (lv' := [(1, _), (0, _)]) C dX1_loneliest_2 (by decide) rfl ?_
  refine z_iconst (pc := 3) C dX1_loneliest_3 (zm none) (by decide) ?_
  refine z_istore_n (pc := 4) (lv' := [(2, _), (1, _), (0, _)]) C dX1_loneliest_4 (by decide) rfl ?_
  refine z_iconst (pc := 5) C dX1_loneliest_5 (nI 0) (by decide) ?_
  refine z_istore_n (pc := 6) (lv' := [(3, _), (2, _), (1, _), (0, _)]) C dX1_loneliest_6 (by decide) rfl ?_
  refine z_sub (lv' := [(0, _), (1, _), (2, _), (3, _)]) [3, 2, 1, 0] rfl ?_
  have lp7 : ∀ (f : Nat) (k : Nat) (t1 u : Option Nat), (k + f = R 3 ∧ t1 = smost (fun m => sn7 R S m (R 4)) k ∧ u = t1.map (fun m => sn7 R S m (R 4))) → Zc X mX1_loneliest (zEnd X (fun r hh n' => r = (some (.int (zo (smost (fun m => snea R S m (R 4)) (R 3))))) ∧ hh = h ∧ n' = n) 0 0) 7 [(0, .ref s), (1, .int (zo t1)), (2, .int (zm u)), (3, .int (nI k))] [] h n 0 0 := by
    intro f
    induction f using Nat.strongRecOn with
    | _ f ih =>
      intro k t1 u hk
      obtain ⟨hk, he, hu⟩ := hk
      have e1 : ∀ w, u = some w → w < 2147483648 := fun w hw => by rw [hu] at hw; have := smap_lt (L := (fun m => sn7 R S m (R 4))) (c := 8) (fun m => by have := sn7_le R S m (R 4); show sn7 _ _ _ _ < _; omega) t1 w hw; omega
      refine z_iload_n (pc := 7) C dX1_loneliest_7 3 rfl ?_
      refine z_aload_n (pc := 8) C dX1_loneliest_8 0 rfl ?_
      refine z_getf (pc := 9) C dX1_loneliest_9 fX1_21 (by assumption) (by first | rfl | assumption) ?_
      refine z_getf (pc := 12) C dX1_loneliest_12 fX1_38 (by assumption) (by first | rfl | assumption) ?_
      refine z_iconst (pc := 15) C dX1_loneliest_15 (nI 3) (by decide) ?_
      refine z_ialdE (pc := 16) C dX1_loneliest_16 (by assumption) (by omega) (by decide) (rc 3 (by decide) (by decide)) ?_
      first | refine z_icmpgeN (pc := 17) C 44 dX1_loneliest_17 (by decide) (by omega) (by omega) (fun hc17 => ?_) (fun hc17 => ?_) | refine z_icmp_ge (pc := 17) C 44 dX1_loneliest_17 (by decide) (fun hc17 => ?_) (fun hc17 => ?_)
      · skip
        refine z_iload_n (pc := 44) C dX1_loneliest_44 1 rfl ?_
        refine z_iret (pc := 45) C dX1_loneliest_45 rfl (Nat.zero_le _) (Nat.zero_le _) ⟨?_, ?_, rfl⟩
        · obtain rfl : f = 0 := (by omega); obtain rfl : k = R 3 := (by omega); rw [he, slon_eq hR hS]
        · rfl
      · skip
        refine z_aload_n (pc := 20) C dX1_loneliest_20 0 rfl ?_
        refine z_iload_n (pc := 21) C dX1_loneliest_21 3 rfl ?_
        refine z_cS1 (pc := 22) mX1_nearestTo C [_, _] dX1_loneliest_22 lX1_59 mtX1_nearestTo (tX1_nearestTo hC hR hS (by omega)) rfl rfl (by decide) (Nat.le_of_ble_eq_true rfl) (Nat.zero_le _) (Nat.zero_le _) ?_
        refine z_istore (pc := 25) (lv' := [(4, _), (0, _), (1, _), (2, _), (3, _)]) C dX1_loneliest_25 (by decide) rfl ?_
        refine z_iload (pc := 27) C dX1_loneliest_27 0 rfl ?_
        refine z_iload_n (pc := 29) C dX1_loneliest_29 3 rfl ?_
        have e3 := sn7_le R S k (R 4)
        refine z_icmp_le (pc := 30) C 38 dX1_loneliest_30 (by decide) (fun hc30 => ?_) (fun hc30 => ?_)
        · skip
          obtain ⟨w, hw, hw2⟩ := (zm_le (by omega) e1).mp hc30
          have e5 : t1 = smost (fun m => sn7 R S m (R 4)) (k + 1) := by rw [he]; exact (smost_le (L := (fun m => sn7 R S m (R 4))) (k := k) (w := w) (by rw [← he, ← hu]; exact hw) hw2).symm
          have e6 : u = t1.map (fun m => sn7 R S m (R 4)) := hu
          first | refine z_iincN (pc := 38) (lv' := [(3, _), (4, _), (0, _), (1, _), (2, _)]) C 1 dX1_loneliest_38 4 rfl (by decide) (by decide) rfl ?_ | refine z_iinc (pc := 38) (lv' := [(3, _), (4, _), (0, _), (1, _), (2, _)]) C dX1_loneliest_38 4 rfl _ rfl (by decide) rfl ?_
          refine z_goto (pc := 41) C 7 dX1_loneliest_41 (by decide) ?_
          refine z_sub (lv' := [(0, _), (1, _), (2, _), (3, _)]) [2, 3, 4, 0] rfl ?_
          exact ih (f - 1) (by omega) (k + 1) _ _ ⟨by omega, e5, e6⟩
        · skip
          have e5 : some k = smost (fun m => sn7 R S m (R 4)) (k + 1) := (smost_gt (L := (fun m => sn7 R S m (R 4))) (k := k) (fun z => hc30 ((zm_le (by omega) e1).mpr (by rw [hu, he]; exact z)))).symm
          have e6 : some (sn7 R S k (R 4)) = (some k).map (fun m => sn7 R S m (R 4)) := rfl
          refine z_iload (pc := 33) C dX1_loneliest_33 0 rfl ?_
          refine z_top (show nI (sn7 R S k (R 4)) = zm (some (sn7 R S k (R 4))) from rfl) ?_
          refine z_istore_n (pc := 35) (lv' := [(2, _), (4, _), (0, _), (1, _), (3, _)]) C dX1_loneliest_35 (by decide) rfl ?_
          refine z_iload_n (pc := 36) C dX1_loneliest_36 4 rfl ?_
          refine z_top (show nI k = zo (some k) from rfl) ?_
          refine z_istore_n (pc := 37) (lv' := [(1, _), (2, _), (4, _), (0, _), (3, _)]) C dX1_loneliest_37 (by decide) rfl ?_
          first | refine z_iincN (pc := 38) (lv' := [(3, _), (1, _), (2, _), (4, _), (0, _)]) C 1 dX1_loneliest_38 4 rfl (by decide) (by decide) rfl ?_ | refine z_iinc (pc := 38) (lv' := [(3, _), (1, _), (2, _), (4, _), (0, _)]) C dX1_loneliest_38 4 rfl _ rfl (by decide) rfl ?_
          refine z_goto (pc := 41) C 7 dX1_loneliest_41 (by decide) ?_
          refine z_sub (lv' := [(0, _), (1, _), (2, _), (3, _)]) [4, 1, 2, 0] rfl ?_
          exact ih (f - 1) (by omega) (k + 1) _ _ ⟨by omega, e5, e6⟩
  exact lp7 (R 3) 0 none none ⟨by omega, rfl, rfl⟩

set_option maxRecDepth 20000 in
set_option maxHeartbeats 1000000 in
theorem tX11_lonely {h : ZH} {st : Nat} {ic tb fa pl : Int32} {t : Nat} {R S : Nat → Nat}  (hK : h 1000 = some (zO 7 (kfs st ic tb fa pl))) (hC : Scn h 1051 1052 1053 t R S) (hR : wfR R) (hS : wfS R S) : ZD mX11_lonely 6 [.ref 1000] h (some (.int (aLon R S).1)) (zup h 1000 (zO 7 (kfs st ic (aLon R S).2 fa pl))) := by
  intro n
  obtain ⟨w1, w3, w4, w5, w0, wP, wM, wK, wX⟩ := id hR
  obtain ⟨wT, wL, wB⟩ := id hS
  obtain ⟨hT, fl, ft, s0, s1, s2, rl, rt⟩ := id hC
  obtain ⟨fc, fh, fn, fk, fs, ff, fw, fe, t0, t1, t2, t3, t4, t5, t6, t7, t8, rc, rh, rn, rk, rs, rf, rv, re⟩ := id hT
  refine z_enter (lv := [(0, _)]) (by decide) (Nat.le_of_ble_eq_true rfl) rfl (fun X C => ?_)
  refine z_aload_n (pc := 0) C dX11_lonely_0 0 rfl ?_
  refine z_cV1 (pc := 1) mX11_isForest C [] dX11_lonely_1 lX11_183 mtX11_isForest (tX11_isForest (by first | assumption | omega) (by first | assumption | omega) (by first | assumption | omega)) (by assumption) rfl rfl (by decide) (Nat.le_of_ble_eq_true rfl) (Nat.zero_le _) (Nat.zero_le _) ?_
  first | refine z_ifneB (pc := 4) C 13 dX11_lonely_4 (by decide) (fun hc4 => ?_) (fun hc4 => ?_) | refine z_ifneN (pc := 4) C 13 dX11_lonely_4 (by decide) (by omega) (fun hc4 => ?_) (fun hc4 => ?_) | refine z_if_ne (pc := 4) C 13 dX11_lonely_4 (by decide) (fun hc4 => ?_) (fun hc4 => ?_)
  · skip
    have e0 := of_decide_eq_true hc4
    refine z_aload_n (pc := 13) C dX11_lonely_13 0 rfl ?_
    refine z_aload_n (pc := 14) C dX11_lonely_14 0 rfl ?_
    refine z_getf (pc := 15) C dX11_lonely_15 fX11_53 (by assumption) (by first | rfl | assumption) ?_
    refine z_cS1 (pc := 18) mX1_loneliest C [_] dX11_lonely_18 lX11_255 mtX1_loneliest (tX1_loneliest (by first | assumption | omega) (by first | assumption | omega) (by first | assumption | omega)) rfl rfl (by decide) (Nat.le_of_ble_eq_true rfl) (Nat.zero_le _) (Nat.zero_le _) ?_
    refine z_cV1 (pc := 21) mX11_answer C [_] dX11_lonely_21 lX11_108 mtX11_answer (tX11_answer (by first | assumption | omega)) (by assumption) rfl rfl (by decide) (Nat.le_of_ble_eq_true rfl) (Nat.zero_le _) (Nat.zero_le _) ?_
    refine z_iret (pc := 24) C dX11_lonely_24 rfl (Nat.zero_le _) (Nat.zero_le _) ⟨?_, ?_, rfl⟩
    · simp [aLon, aF, *]
    · simp [aLon, aF, *] <;> rfl
  · skip
    have e0 := of_decide_eq_false hc4
    refine z_aload_n (pc := 7) C dX11_lonely_7 0 rfl ?_
    refine z_iconst (pc := 8) C dX11_lonely_8 (nI 1) (by decide) ?_
    refine z_cV1 (pc := 9) mX11_refuse C [_] dX11_lonely_9 lX11_70 mtX11_refuse (tX11_refuse (by first | assumption | omega)) (by assumption) rfl rfl (by decide) (Nat.le_of_ble_eq_true rfl) (Nat.zero_le _) (Nat.zero_le _) ?_
    refine z_iret (pc := 12) C dX11_lonely_12 rfl (Nat.zero_le _) (Nat.zero_le _) ⟨?_, ?_, rfl⟩
    · simp [aLon, aF, *]
    · simp [aLon, aF, *] <;> rfl

set_option maxRecDepth 20000 in
set_option maxHeartbeats 1000000 in
theorem tX1_isCompany {h : ZH} {s le tr t : Nat} {R S : Nat → Nat} {g : Nat → Nat} {a c : Nat} (hC : Scn h s le tr t R S) (hR : wfR R) (hO : h 1032 = some (zO 0 [.ref 1033])) (hQ : h 1033 = some (zI 4 g)) (hg : ∀ m, m < R 3 → g m = scl R S c m) (hc : c < 1000000) (ha : a < 2147483648) : ZD mX1_isCompany 0 [.ref 1032, .ref s, .int (nI a)] h (some (.int (zb (scom R S a c (R 3))))) h := by
  intro n
  obtain ⟨w1, w3, w4, w5, w0, wP, wM, wK, wX⟩ := id hR
  obtain ⟨hT, fl, ft, s0, s1, s2, rl, rt⟩ := id hC
  obtain ⟨fc, fh, fn, fk, fs, ff, fw, fe, t0, t1, t2, t3, t4, t5, t6, t7, t8, rc, rh, rn, rk, rs, rf, rv, re⟩ := id hT
  refine z_enter (lv := [(0, _), (1, _), (2, _)]) (by decide) (Nat.le_of_ble_eq_true rfl) rfl (fun X C => ?_)
  refine z_iconst (pc := 0) C dX1_isCompany_0 (nI 0) (by decide) ?_
  refine z_istore_n (pc := 1) (lv' := [(3, _), (0, _), (1, _), (2, _)]) C dX1_isCompany_1 (by decide) rfl ?_
  refine z_sub (lv' := [(0, _), (1, _), (2, _), (3, _)]) [1, 2, 3, 0] rfl ?_
  have lp2 : ∀ (f : Nat) (k : Nat), (k + f = R 3 ∧ scom R S a c k = true) → Zc X mX1_isCompany (zEnd X (fun r hh n' => r = (some (.int (zb (scom R S a c (R 3))))) ∧ hh = h ∧ n' = n) 0 0) 2 [(0, .ref 1032), (1, .ref s), (2, .int (nI a)), (3, .int (nI k))] [] h n 0 0 := by
    intro f
    induction f using Nat.strongRecOn with
    | _ f ih =>
      intro k hk
      obtain ⟨hk, he⟩ := hk
      refine z_iload_n (pc := 2) C dX1_isCompany_2 3 rfl ?_
      refine z_aload_n (pc := 3) C dX1_isCompany_3 1 rfl ?_
      refine z_getf (pc := 4) C dX1_isCompany_4 fX1_21 (by assumption) (by first | rfl | assumption) ?_
      refine z_getf (pc := 7) C dX1_isCompany_7 fX1_38 (by assumption) (by first | rfl | assumption) ?_
      refine z_iconst (pc := 10) C dX1_isCompany_10 (nI 3) (by decide) ?_
      refine z_ialdE (pc := 11) C dX1_isCompany_11 (by assumption) (by omega) (by decide) (rc 3 (by decide) (by decide)) ?_
      first | refine z_icmpgeN (pc := 12) C 34 dX1_isCompany_12 (by decide) (by omega) (by omega) (fun hc12 => ?_) (fun hc12 => ?_) | refine z_icmp_ge (pc := 12) C 34 dX1_isCompany_12 (by decide) (fun hc12 => ?_) (fun hc12 => ?_)
      · skip
        refine z_iconst (pc := 34) C dX1_isCompany_34 (zb true) (by decide) ?_
        refine z_zret (pc := 35) C dX1_isCompany_35 rfl (by first | exact zb_nar _ | rfl) (Nat.zero_le _) (Nat.zero_le _) ⟨?_, ?_, rfl⟩
        · obtain rfl : k = R 3 := (by omega); rw [he]
        · rfl
      · skip
        refine z_aload_n (pc := 15) C dX1_isCompany_15 0 rfl ?_
        refine z_getf (pc := 16) C dX1_isCompany_16 fX1_9 (by assumption) (by first | rfl | assumption) ?_
        refine z_iload_n (pc := 19) C dX1_isCompany_19 3 rfl ?_
        refine z_ialdE (pc := 20) C dX1_isCompany_20 (by assumption) (by omega) (by decide) (hg k (by omega)) ?_
        refine z_iload_n (pc := 21) C dX1_isCompany_21 2 rfl ?_
        first | refine z_iandN (pc := 22) C dX1_isCompany_22 ?_ | refine z_iand (pc := 22) C dX1_isCompany_22 ?_
        have e2 : scl R S c k &&& a < 2147483648 := Nat.lt_of_le_of_lt Nat.and_le_right ha
        first | refine z_ifneB (pc := 23) C 28 dX1_isCompany_23 (by decide) (fun hc23 => ?_) (fun hc23 => ?_) | refine z_ifneN (pc := 23) C 28 dX1_isCompany_23 (by decide) (by omega) (fun hc23 => ?_) (fun hc23 => ?_) | refine z_if_ne (pc := 23) C 28 dX1_isCompany_23 (by decide) (fun hc23 => ?_) (fun hc23 => ?_)
        · skip
          have e5 : shas R S a c k (R 4) = true := (shas_and hc a k).mpr (by omega)
          first | refine z_iincN (pc := 28) (lv' := [(3, _), (0, _), (1, _), (2, _)]) C 1 dX1_isCompany_28 3 rfl (by decide) (by decide) rfl ?_ | refine z_iinc (pc := 28) (lv' := [(3, _), (0, _), (1, _), (2, _)]) C dX1_isCompany_28 3 rfl _ rfl (by decide) rfl ?_
          refine z_goto (pc := 31) C 2 dX1_isCompany_31 (by decide) ?_
          refine z_sub (lv' := [(0, _), (1, _), (2, _), (3, _)]) [1, 2, 3, 0] rfl ?_
          exact ih (f - 1) (by omega) (k + 1) ⟨by omega, by rw [scom, he, e5]; rfl⟩
        · skip
          have e5 : shas R S a c k (R 4) = false := by cases z : shas R S a c k (R 4) with | false => rfl | true => exact absurd hc23 ((shas_and hc a k).mp z)
          refine z_iconst (pc := 26) C dX1_isCompany_26 (zb false) (by decide) ?_
          refine z_zret (pc := 27) C dX1_isCompany_27 rfl (by first | exact zb_nar _ | rfl) (Nat.zero_le _) (Nat.zero_le _) ⟨?_, ?_, rfl⟩
          · rw [scom_f e5 (R 3) (by omega)]
          · rfl
  exact lp2 (R 3) 0 ⟨by omega, rfl⟩

set_option maxRecDepth 20000 in
set_option maxHeartbeats 1000000 in
theorem tX1_fewestKills {h : ZH} {t : Nat} {R S : Nat → Nat} {g : Nat → Nat} {c : Nat} (hC : Scn h 1051 1052 1053 t R S) (hR : wfR R) (hS : wfS R S) (hO : h 1032 = some (zO 0 [.ref 1033])) (hQ : h 1033 = some (zI 4 g)) (hq : t = 1008 ∨ t = 1039) (hc : c < 8) : ZD mX1_fewestKills 5 [.ref 1032, .ref 1051, .int (nI c)] h (some (.int (zo (scmp R S c (1 <<< R 4))))) (zup h 1033 (zI 4 (sclo R S c g (R 3)))) := by
  intro n
  obtain ⟨w1, w3, w4, w5, w0, wP, wM, wK, wX⟩ := id hR
  obtain ⟨wT, wL, wB⟩ := id hS
  have s4 : 1 <<< R 4 ≤ 64 := by rw [Nat.shiftLeft_eq, Nat.one_mul]; exact Nat.le_trans (Nat.pow_le_pow_right (n := 2) (by decide) w4) (by decide)
  have hh : ∀ g, Scn (zup h 1033 (zI 4 g)) 1051 1052 1053 t R S := fun g => Scn_up hC (by decide) (by decide) (by decide) (by omega)
  have hO1 : ∀ g, zup h 1033 (zI 4 g) 1032 = some (zO 0 [.ref 1033]) := fun g => (zup_ne (by decide)).trans hO
  refine z_enter (lv := [(0, _), (1, _), (2, _)]) (by decide) (Nat.le_of_ble_eq_true rfl) rfl (fun X C => ?_)
  refine z_iconst (pc := 0) C dX1_fewestKills_0 (nI 0) (by decide) ?_
  refine z_istore_n (pc := 1) (lv' := [(3, _), (0, _), (1, _), (2, _)]) C dX1_fewestKills_1 (by decide) rfl ?_
  refine z_sub (lv' := [(0, _), (1, _), (2, _), (3, _)]) [1, 2, 3, 0] rfl ?_
  have lp2 : ∀ (f : Nat) (k : Nat), (k + f = R 3) → Zc X mX1_fewestKills (zEnd X (fun r hh n' => r = (some (.int (zo (scmp R S c (1 <<< R 4))))) ∧ hh = (zup h 1033 (zI 4 (sclo R S c g (R 3)))) ∧ n' = n) 0 0) 2 [(0, .ref 1032), (1, .ref 1051), (2, .int (nI c)), (3, .int (nI k))] [] (zup h 1033 (zI 4 (sclo R S c g k))) n 0 0 := by
    intro f
    induction f using Nat.strongRecOn with
    | _ f ih =>
      intro k hk
      obtain ⟨hT, fl, ft, s0, s1, s2, rl, rt⟩ := hh (sclo R S c g k)
      obtain ⟨fc, fh, fn, fk, fs, ff, fw, fe, t0, t1, t2, t3, t4, t5, t6, t7, t8, rc, rh, rn, rk, rs, rf, rv, re⟩ := id hT
      refine z_iload_n (pc := 2) C dX1_fewestKills_2 3 rfl ?_
      refine z_aload_n (pc := 3) C dX1_fewestKills_3 1 rfl ?_
      refine z_getf (pc := 4) C dX1_fewestKills_4 fX1_21 (by assumption) (by first | rfl | assumption) ?_
      refine z_getf (pc := 7) C dX1_fewestKills_7 fX1_38 (by assumption) (by first | rfl | assumption) ?_
      refine z_iconst (pc := 10) C dX1_fewestKills_10 (nI 3) (by decide) ?_
      refine z_ialdE (pc := 11) C dX1_fewestKills_11 (by assumption) (by omega) (by decide) (rc 3 (by decide) (by decide)) ?_
      first | refine z_icmpgeN (pc := 12) C 33 dX1_fewestKills_12 (by decide) (by omega) (by omega) (fun hc12 => ?_) (fun hc12 => ?_) | refine z_icmp_ge (pc := 12) C 33 dX1_fewestKills_12 (by decide) (fun hc12 => ?_) (fun hc12 => ?_)
      · skip
        refine z_bipush (pc := 33) C dX1_fewestKills_33 (zo none) (by decide) ?_
        refine z_istore_n (pc := 35) (lv' := [(3, _), (0, _), (1, _), (2, _)]) C dX1_fewestKills_35 (by decide) rfl ?_
        refine z_bipush (pc := 36) C dX1_fewestKills_36 (nI (sfw 7 none)) (by decide) ?_
        refine z_istore (pc := 38) (lv' := [(4, _), (3, _), (0, _), (1, _), (2, _)]) C dX1_fewestKills_38 (by decide) rfl ?_
        refine z_iconst (pc := 40) C dX1_fewestKills_40 (nI 0) (by decide) ?_
        refine z_istore (pc := 41) (lv' := [(5, _), (4, _), (3, _), (0, _), (1, _), (2, _)]) C dX1_fewestKills_41 (by decide) rfl ?_
        refine z_sub (lv' := [(0, _), (1, _), (2, _), (3, _), (4, _), (5, _)]) [3, 4, 5, 2, 1, 0] rfl ?_
        have lp43 : ∀ (f2 : Nat) (k : Nat) (o1 : Option Nat), (k + f2 = 1 <<< R 4 ∧ o1 = scmp R S c k) → Zc X mX1_fewestKills (zEnd X (fun r hh n' => r = (some (.int (zo (scmp R S c (1 <<< R 4))))) ∧ hh = (zup h 1033 (zI 4 (sclo R S c g (R 3)))) ∧ n' = n) 0 0) 43 [(0, .ref 1032), (1, .ref 1051), (2, .int (nI c)), (3, .int (zo o1)), (4, .int (nI (sfw 7 o1))), (5, .int (nI k))] [] (zup h 1033 (zI 4 (sclo R S c g (R 3)))) n 0 0 := by
          intro f2
          induction f2 using Nat.strongRecOn with
          | _ f2 ih2 =>
            intro k o1 hk
            obtain ⟨hk, he⟩ := hk
            have e3 := sone_le k 8
            have e1 := sfw_le (d := 7) (by decide) o1
            obtain ⟨hT, fl, ft, s0, s1, s2, rl, rt⟩ := hh (sclo R S c g (R 3))
            obtain ⟨fc, fh, fn, fk, fs, ff, fw, fe, t0, t1, t2, t3, t4, t5, t6, t7, t8, rc, rh, rn, rk, rs, rf, rv, re⟩ := id hT
            refine z_iload (pc := 43) C dX1_fewestKills_43 5 rfl ?_
            refine z_iconst (pc := 45) C dX1_fewestKills_45 (nI 1) (by decide) ?_
            refine z_aload_n (pc := 46) C dX1_fewestKills_46 1 rfl ?_
            refine z_getf (pc := 47) C dX1_fewestKills_47 fX1_21 (by assumption) (by first | rfl | assumption) ?_
            refine z_getf (pc := 50) C dX1_fewestKills_50 fX1_38 (by assumption) (by first | rfl | assumption) ?_
            refine z_iconst (pc := 53) C dX1_fewestKills_53 (nI 4) (by decide) ?_
            refine z_ialdE (pc := 54) C dX1_fewestKills_54 (by assumption) (by omega) (by decide) (rc 4 (by decide) (by decide)) ?_
            first | refine z_ishlN (pc := 55) C dX1_fewestKills_55 (by omega) ?_ | refine z_ishl (pc := 55) C dX1_fewestKills_55 ?_
            first | refine z_icmpgeN (pc := 56) C 95 dX1_fewestKills_56 (by decide) (by omega) (by omega) (fun hc56 => ?_) (fun hc56 => ?_) | refine z_icmp_ge (pc := 56) C 95 dX1_fewestKills_56 (by decide) (fun hc56 => ?_) (fun hc56 => ?_)
            · skip
              refine z_iload_n (pc := 95) C dX1_fewestKills_95 3 rfl ?_
              refine z_iret (pc := 96) C dX1_fewestKills_96 rfl (Nat.zero_le _) (Nat.zero_le _) ⟨?_, ?_, rfl⟩
              · obtain rfl : f2 = 0 := (by omega); obtain rfl : k = 1 <<< R 4 := (by omega); rw [he]
              · rfl
            · skip
              refine z_iload (pc := 59) C dX1_fewestKills_59 5 rfl ?_
              refine z_cS1 (pc := 61) mJ6_bitCount_0f7a4 C [_] dX1_fewestKills_61 lX1_47 mtJ6_bitCount_0f7a4 (tJ6_bitCount_0f7a4 (by omega)) rfl rfl (by decide) (Nat.le_of_ble_eq_true rfl) (Nat.zero_le _) (Nat.zero_le _) ?_
              refine z_iload (pc := 64) C dX1_fewestKills_64 4 rfl ?_
              first | refine z_icmpgeN (pc := 66) C 89 dX1_fewestKills_66 (by decide) (by omega) (by omega) (fun hc66 => ?_) (fun hc66 => ?_) | refine z_icmp_ge (pc := 66) C 89 dX1_fewestKills_66 (by decide) (fun hc66 => ?_) (fun hc66 => ?_)
              · skip
                have e5 : o1 = scmp R S c (k + 1) := by
                  rw [scmp_s, ← he]
                  refine (if_neg (fun z => ?_)).symm
                  have := (sfw_cm (t := o1) (k := k) (by omega)).mpr ((Bool.and_eq_true _ _).mp z).1
                  omega
                first | refine z_iincN (pc := 89) (lv' := [(5, _), (0, _), (1, _), (2, _), (3, _), (4, _)]) C 1 dX1_fewestKills_89 5 rfl (by decide) (by decide) rfl ?_ | refine z_iinc (pc := 89) (lv' := [(5, _), (0, _), (1, _), (2, _), (3, _), (4, _)]) C dX1_fewestKills_89 5 rfl _ rfl (by decide) rfl ?_
                refine z_goto (pc := 92) C 43 dX1_fewestKills_92 (by decide) ?_
                refine z_sub (lv' := [(0, _), (1, _), (2, _), (3, _), (4, _), (5, _)]) [1, 2, 3, 4, 5, 0] rfl ?_
                exact ih2 (f2 - 1) (by omega) (k + 1) _ ⟨by omega, e5⟩
              · skip
                have e6 := (sfw_cm (t := o1) (k := k) (by omega)).mp hc66
                refine z_aload_n (pc := 69) C dX1_fewestKills_69 0 rfl ?_
                refine z_aload_n (pc := 70) C dX1_fewestKills_70 1 rfl ?_
                refine z_iload (pc := 71) C dX1_fewestKills_71 5 rfl ?_
                refine z_cV1 (pc := 73) mX1_isCompany C [_, _] dX1_fewestKills_73 lX1_52 mtX1_isCompany (tX1_isCompany (hh _) hR (hO1 _) (zup_same _ _ _) (fun m hm => if_pos hm) (by omega) (by omega)) (hO1 _) rfl rfl (by decide) (Nat.le_of_ble_eq_true rfl) (Nat.zero_le _) (Nat.zero_le _) ?_
                first | refine z_ifeqB (pc := 76) C 89 dX1_fewestKills_76 (by decide) (fun hc76 => ?_) (fun hc76 => ?_) | refine z_ifeqN (pc := 76) C 89 dX1_fewestKills_76 (by decide) (by omega) (fun hc76 => ?_) (fun hc76 => ?_) | refine z_if_eq (pc := 76) C 89 dX1_fewestKills_76 (by decide) (fun hc76 => ?_) (fun hc76 => ?_)
                · skip
                  have e5 : o1 = scmp R S c (k + 1) := by rw [scmp_s, ← he, hc76, Bool.and_false]; rfl
                  first | refine z_iincN (pc := 89) (lv' := [(5, _), (0, _), (1, _), (2, _), (3, _), (4, _)]) C 1 dX1_fewestKills_89 5 rfl (by decide) (by decide) rfl ?_ | refine z_iinc (pc := 89) (lv' := [(5, _), (0, _), (1, _), (2, _), (3, _), (4, _)]) C dX1_fewestKills_89 5 rfl _ rfl (by decide) rfl ?_
                  refine z_goto (pc := 92) C 43 dX1_fewestKills_92 (by decide) ?_
                  refine z_sub (lv' := [(0, _), (1, _), (2, _), (3, _), (4, _), (5, _)]) [1, 2, 3, 4, 5, 0] rfl ?_
                  exact ih2 (f2 - 1) (by omega) (k + 1) _ ⟨by omega, e5⟩
                · skip
                  have e5 : some k = scmp R S c (k + 1) := by rw [scmp_s, ← he, hc76, e6]; rfl
                  refine z_iload (pc := 79) C dX1_fewestKills_79 5 rfl ?_
                  refine z_top (show nI k = zo (some k) from rfl) ?_
                  refine z_istore_n (pc := 81) (lv' := [(3, _), (0, _), (1, _), (2, _), (4, _), (5, _)]) C dX1_fewestKills_81 (by decide) rfl ?_
                  refine z_iload (pc := 82) C dX1_fewestKills_82 5 rfl ?_
                  refine z_cS1 (pc := 84) mJ6_bitCount_0f7a4 C [_] dX1_fewestKills_84 lX1_47 mtJ6_bitCount_0f7a4 (tJ6_bitCount_0f7a4 (by omega)) rfl rfl (by decide) (Nat.le_of_ble_eq_true rfl) (Nat.zero_le _) (Nat.zero_le _) ?_
                  refine z_top (show nI (sone k 8) = nI (sfw 7 (some k)) from rfl) ?_
                  refine z_istore (pc := 87) (lv' := [(4, _), (3, _), (0, _), (1, _), (2, _), (5, _)]) C dX1_fewestKills_87 (by decide) rfl ?_
                  first | refine z_iincN (pc := 89) (lv' := [(5, _), (4, _), (3, _), (0, _), (1, _), (2, _)]) C 1 dX1_fewestKills_89 5 rfl (by decide) (by decide) rfl ?_ | refine z_iinc (pc := 89) (lv' := [(5, _), (4, _), (3, _), (0, _), (1, _), (2, _)]) C dX1_fewestKills_89 5 rfl _ rfl (by decide) rfl ?_
                  refine z_goto (pc := 92) C 43 dX1_fewestKills_92 (by decide) ?_
                  refine z_sub (lv' := [(0, _), (1, _), (2, _), (3, _), (4, _), (5, _)]) [3, 4, 5, 2, 1, 0] rfl ?_
                  exact ih2 (f2 - 1) (by omega) (k + 1) _ ⟨by omega, e5⟩
        (obtain rfl : k = R 3 := (by omega); exact lp43 (1 <<< R 4) 0 none ⟨by omega, rfl⟩)
      · skip
        refine z_aload_n (pc := 15) C dX1_fewestKills_15 0 rfl ?_
        refine z_getf (pc := 16) C dX1_fewestKills_16 fX1_9 (hO1 _) (by first | rfl | assumption) ?_
        refine z_iload_n (pc := 19) C dX1_fewestKills_19 3 rfl ?_
        refine z_aload_n (pc := 20) C dX1_fewestKills_20 1 rfl ?_
        refine z_iload_n (pc := 21) C dX1_fewestKills_21 3 rfl ?_
        refine z_iload_n (pc := 22) C dX1_fewestKills_22 2 rfl ?_
        refine z_cS1 (pc := 23) mX1_killsWithin C [_, _, _] dX1_fewestKills_23 lX1_43 mtX1_killsWithin (tX1_killsWithin (hh _) hR hS (by omega) (by omega)) rfl rfl (by decide) (Nat.le_of_ble_eq_true rfl) (Nat.zero_le _) (Nat.zero_le _) ?_
        first | refine z_iastN (pc := 26) C dX1_fewestKills_26 (zup_same _ _ _) (by omega) (by decide) ?_ | refine z_iastI (pc := 26) C dX1_fewestKills_26 (zup_same _ _ _) (by omega) (by decide) ?_
        refine z_hp (show _ = zup h 1033 (zI 4 (sclo R S c g (k + 1))) from by rw [zup_zup, ← sclo_s]; rfl) ?_
        first | refine z_iincN (pc := 27) (lv' := [(3, _), (0, _), (1, _), (2, _)]) C 1 dX1_fewestKills_27 3 rfl (by decide) (by decide) rfl ?_ | refine z_iinc (pc := 27) (lv' := [(3, _), (0, _), (1, _), (2, _)]) C dX1_fewestKills_27 3 rfl _ rfl (by decide) rfl ?_
        refine z_goto (pc := 30) C 2 dX1_fewestKills_30 (by decide) ?_
        refine z_sub (lv' := [(0, _), (1, _), (2, _), (3, _)]) [1, 2, 3, 0] rfl ?_
        exact ih (f - 1) (by omega) (k + 1) (by omega)
  (refine z_hp (show h = zup h 1033 (zI 4 (sclo R S c g 0)) from by rw [sclo_0]; exact (zup_id hQ).symm) ?_; exact lp2 (R 3) 0 (by omega))

set_option maxRecDepth 20000 in
set_option maxHeartbeats 1000000 in
theorem tX11_company {h : ZH} {st : Nat} {ic tb fa pl : Int32} {t : Nat} {R S : Nat → Nat} {g : Nat → Nat} {g8 : Int32} (hK : h 1000 = some (zO 7 (kfs st ic tb fa pl))) (hC : Scn h 1051 1052 1053 t R S) (hR : wfR R) (hS : wfS R S) (hO : h 1032 = some (zO 0 [.ref 1033])) (hQ : h 1033 = some (zI 4 g)) (hq : t = 1008 ∨ t = 1039) : ZD mX11_company 6 [.ref 1000, .int g8] h (some (.int (aComp R S g8).1)) (zup (zup h 1033 (zI 4 (if swhy (decide (0 < R 1)) (zlt g8 8) = 0 then sclo R S (pn g8) g (R 3) else g))) 1000 (zO 7 (kfs st ic (aComp R S g8).2 fa pl))) := by
  intro n
  obtain ⟨w1, w3, w4, w5, w0, wP, wM, wK, wX⟩ := id hR
  obtain ⟨wT, wL, wB⟩ := id hS
  obtain ⟨hT, fl, ft, s0, s1, s2, rl, rt⟩ := id hC
  obtain ⟨fc, fh, fn, fk, fs, ff, fw, fe, t0, t1, t2, t3, t4, t5, t6, t7, t8, rc, rh, rn, rk, rs, rf, rv, re⟩ := id hT
  refine z_enter (lv := [(0, _), (1, _)]) (by decide) (Nat.le_of_ble_eq_true rfl) rfl (fun X C => ?_)
  refine z_aload_n (pc := 0) C dX11_company_0 0 rfl ?_
  refine z_cV1 (pc := 1) mX11_isForest C [] dX11_company_1 lX11_183 mtX11_isForest (tX11_isForest (by first | assumption | omega) (by first | assumption | omega) (by first | assumption | omega)) (by assumption) rfl rfl (by decide) (Nat.le_of_ble_eq_true rfl) (Nat.zero_le _) (Nat.zero_le _) ?_
  first | refine z_ifneB (pc := 4) C 13 dX11_company_4 (by decide) (fun hc4 => ?_) (fun hc4 => ?_) | refine z_ifneN (pc := 4) C 13 dX11_company_4 (by decide) (by omega) (fun hc4 => ?_) (fun hc4 => ?_) | refine z_if_ne (pc := 4) C 13 dX11_company_4 (by decide) (fun hc4 => ?_) (fun hc4 => ?_)
  · skip
    have e0 := of_decide_eq_true hc4
    refine z_iload_n (pc := 13) C dX11_company_13 1 rfl ?_
    refine z_if_lt (pc := 14) C 23 dX11_company_14 (by decide) (fun hc14 => ?_) (fun hc14 => ?_)
    · skip
      have e5 : zlt g8 8 = false := zlt_f1 hc14
      refine z_aload_n (pc := 23) C dX11_company_23 0 rfl ?_
      refine z_iconst (pc := 24) C dX11_company_24 (nI 2) (by decide) ?_
      refine z_cV1 (pc := 25) mX11_refuse C [_] dX11_company_25 lX11_70 mtX11_refuse (tX11_refuse (by first | assumption | omega)) (by assumption) rfl rfl (by decide) (Nat.le_of_ble_eq_true rfl) (Nat.zero_le _) (Nat.zero_le _) ?_
      refine z_iret (pc := 28) C dX11_company_28 rfl (Nat.zero_le _) (Nat.zero_le _) ⟨?_, ?_, rfl⟩
      · simp [aComp, aW, swhy, *]
      · first | (rw [if_neg (by simp [swhy, *]), zup_id hQ]; simp [aComp, aW, swhy, *] <;> rfl) | (rw [if_pos (by simp [swhy, *])]; simp [aComp, aW, swhy, *] <;> rfl)
    · skip
      refine z_iload_n (pc := 17) C dX11_company_17 1 rfl ?_
      refine z_bipush (pc := 18) C dX11_company_18 (nI 7) (by decide) ?_
      refine z_icmp_le (pc := 20) C 29 dX11_company_20 (by decide) (fun hc20 => ?_) (fun hc20 => ?_)
      · skip
        have e5 : zlt g8 8 = true := zlt_le3 (c := 7) (by decide) hc14 hc20
        obtain ⟨q, hq, rfl⟩ := zlt_of (by omega) e5
        have pq := pn_nI (j := q) (by omega)
        refine z_aload_n (pc := 29) C dX11_company_29 0 rfl ?_
        refine z_aload_n (pc := 30) C dX11_company_30 0 rfl ?_
        refine z_getf (pc := 31) C dX11_company_31 fX11_26 (by assumption) (by first | rfl | assumption) ?_
        refine z_aload_n (pc := 34) C dX11_company_34 0 rfl ?_
        refine z_getf (pc := 35) C dX11_company_35 fX11_53 (by assumption) (by first | rfl | assumption) ?_
        refine z_iload_n (pc := 38) C dX11_company_38 1 rfl ?_
        refine z_cV1 (pc := 39) mX1_fewestKills C [_, _] dX11_company_39 lX11_251 mtX1_fewestKills (tX1_fewestKills hC hR hS hO hQ (by assumption) hq) (by assumption) rfl rfl (by decide) (Nat.le_of_ble_eq_true rfl) (Nat.zero_le _) (Nat.zero_le _) ?_
        refine z_cV1 (pc := 42) mX11_answer C [_] dX11_company_42 lX11_108 mtX11_answer (tX11_answer ((zup_ne (by decide)).trans hK)) ((zup_ne (by decide)).trans hK) rfl rfl (by decide) (Nat.le_of_ble_eq_true rfl) (Nat.zero_le _) (Nat.zero_le _) ?_
        refine z_iret (pc := 45) C dX11_company_45 rfl (Nat.zero_le _) (Nat.zero_le _) ⟨?_, ?_, rfl⟩
        · simp [aComp, aW, swhy, *]
        · first | (rw [if_neg (by simp [swhy, *]), zup_id hQ]; simp [aComp, aW, swhy, *] <;> rfl) | (rw [if_pos (by simp [swhy, *])]; simp [aComp, aW, swhy, *] <;> rfl)
      · skip
        have e5 : zlt g8 8 = false := zlt_f3 (c := 7) (by decide) hc20
        refine z_aload_n (pc := 23) C dX11_company_23 0 rfl ?_
        refine z_iconst (pc := 24) C dX11_company_24 (nI 2) (by decide) ?_
        refine z_cV1 (pc := 25) mX11_refuse C [_] dX11_company_25 lX11_70 mtX11_refuse (tX11_refuse (by first | assumption | omega)) (by assumption) rfl rfl (by decide) (Nat.le_of_ble_eq_true rfl) (Nat.zero_le _) (Nat.zero_le _) ?_
        refine z_iret (pc := 28) C dX11_company_28 rfl (Nat.zero_le _) (Nat.zero_le _) ⟨?_, ?_, rfl⟩
        · simp [aComp, aW, swhy, *]
        · first | (rw [if_neg (by simp [swhy, *]), zup_id hQ]; simp [aComp, aW, swhy, *] <;> rfl) | (rw [if_pos (by simp [swhy, *])]; simp [aComp, aW, swhy, *] <;> rfl)
  · skip
    have e0 := of_decide_eq_false hc4
    refine z_aload_n (pc := 7) C dX11_company_7 0 rfl ?_
    refine z_iconst (pc := 8) C dX11_company_8 (nI 1) (by decide) ?_
    refine z_cV1 (pc := 9) mX11_refuse C [_] dX11_company_9 lX11_70 mtX11_refuse (tX11_refuse (by first | assumption | omega)) (by assumption) rfl rfl (by decide) (Nat.le_of_ble_eq_true rfl) (Nat.zero_le _) (Nat.zero_le _) ?_
    refine z_iret (pc := 12) C dX11_company_12 rfl (Nat.zero_le _) (Nat.zero_le _) ⟨?_, ?_, rfl⟩
    · simp [aComp, aW, swhy, *]
    · first | (rw [if_neg (by simp [swhy, *]), zup_id hQ]; simp [aComp, aW, swhy, *] <;> rfl) | (rw [if_pos (by simp [swhy, *])]; simp [aComp, aW, swhy, *] <;> rfl)

set_option maxRecDepth 20000 in
set_option maxHeartbeats 1000000 in
theorem tX0_power {h : ZH} {a k : Nat} (hk : k < 2147483648) : ZD mX0_power 0 [.long (lN a), .int (nI k)] h (some (.long (lN (a ^ k)))) h := by
  intro n
  refine z_enter (lv := [(0, _), (2, _)]) (by decide) (Nat.le_of_ble_eq_true rfl) rfl (fun X C => ?_)
  refine z_lconst (pc := 0) C dX0_power_0 (1) (by decide) ?_
  refine z_lstore_n (pc := 1) (lv' := [(3, _), (0, _), (2, _)]) C dX0_power_1 (by decide) rfl ?_
  refine z_iconst (pc := 2) C dX0_power_2 (nI 0) (by decide) ?_
  refine z_istore (pc := 3) (lv' := [(5, _), (3, _), (0, _), (2, _)]) C dX0_power_3 (by decide) rfl ?_
  refine z_sub (lv' := [(0, _), (2, _), (3, _), (5, _)]) [2, 3, 1, 0] rfl ?_
  have lp5 : ∀ (f : Nat) (j : Nat), (j + f = k) → Zc X mX0_power (zEnd X (fun r hh n' => r = (some (.long (lN (a ^ k)))) ∧ hh = h ∧ n' = n) 0 0) 5 [(0, .long (lN a)), (2, .int (nI k)), (3, .long (lN (a ^ j))), (5, .int (nI j))] [] h n 0 0 := by
    intro f
    induction f using Nat.strongRecOn with
    | _ f ih =>
      intro j hj
      refine z_iload (pc := 5) C dX0_power_5 3 rfl ?_
      refine z_iload_n (pc := 7) C dX0_power_7 1 rfl ?_
      first | refine z_icmpgeN (pc := 8) C 21 dX0_power_8 (by decide) (by omega) (by omega) (fun hc8 => ?_) (fun hc8 => ?_) | refine z_icmp_ge (pc := 8) C 21 dX0_power_8 (by decide) (fun hc8 => ?_) (fun hc8 => ?_)
      · skip
        refine z_lload_n (pc := 21) C dX0_power_21 2 rfl ?_
        refine z_lret (pc := 22) C dX0_power_22 rfl (Nat.zero_le _) (Nat.zero_le _) ⟨?_, ?_, rfl⟩
        · obtain rfl : j = k := (by omega); rfl
        · rfl
      · skip
        refine z_lload_n (pc := 11) C dX0_power_11 2 rfl ?_
        refine z_lload_n (pc := 12) C dX0_power_12 0 rfl ?_
        refine z_lmul (pc := 13) C dX0_power_13 ?_
        refine z_lstore_n (pc := 14) (lv' := [(3, _), (0, _), (2, _), (5, _)]) C dX0_power_14 (by decide) rfl ?_
        first | refine z_iincN (pc := 15) (lv' := [(5, _), (3, _), (0, _), (2, _)]) C 1 dX0_power_15 3 rfl (by decide) (by decide) rfl ?_ | refine z_iinc (pc := 15) (lv' := [(5, _), (3, _), (0, _), (2, _)]) C dX0_power_15 3 rfl _ rfl (by decide) rfl ?_
        refine z_goto (pc := 18) C 5 dX0_power_18 (by decide) ?_
        refine z_sub (lv' := [(0, _), (2, _), (3, _), (5, _)]) [2, 3, 1, 0] rfl ?_
        (rw [lN_mul, ← Nat.pow_succ]; exact ih (f - 1) (by omega) (j + 1) (by omega))
  exact lp5 k 0 (by omega)

set_option maxRecDepth 20000 in
set_option maxHeartbeats 1000000 in
theorem tX0_hundreds {h : ZH} {k : Nat} (hk : k < 2147483648) : ZD mX0_hundreds 1 [.int (nI k)] h (some (.long (lN (100 ^ k)))) h := by
  intro n
  refine z_enter (lv := [(0, _)]) (by decide) (Nat.le_of_ble_eq_true rfl) rfl (fun X C => ?_)
  refine z_ldc2 (pc := 0) C dX0_hundreds_0 kX0_9 ?_
  refine z_topl (show (100 : Int64) = lN 100 from rfl) ?_
  refine z_iload_n (pc := 3) C dX0_hundreds_3 0 rfl ?_
  refine z_cS1 (pc := 4) mX0_power C [_, _] dX0_hundreds_4 lX0_11 mtX0_power (tX0_power (by first | assumption | omega)) rfl rfl (by decide) (Nat.le_of_ble_eq_true rfl) (Nat.zero_le _) (Nat.zero_le _) ?_
  refine z_lret (pc := 7) C dX0_hundreds_7 rfl (Nat.zero_le _) (Nat.zero_le _) ⟨?_, ?_, rfl⟩
  · first | rfl | simp_all
  · rfl

set_option maxRecDepth 20000 in
set_option maxHeartbeats 1000000 in
theorem tX0_dead {h : ZH} {R : Nat → Nat} {n0 : Nat} (hR : wfR R) (hn : n0 < 2147483648) : ZD mX0_dead 2 [.int (nI (R 0)), .int (nI n0)] h (some (.long (lN (sDead R n0)))) h := by
  intro n
  obtain ⟨w1, w3, w4, w5, w0, wP, wM, wK, wX⟩ := id hR
  refine z_enter (lv := [(0, _), (1, _)]) (by decide) (Nat.le_of_ble_eq_true rfl) rfl (fun X C => ?_)
  refine z_iload_n (pc := 0) C dX0_dead_0 1 rfl ?_
  refine z_cS1 (pc := 1) mX0_hundreds C [_] dX0_dead_1 lX0_17 mtX0_hundreds (tX0_hundreds (by first | assumption | omega)) rfl rfl (by decide) (Nat.le_of_ble_eq_true rfl) (Nat.zero_le _) (Nat.zero_le _) ?_
  refine z_bipush (pc := 4) C dX0_dead_4 (nI 100) (by decide) ?_
  refine z_iload_n (pc := 6) C dX0_dead_6 0 rfl ?_
  first | refine z_isubN (pc := 7) C dX0_dead_7 (by omega) ?_ | refine z_isub (pc := 7) C dX0_dead_7 ?_
  refine z_i2l (pc := 8) C dX0_dead_8 ?_
  refine z_topl (nI_l (by omega)) ?_
  refine z_iload_n (pc := 9) C dX0_dead_9 1 rfl ?_
  refine z_cS1 (pc := 10) mX0_power C [_, _] dX0_dead_10 lX0_11 mtX0_power (tX0_power (by first | assumption | omega)) rfl rfl (by decide) (Nat.le_of_ble_eq_true rfl) (Nat.zero_le _) (Nat.zero_le _) ?_
  refine z_lsub (pc := 13) C dX0_dead_13 ?_
  refine z_lret (pc := 14) C dX0_dead_14 rfl (Nat.zero_le _) (Nat.zero_le _) ⟨?_, ?_, rfl⟩
  · rw [lN_sub (Nat.pow_le_pow_left (by omega) _)]; rfl
  · rfl

set_option maxRecDepth 20000 in
set_option maxHeartbeats 1000000 in
theorem tX0_commonDivisor {h : ZH} {a b : Nat} (ha : a < 1000000000000000000) (hb : b < 1000000000000000000) (h0 : 0 < b) : ZD mX0_commonDivisor 0 [.long (lN a), .long (lN b)] h (some (.long (lN (Nat.gcd a b)))) h := by
  intro n
  refine z_enter (lv := [(0, _), (2, _)]) (by decide) (Nat.le_of_ble_eq_true rfl) rfl (fun X C => ?_)
  refine z_lload_n (pc := 0) C dX0_commonDivisor_0 0 rfl ?_
  refine z_lstore (pc := 1) (lv' := [(4, _), (0, _), (2, _)]) C dX0_commonDivisor_1 (by decide) rfl ?_
  refine z_lload_n (pc := 3) C dX0_commonDivisor_3 2 rfl ?_
  refine z_lstore (pc := 4) (lv' := [(6, _), (4, _), (0, _), (2, _)]) C dX0_commonDivisor_4 (by decide) rfl ?_
  refine z_iconst (pc := 6) C dX0_commonDivisor_6 (nI 0) (by decide) ?_
  refine z_istore (pc := 7) (lv' := [(8, _), (6, _), (4, _), (0, _), (2, _)]) C dX0_commonDivisor_7 (by decide) rfl ?_
  refine z_sub (lv' := [(0, _), (2, _), (4, _), (6, _), (8, _)]) [3, 4, 2, 1, 0] rfl ?_
  have lp9 : ∀ (f : Nat) (k x y : Nat), (k + f = 100 ∧ x < 1000000000000000000 ∧ y < 1000000000000000000 ∧ 0 < x + y ∧ Nat.gcd x y = Nat.gcd a b ∧ (k = 0 ∨ sEu (99 - k) x y) ∧ (k = 0 → 0 < y)) → Zc X mX0_commonDivisor (zEnd X (fun r hh n' => r = (some (.long (lN (Nat.gcd a b)))) ∧ hh = h ∧ n' = n) 0 0) 9 [(0, .long (lN a)), (2, .long (lN b)), (4, .long (lN x)), (6, .long (lN y)), (8, .int (nI k))] [] h n 0 0 := by
    intro f
    induction f using Nat.strongRecOn with
    | _ f ih =>
      intro k x y hk
      obtain ⟨hk, hx, hy, hx0, hg, hu, hv⟩ := hk
      have b1 : x < 2 ^ 63 := by omega
      have b2 : y < 2 ^ 63 := by omega
      refine z_iload (pc := 9) C dX0_commonDivisor_9 4 rfl ?_
      refine z_bipush (pc := 11) C dX0_commonDivisor_11 (nI 100) (by decide) ?_
      first | refine z_icmpgeN (pc := 13) C 44 dX0_commonDivisor_13 (by decide) (by omega) (by omega) (fun hc13 => ?_) (fun hc13 => ?_) | refine z_icmp_ge (pc := 13) C 44 dX0_commonDivisor_13 (by decide) (fun hc13 => ?_) (fun hc13 => ?_)
      · skip
        have e1 : y = 0 := by
          rcases hu with z | hu
          · omega
          · rw [show 99 - k = 0 by omega] at hu; exact sEu_0 hu
        have e6 : x = Nat.gcd a b := by rw [← hg, e1, Nat.gcd_zero_right]
        refine z_lload (pc := 44) C dX0_commonDivisor_44 2 rfl ?_
        refine z_lret (pc := 46) C dX0_commonDivisor_46 rfl (Nat.zero_le _) (Nat.zero_le _) ⟨?_, ?_, rfl⟩
        · rw [e6]
        · rfl
      · skip
        refine z_lload (pc := 16) C dX0_commonDivisor_16 3 rfl ?_
        refine z_lconst (pc := 18) C dX0_commonDivisor_18 (0) (by decide) ?_
        refine z_lcmp (pc := 19) C dX0_commonDivisor_19 ?_
        refine z_if_eq (pc := 20) C 44 dX0_commonDivisor_20 (by decide) (fun hc20 => ?_) (fun hc20 => ?_)
        · skip
          have e1 : y = 0 := (lcz b2).mp hc20
          have e6 : x = Nat.gcd a b := by rw [← hg, e1, Nat.gcd_zero_right]
          refine z_lload (pc := 44) C dX0_commonDivisor_44 2 rfl ?_
          refine z_lret (pc := 46) C dX0_commonDivisor_46 rfl (Nat.zero_le _) (Nat.zero_le _) ⟨?_, ?_, rfl⟩
          · rw [e6]
          · rfl
        · skip
          have e1 : ¬ y = 0 := fun z => hc20 ((lcz b2).mpr z)
          have e2 : 0 < y := (by omega)
          have e3 := Nat.mod_lt x e2
          have e4 : Nat.gcd y (x % y) = Nat.gcd a b := by rw [← hg, Nat.gcd_comm x y, Nat.gcd_rec y x, Nat.gcd_comm]
          have e5 : sEu (99 - (k + 1)) y (x % y) := by
            rcases hu with rfl | hu
            · exact sEu_99 e2 hy
            · by_cases z : k = 99
              · subst z; exact absurd (sEu_0 hu) e1
              · rw [show 99 - k = (99 - (k + 1)) + 1 by omega] at hu; exact sEu_s hu e2
          refine z_lload (pc := 23) C dX0_commonDivisor_23 2 rfl ?_
          refine z_lload (pc := 25) C dX0_commonDivisor_25 3 rfl ?_
          refine z_lrem (pc := 27) C dX0_commonDivisor_27 (fun z => e1 ((lz0 b2).mp z)) ?_
          refine z_topl (pk_lRem b1 e2 b2) ?_
          refine z_lstore (pc := 28) (lv' := [(9, _), (0, _), (2, _), (4, _), (6, _), (8, _)]) C dX0_commonDivisor_28 (by decide) rfl ?_
          refine z_lload (pc := 30) C dX0_commonDivisor_30 4 rfl ?_
          refine z_lstore (pc := 32) (lv' := [(4, _), (9, _), (0, _), (2, _), (6, _), (8, _)]) C dX0_commonDivisor_32 (by decide) rfl ?_
          refine z_lload (pc := 34) C dX0_commonDivisor_34 1 rfl ?_
          refine z_lstore (pc := 36) (lv' := [(6, _), (4, _), (9, _), (0, _), (2, _), (8, _)]) C dX0_commonDivisor_36 (by decide) rfl ?_
          first | refine z_iincN (pc := 38) (lv' := [(8, _), (6, _), (4, _), (9, _), (0, _), (2, _)]) C 1 dX0_commonDivisor_38 5 rfl (by decide) (by decide) rfl ?_ | refine z_iinc (pc := 38) (lv' := [(8, _), (6, _), (4, _), (9, _), (0, _), (2, _)]) C dX0_commonDivisor_38 5 rfl _ rfl (by decide) rfl ?_
          refine z_goto (pc := 41) C 9 dX0_commonDivisor_41 (by decide) ?_
          refine z_sub (lv' := [(0, _), (2, _), (4, _), (6, _), (8, _)]) [4, 5, 2, 1, 0] rfl ?_
          exact ih (f - 1) (by omega) (k + 1) y (x % y) ⟨by omega, hy, by omega, by omega, e4, Or.inr e5, by omega⟩
  exact lp9 100 0 a b ⟨by omega, ha, hb, by omega, rfl, Or.inl rfl, fun _ => h0⟩

set_option maxRecDepth 20000 in
set_option maxHeartbeats 1000000 in
theorem tX0_part {h : ZH} {a b : Nat} {lo : Bool} (ha : a < 1000000000000000000) (hb : b < 1000000000000000000) (h0 : 0 < b) : ZD mX0_part 1 [.long (lN a), .long (lN b), .int (zb lo)] h (some (.long (sLow a b lo))) h := by
  intro n
  have e0 : 0 < Nat.gcd a b := Nat.gcd_pos_of_pos_right a h0
  have e1 : Nat.gcd a b ≤ b := Nat.gcd_le_right a h0
  have e2 : Nat.gcd a b < 2 ^ 63 := by omega
  refine z_enter (lv := [(0, _), (2, _), (4, _)]) (by decide) (Nat.le_of_ble_eq_true rfl) rfl (fun X C => ?_)
  refine z_lload_n (pc := 0) C dX0_part_0 0 rfl ?_
  refine z_lload_n (pc := 1) C dX0_part_1 1 rfl ?_
  refine z_cS1 (pc := 2) mX0_commonDivisor C [_, _] dX0_part_2 lX0_21 mtX0_commonDivisor (tX0_commonDivisor (by first | assumption | omega) (by first | assumption | omega) (by first | assumption | omega)) rfl rfl (by decide) (Nat.le_of_ble_eq_true rfl) (Nat.zero_le _) (Nat.zero_le _) ?_
  refine z_lstore (pc := 5) (lv' := [(5, _), (0, _), (2, _), (4, _)]) C dX0_part_5 (by decide) rfl ?_
  refine z_lload (pc := 7) C dX0_part_7 0 rfl ?_
  refine z_lconst (pc := 9) C dX0_part_9 (0) (by decide) ?_
  refine z_lcmp (pc := 10) C dX0_part_10 ?_
  refine z_if_gt (pc := 11) C 18 dX0_part_11 (by decide) (fun hc11 => ?_) (fun hc11 => ?_)
  · skip
    refine z_iload (pc := 18) C dX0_part_18 3 rfl ?_
    first | refine z_ifeqB (pc := 20) C 27 dX0_part_20 (by decide) (fun hc20 => ?_) (fun hc20 => ?_) | refine z_ifeqN (pc := 20) C 27 dX0_part_20 (by decide) (by omega) (fun hc20 => ?_) (fun hc20 => ?_) | refine z_if_eq (pc := 20) C 27 dX0_part_20 (by decide) (fun hc20 => ?_) (fun hc20 => ?_)
    · skip
      refine z_lload_n (pc := 27) C dX0_part_27 1 rfl ?_
      refine z_lload (pc := 28) C dX0_part_28 0 rfl ?_
      refine z_ldiv (pc := 30) C dX0_part_30 (fun z => by have := (lz0 e2).mp z; omega) ?_
      refine z_lret (pc := 31) C dX0_part_31 rfl (Nat.zero_le _) (Nat.zero_le _) ⟨?_, ?_, rfl⟩
      · subst_vars; unfold sLow; first | (rw [pk_lDiv (by omega) e0 e2]; rfl)
      · rfl
    · skip
      refine z_lload_n (pc := 23) C dX0_part_23 2 rfl ?_
      refine z_goto (pc := 24) C 28 dX0_part_24 (by decide) ?_
      refine z_lload (pc := 28) C dX0_part_28 0 rfl ?_
      refine z_ldiv (pc := 30) C dX0_part_30 (fun z => by have := (lz0 e2).mp z; omega) ?_
      refine z_lret (pc := 31) C dX0_part_31 rfl (Nat.zero_le _) (Nat.zero_le _) ⟨?_, ?_, rfl⟩
      · subst_vars; unfold sLow; first | (rw [pk_lDiv (by omega) e0 e2]; rfl)
      · rfl
  · exact absurd (Int32.not_lt.mp hc11) (lc0 e2 e0)

set_option maxRecDepth 20000 in
set_option maxHeartbeats 1000000 in
theorem tX11_breathes {h : ZH} {st : Nat} {ic tb fa pl : Int32} {t : Nat} {R S : Nat → Nat} {lo : Bool} {k n0 : Int32} (hK : h 1000 = some (zO 7 (kfs st ic tb fa pl))) (hC : Scn h 1051 1052 1053 t R S) (hR : wfR R) (hS : wfS R S) (hz : t = 1008 ∨ t = 1039) : ZD mX11_breathes 3 [.ref 1000, .int k, .int n0, .int (zb lo)] h (some (.long (aBre R k n0 lo).1)) (zup h 1000 (zO 7 (kfs st ic (aBre R k n0 lo).2 fa pl))) := by
  intro n
  obtain ⟨w1, w3, w4, w5, w0, wP, wM, wK, wX⟩ := id hR
  obtain ⟨wT, wL, wB⟩ := id hS
  obtain ⟨hT, fl, ft, s0, s1, s2, rl, rt⟩ := id hC
  obtain ⟨fc, fh, fn, fk, fs, ff, fw, fe, t0, t1, t2, t3, t4, t5, t6, t7, t8, rc, rh, rn, rk, rs, rf, rv, re⟩ := id hT
  refine z_enter (lv := [(0, _), (1, _), (2, _), (3, _)]) (by decide) (Nat.le_of_ble_eq_true rfl) rfl (fun X C => ?_)
  refine z_aload_n (pc := 0) C dX11_breathes_0 0 rfl ?_
  refine z_iload_n (pc := 1) C dX11_breathes_1 1 rfl ?_
  refine z_cV1 (pc := 2) mX11_isKill C [_] dX11_breathes_2 lX11_158 mtX11_isKill (tX11_isKill (by first | assumption | omega) (by first | assumption | omega) (by first | assumption | omega)) (by assumption) rfl rfl (by decide) (Nat.le_of_ble_eq_true rfl) (Nat.zero_le _) (Nat.zero_le _) ?_
  first | refine z_ifneB (pc := 5) C 15 dX11_breathes_5 (by decide) (fun hc5 => ?_) (fun hc5 => ?_) | refine z_ifneN (pc := 5) C 15 dX11_breathes_5 (by decide) (by omega) (fun hc5 => ?_) (fun hc5 => ?_) | refine z_if_ne (pc := 5) C 15 dX11_breathes_5 (by decide) (fun hc5 => ?_) (fun hc5 => ?_)
  · skip
    refine z_iload_n (pc := 15) C dX11_breathes_15 2 rfl ?_
    refine z_if_lt (pc := 16) C 24 dX11_breathes_16 (by decide) (fun hc16 => ?_) (fun hc16 => ?_)
    · skip
      have e5 : zlt n0 3 = false := zlt_f1 hc16
      refine z_aload_n (pc := 24) C dX11_breathes_24 0 rfl ?_
      refine z_iconst (pc := 25) C dX11_breathes_25 (nI 2) (by decide) ?_
      refine z_cV1 (pc := 26) mX11_refuse C [_] dX11_breathes_26 lX11_70 mtX11_refuse (tX11_refuse (by first | assumption | omega)) (by assumption) rfl rfl (by decide) (Nat.le_of_ble_eq_true rfl) (Nat.zero_le _) (Nat.zero_le _) ?_
      refine z_i2l (pc := 29) C dX11_breathes_29 ?_
      refine z_lret (pc := 30) C dX11_breathes_30 rfl (Nat.zero_le _) (Nat.zero_le _) ⟨?_, ?_, rfl⟩
      · simp [aBre, aWl, swhy, *] <;> rfl
      · simp [aBre, aWl, swhy, *] <;> rfl
    · skip
      refine z_iload_n (pc := 19) C dX11_breathes_19 2 rfl ?_
      refine z_iconst (pc := 20) C dX11_breathes_20 (nI 2) (by decide) ?_
      refine z_icmp_le (pc := 21) C 31 dX11_breathes_21 (by decide) (fun hc21 => ?_) (fun hc21 => ?_)
      · skip
        have e5 : zlt n0 3 = true := zlt_le3 (c := 2) (by decide) hc16 hc21
        obtain ⟨q, hq, rfl⟩ := zlt_of (by omega) e5
        have pq := pn_nI (j := q) (by omega)
        obtain ⟨d1, d2, d3⟩ := sDead_le (R := R) hq
        refine z_aload_n (pc := 31) C dX11_breathes_31 0 rfl ?_
        refine z_iconst (pc := 32) C dX11_breathes_32 (nI 0) (by decide) ?_
        refine z_putf (pc := 33) (fs' := kfs _ _ _ _ _) C dX11_breathes_33 gX11_111 (by assumption) (fun _ => ⟨rfl, rfl⟩) (by exact Nat.le_of_ble_eq_true rfl) (by rfl) ?_
        have hC1 : Scn (zup h 1000 (zO 7 (kfs st ic (nI 0) fa pl))) 1051 1052 1053 t R S := Scn_up hC (by decide) (by decide) (by decide) (by omega)
        have hK1 := zup_same h 1000 (zO 7 (kfs st ic (nI 0) fa pl))
        obtain ⟨hT1, fl1, ft1, u0, -⟩ := id hC1
        obtain ⟨_, _, _, _, _, _, _, _, v0, -⟩ := id hT1
        refine z_aload_n (pc := 36) C dX11_breathes_36 0 rfl ?_
        refine z_getf (pc := 37) C dX11_breathes_37 fX11_53 (by assumption) (by first | rfl | assumption) ?_
        refine z_getf (pc := 40) C dX11_breathes_40 fX11_120 (by assumption) (by first | rfl | assumption) ?_
        refine z_getf (pc := 43) C dX11_breathes_43 fX11_314 (by assumption) (by first | rfl | assumption) ?_
        refine z_iload_n (pc := 46) C dX11_breathes_46 2 rfl ?_
        refine z_cS1 (pc := 47) mX0_dead C [_, _] dX11_breathes_47 lX11_317 mtX0_dead (tX0_dead hR (by omega)) rfl rfl (by decide) (Nat.le_of_ble_eq_true rfl) (Nat.zero_le _) (Nat.zero_le _) ?_
        refine z_iload_n (pc := 50) C dX11_breathes_50 2 rfl ?_
        refine z_cS1 (pc := 51) mX0_hundreds C [_] dX11_breathes_51 lX11_323 mtX0_hundreds (tX0_hundreds (by omega)) rfl rfl (by decide) (Nat.le_of_ble_eq_true rfl) (Nat.zero_le _) (Nat.zero_le _) ?_
        refine z_iload_n (pc := 54) C dX11_breathes_54 3 rfl ?_
        refine z_cS1 (pc := 55) mX0_part C [_, _, _] dX11_breathes_55 lX11_327 mtX0_part (tX0_part (by omega) (by omega) d3) rfl rfl (by decide) (Nat.le_of_ble_eq_true rfl) (Nat.zero_le _) (Nat.zero_le _) ?_
        refine z_lret (pc := 58) C dX11_breathes_58 rfl (Nat.zero_le _) (Nat.zero_le _) ⟨?_, ?_, rfl⟩
        · simp [aBre, aWl, swhy, *] <;> rfl
        · simp [aBre, aWl, swhy, *] <;> rfl
      · skip
        have e5 : zlt n0 3 = false := zlt_f3 (c := 2) (by decide) hc21
        refine z_aload_n (pc := 24) C dX11_breathes_24 0 rfl ?_
        refine z_iconst (pc := 25) C dX11_breathes_25 (nI 2) (by decide) ?_
        refine z_cV1 (pc := 26) mX11_refuse C [_] dX11_breathes_26 lX11_70 mtX11_refuse (tX11_refuse (by first | assumption | omega)) (by assumption) rfl rfl (by decide) (Nat.le_of_ble_eq_true rfl) (Nat.zero_le _) (Nat.zero_le _) ?_
        refine z_i2l (pc := 29) C dX11_breathes_29 ?_
        refine z_lret (pc := 30) C dX11_breathes_30 rfl (Nat.zero_le _) (Nat.zero_le _) ⟨?_, ?_, rfl⟩
        · simp [aBre, aWl, swhy, *] <;> rfl
        · simp [aBre, aWl, swhy, *] <;> rfl
  · skip
    refine z_aload_n (pc := 8) C dX11_breathes_8 0 rfl ?_
    refine z_iconst (pc := 9) C dX11_breathes_9 (nI 1) (by decide) ?_
    refine z_cV1 (pc := 10) mX11_refuse C [_] dX11_breathes_10 lX11_70 mtX11_refuse (tX11_refuse (by first | assumption | omega)) (by assumption) rfl rfl (by decide) (Nat.le_of_ble_eq_true rfl) (Nat.zero_le _) (Nat.zero_le _) ?_
    refine z_i2l (pc := 13) C dX11_breathes_13 ?_
    refine z_lret (pc := 14) C dX11_breathes_14 rfl (Nat.zero_le _) (Nat.zero_le _) ⟨?_, ?_, rfl⟩
    · simp [aBre, aWl, swhy, *] <;> rfl
    · simp [aBre, aWl, swhy, *] <;> rfl

set_option maxRecDepth 20000 in
set_option maxHeartbeats 1000000 in
theorem tX11_silent {h : ZH} {st : Nat} {ic tb fa pl : Int32} {t : Nat} {R S : Nat → Nat} {lo : Bool} {n0 : Int32} (hK : h 1000 = some (zO 7 (kfs st ic tb fa pl))) (hC : Scn h 1051 1052 1053 t R S) (hR : wfR R) (hS : wfS R S) (hz : t = 1008 ∨ t = 1039) : ZD mX11_silent 3 [.ref 1000, .int n0, .int (zb lo)] h (some (.long (aSil R n0 lo).1)) (zup h 1000 (zO 7 (kfs st ic (aSil R n0 lo).2 fa pl))) := by
  intro n
  obtain ⟨w1, w3, w4, w5, w0, wP, wM, wK, wX⟩ := id hR
  obtain ⟨wT, wL, wB⟩ := id hS
  obtain ⟨hT, fl, ft, s0, s1, s2, rl, rt⟩ := id hC
  obtain ⟨fc, fh, fn, fk, fs, ff, fw, fe, t0, t1, t2, t3, t4, t5, t6, t7, t8, rc, rh, rn, rk, rs, rf, rv, re⟩ := id hT
  refine z_enter (lv := [(0, _), (1, _), (2, _)]) (by decide) (Nat.le_of_ble_eq_true rfl) rfl (fun X C => ?_)
  refine z_aload_n (pc := 0) C dX11_silent_0 0 rfl ?_
  refine z_cV1 (pc := 1) mX11_isForest C [] dX11_silent_1 lX11_183 mtX11_isForest (tX11_isForest (by first | assumption | omega) (by first | assumption | omega) (by first | assumption | omega)) (by assumption) rfl rfl (by decide) (Nat.le_of_ble_eq_true rfl) (Nat.zero_le _) (Nat.zero_le _) ?_
  first | refine z_ifneB (pc := 4) C 14 dX11_silent_4 (by decide) (fun hc4 => ?_) (fun hc4 => ?_) | refine z_ifneN (pc := 4) C 14 dX11_silent_4 (by decide) (by omega) (fun hc4 => ?_) (fun hc4 => ?_) | refine z_if_ne (pc := 4) C 14 dX11_silent_4 (by decide) (fun hc4 => ?_) (fun hc4 => ?_)
  · skip
    have e0 := of_decide_eq_true hc4
    refine z_iload_n (pc := 14) C dX11_silent_14 1 rfl ?_
    refine z_if_lt (pc := 15) C 23 dX11_silent_15 (by decide) (fun hc15 => ?_) (fun hc15 => ?_)
    · skip
      have e5 : zlt n0 3 = false := zlt_f1 hc15
      refine z_aload_n (pc := 23) C dX11_silent_23 0 rfl ?_
      refine z_iconst (pc := 24) C dX11_silent_24 (nI 2) (by decide) ?_
      refine z_cV1 (pc := 25) mX11_refuse C [_] dX11_silent_25 lX11_70 mtX11_refuse (tX11_refuse (by first | assumption | omega)) (by assumption) rfl rfl (by decide) (Nat.le_of_ble_eq_true rfl) (Nat.zero_le _) (Nat.zero_le _) ?_
      refine z_i2l (pc := 28) C dX11_silent_28 ?_
      refine z_lret (pc := 29) C dX11_silent_29 rfl (Nat.zero_le _) (Nat.zero_le _) ⟨?_, ?_, rfl⟩
      · simp [aSil, aWl, swhy, *] <;> rfl
      · simp [aSil, aWl, swhy, *] <;> rfl
    · skip
      refine z_iload_n (pc := 18) C dX11_silent_18 1 rfl ?_
      refine z_iconst (pc := 19) C dX11_silent_19 (nI 2) (by decide) ?_
      refine z_icmp_le (pc := 20) C 30 dX11_silent_20 (by decide) (fun hc20 => ?_) (fun hc20 => ?_)
      · skip
        have e5 : zlt n0 3 = true := zlt_le3 (c := 2) (by decide) hc15 hc20
        obtain ⟨q, hq, rfl⟩ := zlt_of (by omega) e5
        have pq := pn_nI (j := q) (by omega)
        obtain ⟨d1, d2, d3⟩ := sDead_le (R := R) hq
        refine z_aload_n (pc := 30) C dX11_silent_30 0 rfl ?_
        refine z_iconst (pc := 31) C dX11_silent_31 (nI 0) (by decide) ?_
        refine z_putf (pc := 32) (fs' := kfs _ _ _ _ _) C dX11_silent_32 gX11_111 (by assumption) (fun _ => ⟨rfl, rfl⟩) (by exact Nat.le_of_ble_eq_true rfl) (by rfl) ?_
        have hC1 : Scn (zup h 1000 (zO 7 (kfs st ic (nI 0) fa pl))) 1051 1052 1053 t R S := Scn_up hC (by decide) (by decide) (by decide) (by omega)
        have hK1 := zup_same h 1000 (zO 7 (kfs st ic (nI 0) fa pl))
        obtain ⟨hT1, fl1, ft1, u0, -⟩ := id hC1
        obtain ⟨_, _, _, _, _, _, _, _, v0, -⟩ := id hT1
        refine z_aload_n (pc := 35) C dX11_silent_35 0 rfl ?_
        refine z_getf (pc := 36) C dX11_silent_36 fX11_53 (by assumption) (by first | rfl | assumption) ?_
        refine z_getf (pc := 39) C dX11_silent_39 fX11_120 (by assumption) (by first | rfl | assumption) ?_
        refine z_getf (pc := 42) C dX11_silent_42 fX11_314 (by assumption) (by first | rfl | assumption) ?_
        refine z_iload_n (pc := 45) C dX11_silent_45 1 rfl ?_
        refine z_cS1 (pc := 46) mX0_dead C [_, _] dX11_silent_46 lX11_317 mtX0_dead (tX0_dead hR (by omega)) rfl rfl (by decide) (Nat.le_of_ble_eq_true rfl) (Nat.zero_le _) (Nat.zero_le _) ?_
        refine z_aload_n (pc := 49) C dX11_silent_49 0 rfl ?_
        refine z_cV1 (pc := 50) mX11_men C [] dX11_silent_50 lX11_331 mtX11_men (tX11_men hK1 hC1) (by assumption) rfl rfl (by decide) (Nat.le_of_ble_eq_true rfl) (Nat.zero_le _) (Nat.zero_le _) ?_
        refine z_cS1 (pc := 53) mX0_power C [_, _] dX11_silent_53 lX11_334 mtX0_power (tX0_power (by omega)) rfl rfl (by decide) (Nat.le_of_ble_eq_true rfl) (Nat.zero_le _) (Nat.zero_le _) ?_
        refine z_lstore_n (pc := 56) (lv' := [(3, _), (0, _), (1, _), (2, _)]) C dX11_silent_56 (by decide) rfl ?_
        refine z_lload_n (pc := 57) C dX11_silent_57 0 rfl ?_
        refine z_iload_n (pc := 58) C dX11_silent_58 2 rfl ?_
        refine z_cS1 (pc := 59) mX0_hundreds C [_] dX11_silent_59 lX11_323 mtX0_hundreds (tX0_hundreds (by omega)) rfl rfl (by decide) (Nat.le_of_ble_eq_true rfl) (Nat.zero_le _) (Nat.zero_le _) ?_
        refine z_aload_n (pc := 62) C dX11_silent_62 1 rfl ?_
        refine z_cV1 (pc := 63) mX11_men C [] dX11_silent_63 lX11_331 mtX11_men (tX11_men hK1 hC1) (by assumption) rfl rfl (by decide) (Nat.le_of_ble_eq_true rfl) (Nat.zero_le _) (Nat.zero_le _) ?_
        refine z_cS1 (pc := 66) mX0_power C [_, _] dX11_silent_66 lX11_334 mtX0_power (tX0_power (by omega)) rfl rfl (by decide) (Nat.le_of_ble_eq_true rfl) (Nat.zero_le _) (Nat.zero_le _) ?_
        refine z_iload_n (pc := 69) C dX11_silent_69 3 rfl ?_
        refine z_cS1 (pc := 70) mX0_part C [_, _, _] dX11_silent_70 lX11_327 mtX0_part (tX0_part (by have := sDead_p d1 w3; omega) (by have := sDead_p d2 w3; omega) (Nat.pow_pos d3)) rfl rfl (by decide) (Nat.le_of_ble_eq_true rfl) (Nat.zero_le _) (Nat.zero_le _) ?_
        refine z_lret (pc := 73) C dX11_silent_73 rfl (Nat.zero_le _) (Nat.zero_le _) ⟨?_, ?_, rfl⟩
        · simp [aSil, aWl, swhy, *] <;> rfl
        · simp [aSil, aWl, swhy, *] <;> rfl
      · skip
        have e5 : zlt n0 3 = false := zlt_f3 (c := 2) (by decide) hc20
        refine z_aload_n (pc := 23) C dX11_silent_23 0 rfl ?_
        refine z_iconst (pc := 24) C dX11_silent_24 (nI 2) (by decide) ?_
        refine z_cV1 (pc := 25) mX11_refuse C [_] dX11_silent_25 lX11_70 mtX11_refuse (tX11_refuse (by first | assumption | omega)) (by assumption) rfl rfl (by decide) (Nat.le_of_ble_eq_true rfl) (Nat.zero_le _) (Nat.zero_le _) ?_
        refine z_i2l (pc := 28) C dX11_silent_28 ?_
        refine z_lret (pc := 29) C dX11_silent_29 rfl (Nat.zero_le _) (Nat.zero_le _) ⟨?_, ?_, rfl⟩
        · simp [aSil, aWl, swhy, *] <;> rfl
        · simp [aSil, aWl, swhy, *] <;> rfl
  · skip
    have e0 := of_decide_eq_false hc4
    refine z_aload_n (pc := 7) C dX11_silent_7 0 rfl ?_
    refine z_iconst (pc := 8) C dX11_silent_8 (nI 1) (by decide) ?_
    refine z_cV1 (pc := 9) mX11_refuse C [_] dX11_silent_9 lX11_70 mtX11_refuse (tX11_refuse (by first | assumption | omega)) (by assumption) rfl rfl (by decide) (Nat.le_of_ble_eq_true rfl) (Nat.zero_le _) (Nat.zero_le _) ?_
    refine z_i2l (pc := 12) C dX11_silent_12 ?_
    refine z_lret (pc := 13) C dX11_silent_13 rfl (Nat.zero_le _) (Nat.zero_le _) ⟨?_, ?_, rfl⟩
    · simp [aSil, aWl, swhy, *] <;> rfl
    · simp [aSil, aWl, swhy, *] <;> rfl

set_option maxRecDepth 20000 in
set_option maxHeartbeats 1000000 in
theorem tX11_mean {h : ZH} {st : Nat} {ic tb fa pl : Int32} {t : Nat} {R S : Nat → Nat} {lo : Bool} {n0 : Int32} (hK : h 1000 = some (zO 7 (kfs st ic tb fa pl))) (hC : Scn h 1051 1052 1053 t R S) (hR : wfR R) (hS : wfS R S) (hz : t = 1008 ∨ t = 1039) : ZD mX11_mean 3 [.ref 1000, .int n0, .int (zb lo)] h (some (.long (aMea R n0 lo).1)) (zup h 1000 (zO 7 (kfs st ic (aMea R n0 lo).2 fa pl))) := by
  intro n
  obtain ⟨w1, w3, w4, w5, w0, wP, wM, wK, wX⟩ := id hR
  obtain ⟨wT, wL, wB⟩ := id hS
  obtain ⟨hT, fl, ft, s0, s1, s2, rl, rt⟩ := id hC
  obtain ⟨fc, fh, fn, fk, fs, ff, fw, fe, t0, t1, t2, t3, t4, t5, t6, t7, t8, rc, rh, rn, rk, rs, rf, rv, re⟩ := id hT
  refine z_enter (lv := [(0, _), (1, _), (2, _)]) (by decide) (Nat.le_of_ble_eq_true rfl) rfl (fun X C => ?_)
  refine z_aload_n (pc := 0) C dX11_mean_0 0 rfl ?_
  refine z_cV1 (pc := 1) mX11_isForest C [] dX11_mean_1 lX11_183 mtX11_isForest (tX11_isForest (by first | assumption | omega) (by first | assumption | omega) (by first | assumption | omega)) (by assumption) rfl rfl (by decide) (Nat.le_of_ble_eq_true rfl) (Nat.zero_le _) (Nat.zero_le _) ?_
  first | refine z_ifneB (pc := 4) C 14 dX11_mean_4 (by decide) (fun hc4 => ?_) (fun hc4 => ?_) | refine z_ifneN (pc := 4) C 14 dX11_mean_4 (by decide) (by omega) (fun hc4 => ?_) (fun hc4 => ?_) | refine z_if_ne (pc := 4) C 14 dX11_mean_4 (by decide) (fun hc4 => ?_) (fun hc4 => ?_)
  · skip
    have e0 := of_decide_eq_true hc4
    refine z_iload_n (pc := 14) C dX11_mean_14 1 rfl ?_
    refine z_if_lt (pc := 15) C 23 dX11_mean_15 (by decide) (fun hc15 => ?_) (fun hc15 => ?_)
    · skip
      have e5 : zlt n0 3 = false := zlt_f1 hc15
      refine z_aload_n (pc := 23) C dX11_mean_23 0 rfl ?_
      refine z_iconst (pc := 24) C dX11_mean_24 (nI 2) (by decide) ?_
      refine z_cV1 (pc := 25) mX11_refuse C [_] dX11_mean_25 lX11_70 mtX11_refuse (tX11_refuse (by first | assumption | omega)) (by assumption) rfl rfl (by decide) (Nat.le_of_ble_eq_true rfl) (Nat.zero_le _) (Nat.zero_le _) ?_
      refine z_i2l (pc := 28) C dX11_mean_28 ?_
      refine z_lret (pc := 29) C dX11_mean_29 rfl (Nat.zero_le _) (Nat.zero_le _) ⟨?_, ?_, rfl⟩
      · simp [aMea, aWl, swhy, *] <;> rfl
      · simp [aMea, aWl, swhy, *] <;> rfl
    · skip
      refine z_iload_n (pc := 18) C dX11_mean_18 1 rfl ?_
      refine z_iconst (pc := 19) C dX11_mean_19 (nI 2) (by decide) ?_
      refine z_icmp_le (pc := 20) C 30 dX11_mean_20 (by decide) (fun hc20 => ?_) (fun hc20 => ?_)
      · skip
        have e5 : zlt n0 3 = true := zlt_le3 (c := 2) (by decide) hc15 hc20
        obtain ⟨q, hq, rfl⟩ := zlt_of (by omega) e5
        have pq := pn_nI (j := q) (by omega)
        obtain ⟨d1, d2, d3⟩ := sDead_le (R := R) hq
        refine z_aload_n (pc := 30) C dX11_mean_30 0 rfl ?_
        refine z_iconst (pc := 31) C dX11_mean_31 (nI 0) (by decide) ?_
        refine z_putf (pc := 32) (fs' := kfs _ _ _ _ _) C dX11_mean_32 gX11_111 (by assumption) (fun _ => ⟨rfl, rfl⟩) (by exact Nat.le_of_ble_eq_true rfl) (by rfl) ?_
        have hC1 : Scn (zup h 1000 (zO 7 (kfs st ic (nI 0) fa pl))) 1051 1052 1053 t R S := Scn_up hC (by decide) (by decide) (by decide) (by omega)
        have hK1 := zup_same h 1000 (zO 7 (kfs st ic (nI 0) fa pl))
        obtain ⟨hT1, fl1, ft1, u0, -⟩ := id hC1
        obtain ⟨_, _, _, _, _, _, _, _, v0, -⟩ := id hT1
        refine z_aload_n (pc := 35) C dX11_mean_35 0 rfl ?_
        refine z_cV1 (pc := 36) mX11_kills C [] dX11_mean_36 lX11_338 mtX11_kills (tX11_kills hK1 hC1) (by assumption) rfl rfl (by decide) (Nat.le_of_ble_eq_true rfl) (Nat.zero_le _) (Nat.zero_le _) ?_
        refine z_i2l (pc := 39) C dX11_mean_39 ?_
        refine z_topl (nI_l (by omega)) ?_
        refine z_aload_n (pc := 40) C dX11_mean_40 0 rfl ?_
        refine z_getf (pc := 41) C dX11_mean_41 fX11_53 (by assumption) (by first | rfl | assumption) ?_
        refine z_getf (pc := 44) C dX11_mean_44 fX11_120 (by assumption) (by first | rfl | assumption) ?_
        refine z_getf (pc := 47) C dX11_mean_47 fX11_314 (by assumption) (by first | rfl | assumption) ?_
        refine z_iload_n (pc := 50) C dX11_mean_50 1 rfl ?_
        refine z_cS1 (pc := 51) mX0_dead C [_, _] dX11_mean_51 lX11_317 mtX0_dead (tX0_dead hR (by omega)) rfl rfl (by decide) (Nat.le_of_ble_eq_true rfl) (Nat.zero_le _) (Nat.zero_le _) ?_
        refine z_lmul (pc := 54) C dX11_mean_54 ?_
        rw [lN_mul]
        refine z_lstore_n (pc := 55) (lv' := [(3, _), (0, _), (1, _), (2, _)]) C dX11_mean_55 (by decide) rfl ?_
        refine z_lload_n (pc := 56) C dX11_mean_56 0 rfl ?_
        refine z_iload_n (pc := 57) C dX11_mean_57 2 rfl ?_
        refine z_cS1 (pc := 58) mX0_hundreds C [_] dX11_mean_58 lX11_323 mtX0_hundreds (tX0_hundreds (by omega)) rfl rfl (by decide) (Nat.le_of_ble_eq_true rfl) (Nat.zero_le _) (Nat.zero_le _) ?_
        refine z_iload_n (pc := 61) C dX11_mean_61 3 rfl ?_
        refine z_cS1 (pc := 62) mX0_part C [_, _, _] dX11_mean_62 lX11_327 mtX0_part (tX0_part (by have := Nat.mul_le_mul w4 d1; omega) (by omega) d3) rfl rfl (by decide) (Nat.le_of_ble_eq_true rfl) (Nat.zero_le _) (Nat.zero_le _) ?_
        refine z_lret (pc := 65) C dX11_mean_65 rfl (Nat.zero_le _) (Nat.zero_le _) ⟨?_, ?_, rfl⟩
        · simp [aMea, aWl, swhy, *] <;> rfl
        · simp [aMea, aWl, swhy, *] <;> rfl
      · skip
        have e5 : zlt n0 3 = false := zlt_f3 (c := 2) (by decide) hc20
        refine z_aload_n (pc := 23) C dX11_mean_23 0 rfl ?_
        refine z_iconst (pc := 24) C dX11_mean_24 (nI 2) (by decide) ?_
        refine z_cV1 (pc := 25) mX11_refuse C [_] dX11_mean_25 lX11_70 mtX11_refuse (tX11_refuse (by first | assumption | omega)) (by assumption) rfl rfl (by decide) (Nat.le_of_ble_eq_true rfl) (Nat.zero_le _) (Nat.zero_le _) ?_
        refine z_i2l (pc := 28) C dX11_mean_28 ?_
        refine z_lret (pc := 29) C dX11_mean_29 rfl (Nat.zero_le _) (Nat.zero_le _) ⟨?_, ?_, rfl⟩
        · simp [aMea, aWl, swhy, *] <;> rfl
        · simp [aMea, aWl, swhy, *] <;> rfl
  · skip
    have e0 := of_decide_eq_false hc4
    refine z_aload_n (pc := 7) C dX11_mean_7 0 rfl ?_
    refine z_iconst (pc := 8) C dX11_mean_8 (nI 1) (by decide) ?_
    refine z_cV1 (pc := 9) mX11_refuse C [_] dX11_mean_9 lX11_70 mtX11_refuse (tX11_refuse (by first | assumption | omega)) (by assumption) rfl rfl (by decide) (Nat.le_of_ble_eq_true rfl) (Nat.zero_le _) (Nat.zero_le _) ?_
    refine z_i2l (pc := 12) C dX11_mean_12 ?_
    refine z_lret (pc := 13) C dX11_mean_13 rfl (Nat.zero_le _) (Nat.zero_le _) ⟨?_, ?_, rfl⟩
    · simp [aMea, aWl, swhy, *] <;> rfl
    · simp [aMea, aWl, swhy, *] <;> rfl
