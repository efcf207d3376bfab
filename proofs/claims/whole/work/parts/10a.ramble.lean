/-- contracts by what holds of the answer and of the heap behind it -/
def ZQ1 (M : ZM) (d : Nat) (as : List Value) (h : ZH) (post : Value → ZH → Prop) : Prop := ∀ n, ZMet M d as h n 0 0 (fun r hh n' => ∃ w, r = some w ∧ post w hh ∧ n' = n)
def ZQ0 (M : ZM) (d : Nat) (as : List Value) (h : ZH) (post : ZH → Prop) : Prop := ∀ n, ZMet M d as h n 0 0 (fun r hh n' => r = none ∧ post hh ∧ n' = n)
theorem zQc_mono {G : ZG} {p q : Option Value → ZH → Nat → Prop} (h : ∀ v hh n, p v hh n → q v hh n) {a : Array Value} {s : State} {o : Outcome} {t : State} (hp : zQc G p a s o t) : zQc G q a s o t := by
  obtain ⟨v, hh, n, h1, h2, h3⟩ := hp
  exact ⟨v, hh, n, h1, h v hh n h2, h3⟩
section ZQQ
variable {X : ZX} {M : ZM} {Q : State → Prop} {pc : Nat} {lv : List (Nat × Value)} {st : List Value} {h : ZH} {n cs sl d RC RS d' idx na : Nat}
theorem z_cV1Q (M' : ZM) (C : zOk X M d RC RS) {a ci : Nat} {fs : List Value} (as : List Value) {rest : List Value} (D : decode M.2.1 pc = .ok (.invokevirtual idx, 3)) (L : Cond.methodLink M.1.cls idx M'.1 ∈ zWS) (F : zMtV M' na ci) {post : Value → ZH → Prop} (hm : ZQ1 M' d' (.ref a :: as) h post) (ha : h a = some (.inr (ci, fs))) (hs : st = as.reverse ++ .ref a :: rest) (hn : as.length = na) (hd : d' + 1 ≤ d) (hc : (rest.map fun v => v.category).sum ≤ 8) (h1 : cs ≤ RC) (h2 : sl ≤ RS) (K : ∀ w hh, post w hh → Zc X M Q (pc + 3) lv (w :: rest) hh n cs sl) : Zc X M Q pc lv st h n cs sl :=
  z_callV C D L F (hm n) ha hs hn hd hc ⟨h1, h2⟩ (fun r hh n' hp => by obtain ⟨w, rfl, hp, rfl⟩ := hp; exact K w hh hp)
theorem z_cV0Q (M' : ZM) (C : zOk X M d RC RS) {a ci : Nat} {fs : List Value} (as : List Value) {rest : List Value} (D : decode M.2.1 pc = .ok (.invokevirtual idx, 3)) (L : Cond.methodLink M.1.cls idx M'.1 ∈ zWS) (F : zMtV M' na ci) {post : ZH → Prop} (hm : ZQ0 M' d' (.ref a :: as) h post) (ha : h a = some (.inr (ci, fs))) (hs : st = as.reverse ++ .ref a :: rest) (hn : as.length = na) (hd : d' + 1 ≤ d) (hc : (rest.map fun v => v.category).sum ≤ 8) (h1 : cs ≤ RC) (h2 : sl ≤ RS) (K : ∀ hh, post hh → Zc X M Q (pc + 3) lv rest hh n cs sl) : Zc X M Q pc lv st h n cs sl :=
  z_callV C D L F (hm n) ha hs hn hd hc ⟨h1, h2⟩ (fun r hh n' hp => by obtain ⟨rfl, hp, rfl⟩ := hp; exact K hh hp)
theorem z_cVN1Q (M' : ZM) (C : zOk X M d RC RS) {a ci : Nat} {fs : List Value} (as : List Value) {rest : List Value} (D : decode M.2.1 pc = .ok (.invokevirtual idx, 3)) (L : Cond.methodLinkNest M.1.cls idx M'.1 RX11 ∈ zNW) (F : zMtV M' na ci) {post : Value → ZH → Prop} (hm : ZQ1 M' d' (.ref a :: as) h post) (ha : h a = some (.inr (ci, fs))) (hs : st = as.reverse ++ .ref a :: rest) (hn : as.length = na) (hd : d' + 1 ≤ d) (hc : (rest.map fun v => v.category).sum ≤ 8) (h1 : cs ≤ RC) (h2 : sl ≤ RS) (K : ∀ w hh, post w hh → Zc X M Q (pc + 3) lv (w :: rest) hh n cs sl) : Zc X M Q pc lv st h n cs sl :=
  z_callVN C D L F (hm n) ha hs hn hd hc ⟨h1, h2⟩ (fun r hh n' hp => by obtain ⟨w, rfl, hp, rfl⟩ := hp; exact K w hh hp)
theorem z_cVN0Q (M' : ZM) (C : zOk X M d RC RS) {a ci : Nat} {fs : List Value} (as : List Value) {rest : List Value} (D : decode M.2.1 pc = .ok (.invokevirtual idx, 3)) (L : Cond.methodLinkNest M.1.cls idx M'.1 RX11 ∈ zNW) (F : zMtV M' na ci) {post : ZH → Prop} (hm : ZQ0 M' d' (.ref a :: as) h post) (ha : h a = some (.inr (ci, fs))) (hs : st = as.reverse ++ .ref a :: rest) (hn : as.length = na) (hd : d' + 1 ≤ d) (hc : (rest.map fun v => v.category).sum ≤ 8) (h1 : cs ≤ RC) (h2 : sl ≤ RS) (K : ∀ hh, post hh → Zc X M Q (pc + 3) lv rest hh n cs sl) : Zc X M Q pc lv st h n cs sl :=
  z_callVN C D L F (hm n) ha hs hn hd hc ⟨h1, h2⟩ (fun r hh n' hp => by obtain ⟨rfl, hp, rfl⟩ := hp; exact K hh hp)
theorem z_cS1Q (M' : ZM) (C : zOk X M d RC RS) (as : List Value) {rest : List Value} (D : decode M.2.1 pc = .ok (.invokestatic idx, 3)) (L : Cond.methodLink M.1.cls idx M'.1 ∈ zWS) (F : zMtS M' na) {post : Value → ZH → Prop} (hm : ZQ1 M' d' as h post) (hs : st = as.reverse ++ rest) (hn : as.length = na) (hd : d' + 1 ≤ d) (hc : (rest.map fun v => v.category).sum ≤ 8) (h1 : cs ≤ RC) (h2 : sl ≤ RS) (K : ∀ w hh, post w hh → Zc X M Q (pc + 3) lv (w :: rest) hh n cs sl) : Zc X M Q pc lv st h n cs sl :=
  z_callS C D L F (hm n) hs hn hd hc ⟨h1, h2⟩ (fun r hh n' hp => by obtain ⟨w, rfl, hp, rfl⟩ := hp; exact K w hh hp)
theorem z_cS0Q (M' : ZM) (C : zOk X M d RC RS) (as : List Value) {rest : List Value} (D : decode M.2.1 pc = .ok (.invokestatic idx, 3)) (L : Cond.methodLink M.1.cls idx M'.1 ∈ zWS) (F : zMtS M' na) {post : ZH → Prop} (hm : ZQ0 M' d' as h post) (hs : st = as.reverse ++ rest) (hn : as.length = na) (hd : d' + 1 ≤ d) (hc : (rest.map fun v => v.category).sum ≤ 8) (h1 : cs ≤ RC) (h2 : sl ≤ RS) (K : ∀ hh, post hh → Zc X M Q (pc + 3) lv rest hh n cs sl) : Zc X M Q pc lv st h n cs sl :=
  z_callS C D L F (hm n) hs hn hd hc ⟨h1, h2⟩ (fun r hh n' hp => by obtain ⟨rfl, hp, rfl⟩ := hp; exact K hh hp)
theorem z_cSN1Q (M' : ZM) (C : zOk X M d RC RS) (as : List Value) {rest : List Value} (D : decode M.2.1 pc = .ok (.invokestatic idx, 3)) (L : Cond.methodLinkNest M.1.cls idx M'.1 RX11 ∈ zNW) (F : zMtS M' na) {post : Value → ZH → Prop} (hm : ZQ1 M' d' as h post) (hs : st = as.reverse ++ rest) (hn : as.length = na) (hd : d' + 1 ≤ d) (hc : (rest.map fun v => v.category).sum ≤ 8) (h1 : cs ≤ RC) (h2 : sl ≤ RS) (K : ∀ w hh, post w hh → Zc X M Q (pc + 3) lv (w :: rest) hh n cs sl) : Zc X M Q pc lv st h n cs sl :=
  z_callSN C D L F (hm n) hs hn hd hc ⟨h1, h2⟩ (fun r hh n' hp => by obtain ⟨w, rfl, hp, rfl⟩ := hp; exact K w hh hp)
theorem z_cSN0Q (M' : ZM) (C : zOk X M d RC RS) (as : List Value) {rest : List Value} (D : decode M.2.1 pc = .ok (.invokestatic idx, 3)) (L : Cond.methodLinkNest M.1.cls idx M'.1 RX11 ∈ zNW) (F : zMtS M' na) {post : ZH → Prop} (hm : ZQ0 M' d' as h post) (hs : st = as.reverse ++ rest) (hn : as.length = na) (hd : d' + 1 ≤ d) (hc : (rest.map fun v => v.category).sum ≤ 8) (h1 : cs ≤ RC) (h2 : sl ≤ RS) (K : ∀ hh, post hh → Zc X M Q (pc + 3) lv rest hh n cs sl) : Zc X M Q pc lv st h n cs sl :=
  z_callSN C D L F (hm n) hs hn hd hc ⟨h1, h2⟩ (fun r hh n' hp => by obtain ⟨rfl, hp, rfl⟩ := hp; exact K hh hp)
end ZQQ


def sdraw (x : Nat) : Nat := (75 * x + 74) % 65537
theorem sdraw_lt (x : Nat) : sdraw x < 65537 := Nat.mod_lt _ (by decide)
/-- the so manieth of the bits a, from q on; else p -/
def snb (a : Nat) : Nat → Nat → Nat → Nat → Nat
  | 0, _, _, p => p
  | f + 1, q, l, p => if l = 0 then p else if a.testBit q then snb a f (q + 1) (l - 1) q else snb a f (q + 1) l p
theorem snb_0 (a : Nat) (f q p : Nat) : snb a f q 0 p = p := by cases f <;> rfl
theorem snb_none {a : Nat} : ∀ f q l p, (∀ j, q ≤ j → a.testBit j = false) → snb a f q l p = p := by
  intro f
  induction f with
  | zero => intro q l p _; rfl
  | succ f ih =>
    intro q l p h
    rw [snb]
    split
    · rfl
    · rw [h q (Nat.le_refl _)]
      exact ih _ _ _ (fun j hj => h j (by omega))
theorem snb_lt {a c : Nat} (h : ∀ q, a.testBit q = true → q < c) : ∀ f q l p, p < c → snb a f q l p < c := by
  intro f
  induction f with
  | zero => intro q l p hp; exact hp
  | succ f ih =>
    intro q l p hp
    rw [snb]
    split
    · exact hp
    · split
      · rename_i e; exact ih _ _ _ (h q e)
      · exact ih _ _ _ hp
theorem snb_t {a f q l p : Nat} (hl : 1 ≤ l) (h : a.testBit q = true) : snb a (f + 1) q l p = snb a f (q + 1) (l - 1) q := by
  rw [snb, if_neg (by omega), if_pos h]
theorem snb_f {a f q l p : Nat} (hl : 1 ≤ l) (h : a.testBit q = false) : snb a (f + 1) q l p = snb a f (q + 1) l p := by
  rw [snb, if_neg (by omega), h]; rfl
theorem sone_t {a p : Nat} (h : a.testBit p = true) : sone a (p + 1) = sone a p + 1 := by rw [sone, (zbit a p).mpr h]
theorem sone_f {a p : Nat} (h : a.testBit p = false) : sone a (p + 1) = sone a p := by
  rw [sone]
  have h1 : a >>> p &&& 1 = (a >>> p) % 2 := Nat.and_one_is_mod _
  have h2 : ¬ a >>> p &&& 1 = 1 := fun z => by rw [(zbit a p).mp z] at h; cases h
  omega
theorem sone_87 : ∀ a : Fin 128, sone a.val 8 = sone a.val 7 := by decide +kernel
/-- one man's step by a draw -/
def sra1 (R : Nat → Nat) (m : Nat) (s : Nat × (Nat → Nat)) : Nat × (Nat → Nat) := (sdraw s.1, sgo s.2 m (snb (R (23 + s.2 (8 * m))) 7 0 (sdraw s.1 % (1 + sone (R (23 + s.2 (8 * m))) 8)) (s.2 (8 * m))))
def sram (R : Nat → Nat) : Nat → Nat × (Nat → Nat) → Nat × (Nat → Nat)
  | 0, s => s
  | m + 1, s => sra1 R m (sram R m s)
def sraN (R : Nat → Nat) : Nat → Nat × (Nat → Nat) → Nat × (Nat → Nat)
  | 0, s => s
  | n + 1, s => sram R (R 3) (sraN R n s)
theorem sra1_wf {R : Nat → Nat} (hR : wfR R) {m : Nat} (hm : m < R 3) {s : Nat × (Nat → Nat)} (hS : wfS R s.2) : wfS R (sra1 R m s).2 ∧ (sra1 R m s).1 < 65537 := by
  have e1 : s.2 (8 * m) < R 1 := hS.1 m hm 0 (by omega)
  exact ⟨wfS_go hR hS hm (snb_lt (hR.2.2.2.2.2.1 _ e1).2.2 _ _ _ _ e1), sdraw_lt _⟩
theorem sram_wf {R : Nat → Nat} (hR : wfR R) : ∀ m, m ≤ R 3 → ∀ s : Nat × (Nat → Nat), wfS R s.2 → s.1 < 65537 → wfS R (sram R m s).2 ∧ (sram R m s).1 < 65537 := by
  intro m
  induction m with
  | zero => intro _ s h1 h2; exact ⟨h1, h2⟩
  | succ m ih =>
    intro hm s h1 h2
    exact sra1_wf hR (by omega) (ih (by omega) s h1 h2).1
theorem sraN_wf {R : Nat → Nat} (hR : wfR R) {s : Nat × (Nat → Nat)} (h1 : wfS R s.2) (h2 : s.1 < 65537) : ∀ n, wfS R (sraN R n s).2 ∧ (sraN R n s).1 < 65537 := by
  intro n
  induction n with
  | zero => exact ⟨h1, h2⟩
  | succ n ih => exact sram_wf hR _ (Nat.le_refl _) _ ih.1 ih.2
def sEq (s t : Nat × (Nat → Nat)) : Prop := s.1 = t.1 ∧ ∀ j, j < 40 → s.2 j = t.2 j
theorem sra1_congr {R : Nat → Nat} {m : Nat} (hm : m < 4) {s t : Nat × (Nat → Nat)} (h : sEq s t) : sEq (sra1 R m s) (sra1 R m t) := by
  obtain ⟨h1, h2⟩ := h
  unfold sra1
  rw [h1, h2 (8 * m) (by omega)]
  refine ⟨rfl, fun j hj => ?_⟩
  show sgo s.2 m _ j = sgo t.2 m _ j
  unfold sgo
  split
  · rfl
  · split
    · exact h2 _ (by omega)
    · exact h2 _ hj
theorem sram_congr {R : Nat → Nat} {s t : Nat × (Nat → Nat)} (h : sEq s t) : ∀ m, m ≤ 4 → sEq (sram R m s) (sram R m t) := by
  intro m
  induction m with
  | zero => intro _; exact h
  | succ m ih => intro hm; exact sra1_congr (by omega) (ih (by omega))
theorem sraN_congr {R : Nat → Nat} (hR : R 3 ≤ 4) {s t : Nat × (Nat → Nat)} (h : sEq s t) : ∀ n, sEq (sraN R n s) (sraN R n t) := by
  intro n
  induction n with
  | zero => exact h
  | succ n ih => exact sram_congr ih _ hR
def sMet (R T : Nat → Nat) : Bool := decide (∃ m, m < R 3 ∧ ∃ o, o < m ∧ T (8 * m) = T (8 * o))
theorem sMet_congr {R S T : Nat → Nat} (hR : R 3 ≤ 4) (h : ∀ j, j < 40 → T j = S j) : sMet R T = sMet R S := by
  unfold sMet
  congr 1
  apply propext
  constructor
  · rintro ⟨m, hm, q, hq, e⟩; exact ⟨m, hm, q, hq, by rw [← h _ (by omega), ← h _ (by omega)]; exact e⟩
  · rintro ⟨m, hm, q, hq, e⟩; exact ⟨m, hm, q, hq, by rw [h _ (by omega), h _ (by omega)]; exact e⟩
theorem stwo : ∀ a : Fin 16, (1 < sone a.val 8) = (∃ i : Fin 4, ∃ j : Fin 4, j.val < i.val ∧ a.val.testBit i.val = true ∧ a.val.testBit j.val = true) := by
  have h : ∀ a : Fin 16, decide (1 < sone a.val 8) = decide (∃ i : Fin 4, ∃ j : Fin 4, j.val < i.val ∧ a.val.testBit i.val = true ∧ a.val.testBit j.val = true) := by decide +kernel
  intro a
  exact propext (decide_eq_decide.mp (h a))
theorem sMen_tb (R S : Nat → Nat) (p k : Nat) : (sMen R S p).testBit k = (decide (k < R 3) && decide (S (8 * k) = p)) := sbits_tb _ _ _
theorem sMet_men {R S : Nat → Nat} (hR : wfR R) (hS : wfS R S) : sMet R S = true ↔ ∃ p, p < R 1 ∧ 1 < sone (sMen R S p) 8 := by
  have w3 := hR.2.1
  have hl : ∀ p, sMen R S p < 16 := fun p => Nat.lt_of_lt_of_le (sbits_lt _ _) (Nat.le_trans (Nat.pow_le_pow_right (n := 2) (by decide) w3) (by decide))
  unfold sMet
  rw [decide_eq_true_iff]
  constructor
  · rintro ⟨m, hm, q, hq, e⟩
    refine ⟨S (8 * m), hS.1 m hm 0 (by omega), ?_⟩
    have := stwo ⟨_, hl (S (8 * m))⟩
    simp only at this
    rw [this]
    refine ⟨⟨m, by omega⟩, ⟨q, by omega⟩, hq, ?_, ?_⟩
    · show (sMen R S _).testBit m = true; rw [sMen_tb]; simp [hm]
    · show (sMen R S _).testBit q = true; rw [sMen_tb]; simp [e, show q < R 3 by omega]
  · rintro ⟨p, hp, h⟩
    have := stwo ⟨_, hl p⟩
    simp only at this
    rw [this] at h
    obtain ⟨i, j, hij, h1, h2⟩ := h
    rw [sMen_tb] at h1 h2
    simp only [Bool.and_eq_true, decide_eq_true_eq] at h1 h2
    exact ⟨i.val, h1.1, j.val, hij, h1.2.trans h2.2.symm⟩
def sft (P : Nat → Bool) : Nat → Option Nat
  | 0 => none
  | t + 1 => match sft P t with
    | some x => some x
    | none => if P (t + 1) then some (t + 1) else none
theorem sft_le (P : Nat → Bool) : ∀ n x, sft P n = some x → x ≤ n := by
  intro n
  induction n with
  | zero => intro x h; cases h
  | succ n ih =>
    intro x h
    rw [sft] at h
    split at h
    · cases h; have := ih _ (by assumption); omega
    · split at h
      · cases h; omega
      · cases h
theorem sft_up {P : Nat → Bool} {k x : Nat} (h : sft P k = some x) : ∀ n, k ≤ n → sft P n = some x := by
  intro n
  induction n with
  | zero => intro hn; rw [show (0 : Nat) = k by omega]; exact h
  | succ n ih =>
    intro hn
    by_cases e : k = n + 1
    · rw [← e]; exact h
    · rw [sft, ih (by omega)]
theorem sft_congr {P Q : Nat → Bool} (h : ∀ t, P t = Q t) : sft P = sft Q := by rw [show P = Q from funext h]
/-- the class's trial: its row found, its seed, its scene -/
def Tri (h : ZH) (x1 x2 : Int32) (t : Nat) (R T : Nat → Nat) : Prop := h 1019 = some (zO 6 [.ref 1020, .int x1, .int x2]) ∧ Scn h 1020 1030 1031 t R T
def trF (h hh : ZH) : Prop := ∀ a, a ≠ 1019 → a ≠ 1020 → a ≠ 1030 → a ≠ 1031 → hh a = h a
theorem trF.tr {a b c : ZH} (h1 : trF a b) (h2 : trF b c) : trF a c := fun x q1 q2 q3 q4 => (h2 x q1 q2 q3 q4).trans (h1 x q1 q2 q3 q4)
theorem trF.rf (a : ZH) : trF a a := fun _ _ _ _ _ => rfl
theorem Tri.set {h : ZH} {x1 x2 y1 y2 : Int32} {t : Nat} {R T : Nat → Nat} (hT : Tri h x1 x2 t R T) (hq : t = 1008 ∨ t = 1039) : Tri (zup h 1019 (zO 6 [.ref 1020, .int y1, .int y2])) y1 y2 t R T ∧ trF h (zup h 1019 (zO 6 [.ref 1020, .int y1, .int y2])) :=
  ⟨⟨zup_same _ _ _, Scn_up hT.2 (by decide) (by decide) (by decide) (by omega)⟩, fun a q _ _ _ => zup_ne q⟩
theorem Tri.goes {h hh : ZH} {x1 x2 : Int32} {t : Nat} {R T T' : Nat → Nat} (hT : Tri h x1 x2 t R T) (h1 : Scn hh 1020 1030 1031 t R T') (h2 : ∀ a, a ≠ 1031 → hh a = h a) : Tri hh x1 x2 t R T' ∧ trF h hh :=
  ⟨⟨(h2 1019 (by decide)).trans hT.1, h1⟩, fun a _ _ _ q => h2 a q⟩
theorem ZMet_mono {M : ZM} {d n mc ms : Nat} {as : List Value} {h : ZH} {p q : Option Value → ZH → Nat → Prop} (hm : ZMet M d as h n mc ms p) (hpq : ∀ v hh n, p v hh n → q v hh n) : ZMet M d as h n mc ms q := by
  intro l G P e ha hc hk s m args below hf happ hP hK
  obtain ⟨n, o, h1, h2, h3, h4, h5⟩ := hm l G P e ha hc hk s m args below hf happ hP hK
  exact ⟨n, o, h1, h2, h3, zQc_mono hpq h4, h5⟩
theorem ZD.q0 {M : ZM} {d : Nat} {as : List Value} {h h' : ZH} {post : ZH → Prop} (hm : ZD M d as h none h') (hp : post h') : ZQ0 M d as h post :=
  fun n => ZMet_mono (hm n) (fun v hh n' ⟨h1, h2, h3⟩ => ⟨h1, by rw [h2]; exact hp, h3⟩)
theorem ZD.q1 {M : ZM} {d : Nat} {as : List Value} {h h' : ZH} {w : Value} {post : Value → ZH → Prop} (hm : ZD M d as h (some w) h') (hp : post w h') : ZQ1 M d as h post :=
  fun n => ZMet_mono (hm n) (fun v hh n' ⟨h1, h2, h3⟩ => ⟨w, h1, by rw [h2]; exact hp, h3⟩)
theorem ZQ1.mono {M : ZM} {d : Nat} {as : List Value} {h : ZH} {p q : Value → ZH → Prop} (hm : ZQ1 M d as h p) (hpq : ∀ w hh, p w hh → q w hh) : ZQ1 M d as h q :=
  fun n => ZMet_mono (hm n) (fun v hh n' ⟨w, h1, h2, h3⟩ => ⟨w, h1, hpq _ _ h2, h3⟩)
theorem ZQ0.mono {M : ZM} {d : Nat} {as : List Value} {h : ZH} {p q : ZH → Prop} (hm : ZQ0 M d as h p) (hpq : ∀ hh, p hh → q hh) : ZQ0 M d as h q :=
  fun n => ZMet_mono (hm n) (fun v hh n' ⟨h1, h2, h3⟩ => ⟨h1, hpq _ h2, h3⟩)
theorem tX5_goQ {h : ZH} {s le tr t m p : Nat} {R S : Nat → Nat} (hC : Scn h s le tr t R S) (hR : wfR R) (hm : m < R 3) : ZQ0 mX5_go 0 [.ref s, .int (nI m), .int (nI p)] h (fun hh => Scn hh s le tr t R (sgo S m p) ∧ ∀ a, a ≠ tr → hh a = h a) := by
  obtain ⟨ft, h1, h2, h3⟩ := hC.go hR (p := p) hm
  obtain ⟨-, fl, ft', s0, s1, s2, -⟩ := hC
  have w3 := hR.2.1
  exact (tX5_go (p := p) s0 h1 (by omega)).q0 ⟨h3, fun a ha => zup_ne ha⟩
theorem sgb_congr2 {S T : Nat → Nat} {m p n : Nat} (hm : m < n) (h : ∀ j, j < 8 * n → T j = S j) : ∀ j, j < 8 * n → sgb T m p j = sgb S m p j := sgb_congr hm h
theorem tX5_goBackQ {h : ZH} {s le tr t m p : Nat} {R S : Nat → Nat} (hC : Scn h s le tr t R S) (hR : wfR R) (hm : m < R 3) : ZQ0 mX5_goBack 0 [.ref s, .int (nI m), .int (nI p)] h (fun hh => Scn hh s le tr t R (sgb S m p) ∧ ∀ a, a ≠ tr → hh a = h a) := by
  obtain ⟨hT, fl, ft, s0, s1, s2, rl, rt⟩ := hC
  have w3 := hR.2.1
  refine (tX5_goBack (p := p) s0 s2 (by omega)).q0 ⟨?_, fun a ha => zup_ne ha⟩
  obtain ⟨fc, fh, fn, fk, fs, ff, fw, fe, t0, t1, t2, t3, t4, t5, t6, t7, t8, r⟩ := id hT
  have n0 : s ≠ tr := (ad_ne s2 s0 zIO_ne).symm
  have n1 : le ≠ tr := ad_ne s1 s2 (zI_ne (by decide))
  refine ⟨hT.fr (fun a h1 h2 => zup_ne ?_), fl, sgb ft m p, ?_, (zup_ne n1).trans s1, zup_same _ _ _, fun k hk => by rw [sgb_k (by omega) (by omega)]; exact rl k hk, sgb_congr hm rt⟩
  · rcases (show a = t ∨ a = t + 1 ∨ a = t + 2 ∨ a = t + 3 ∨ a = t + 4 ∨ a = t + 5 ∨ a = t + 6 ∨ a = t + 7 ∨ a = t + 8 by omega) with rfl | rfl | rfl | rfl | rfl | rfl | rfl | rfl | rfl
    · exact (ad_ne s2 t0 zIO_ne).symm
    · exact ad_ne t1 s2 (zI_ne (by decide))
    · exact ad_ne t2 s2 (zI_ne (by decide))
    · exact ad_ne t3 s2 (zI_ne (by decide))
    · exact ad_ne t4 s2 (zI_ne (by decide))
    · exact ad_ne t5 s2 (zI_ne (by decide))
    · exact ad_ne t6 s2 (zI_ne (by decide))
    · exact ad_ne t7 s2 (zI_ne (by decide))
    · exact ad_ne t8 s2 (zI_ne (by decide))
  · rw [zup_ne n0, sgb_k (by omega) (by omega), sgb_k (by omega) (by omega)]; exact s0
/-- what calls of the class leave: its own numbers, and of the trial the shape alone -/
def Trs (h : ZH) : Prop := (∃ x1 x2 : Int32, h 1019 = some (zO 6 [.ref 1020, .int x1, .int x2])) ∧ Shp h 1020 1030 1031
theorem Tri.trs {h : ZH} {x1 x2 : Int32} {t : Nat} {R T : Nat → Nat} (hT : Tri h x1 x2 t R T) : Trs h := ⟨⟨x1, x2, hT.1⟩, hT.2.shp⟩
def kQ (h hh : ZH) (st : Nat) (ic tb fa pl : Int32) : Prop := hh 1000 = some (zO 7 (kfs st ic tb fa pl)) ∧ Trs hh ∧ ∀ a, a ≠ 1000 → a ≠ 1019 → a ≠ 1020 → a ≠ 1030 → a ≠ 1031 → hh a = h a
theorem Trs.up {h : ZH} (hT : Trs h) (c : ZE) : Trs (zup h 1000 c) := by
  obtain ⟨⟨x1, x2, h1⟩, t, la, sp, fl, ft, a1, a2, a3⟩ := hT
  exact ⟨⟨x1, x2, (zup_ne (by decide)).trans h1⟩, t, la, sp, fl, ft, (zup_ne (by decide)).trans a1, (zup_ne (by decide)).trans a2, (zup_ne (by decide)).trans a3⟩
theorem kQ.of {h hh : ZH} (st : Nat) (ic tb fa pl : Int32) (hT : Trs hh) (hF : trF h hh) : kQ h (zup hh 1000 (zO 7 (kfs st ic tb fa pl))) st ic tb fa pl :=
  ⟨zup_same _ _ _, hT.up _, fun a q0 q1 q2 q3 q4 => (zup_ne q0).trans (hF a q1 q2 q3 q4)⟩
theorem kQ.of0 {h : ZH} (st : Nat) (ic tb fa pl : Int32) (hT : Trs h) : kQ h (zup h 1000 (zO 7 (kfs st ic tb fa pl))) st ic tb fa pl := kQ.of st ic tb fa pl hT (trF.rf h)
theorem kQ.eq {h hh : ZH} {st : Nat} {ic fa pl t t' : Int32} (e : t' = t) (hq : kQ h hh st ic t fa pl) : kQ h hh st ic t' fa pl := e ▸ hq
/-- the trial begins with what is now -/
theorem tX9_beginQ {h : ZH} {t : Nat} {R S : Nat → Nat} (hR : wfR R) (hC : Scn h 1051 1052 1053 t R S) (hq : t = 1008 ∨ t = 1039) (hT : Trs h) : ZQ0 mX9_begin 2 [.ref 1019, .ref 1051] h (fun hh => (∃ x1 x2, Tri hh x1 x2 t R S) ∧ trF h hh) := by
  obtain ⟨⟨x1, x2, q0⟩, hs⟩ := hT
  obtain ⟨h1, Z1, C1, F1⟩ := tX5_becomeX hR hs hC (by decide) (by omega)
  obtain ⟨t0, la, sp, fl, ft, s0, -⟩ := hs
  exact (tX9_begin q0 s0 Z1).q0 ⟨⟨x1, x2, (F1 1019 (by decide) (by decide) (by decide)).trans q0, C1⟩, fun a _ q1 q2 q3 => F1 a q1 q2 q3⟩

set_option maxRecDepth 20000 in
set_option maxHeartbeats 1000000 in
theorem tX9_soManieth {h : ZH} {a c dd : Nat} (ha : a < 128) (hc1 : 1 ≤ c) (hc : c ≤ sone a 7) : ZD mX9_soManieth 1 [.int (nI a), .int (nI c)] h (some (.int (nI (snb a 7 0 c dd)))) h := by
  intro n
  have eb := sone_le a 7
  refine z_enter (lv := [(0, _), (1, _)]) (by decide) (Nat.le_of_ble_eq_true rfl) rfl (fun X C => ?_)
  refine z_iload_n (pc := 0) C dX9_soManieth_0 1 rfl ?_
  refine z_istore_n (pc := 1) (lv' := [(2, _), (0, _), (1, _)]) C dX9_soManieth_1 (by decide) rfl ?_
  refine z_iconst (pc := 2) C dX9_soManieth_2 (nI 0) (by decide) ?_
  refine z_istore_n (pc := 3) (lv' := [(3, _), (2, _), (0, _), (1, _)]) C dX9_soManieth_3 (by decide) rfl ?_
  refine z_sub (lv' := [(0, _), (1, _), (2, _), (3, _)]) [2, 3, 1, 0] rfl ?_
  have lp4 : ∀ (f : Nat) (p l d2 : Nat), (p + f = 7 ∧ 1 ≤ l ∧ l + sone a p = c ∧ snb a 7 0 c dd = snb a f p l d2) → Zc X mX9_soManieth (zEnd X (fun r hh n' => r = (some (.int (nI (snb a 7 0 c dd)))) ∧ hh = h ∧ n' = n) 0 0) 4 [(0, .int (nI a)), (1, .int (nI c)), (2, .int (nI l)), (3, .int (nI p))] [] h n 0 0 := by
    intro f
    induction f using Nat.strongRecOn with
    | _ f ih =>
      intro p l d2 hk
      obtain ⟨hk, hl1, hl, he⟩ := hk
      refine z_iload_n (pc := 4) C dX9_soManieth_4 3 rfl ?_
      refine z_bipush (pc := 5) C dX9_soManieth_5 (nI 7) (by decide) ?_
      first | refine z_icmpgeN (pc := 7) C 33 dX9_soManieth_7 (by decide) (by omega) (by omega) (fun hc7 => ?_) (fun hc7 => ?_) | refine z_icmp_ge (pc := 7) C 33 dX9_soManieth_7 (by decide) (fun hc7 => ?_) (fun hc7 => ?_)
      · skip
        refine z_iconst (pc := 33) C dX9_soManieth_33 (nI 0) (by decide) ?_
        refine z_iret (pc := 34) C dX9_soManieth_34 rfl (Nat.zero_le _) (Nat.zero_le _) ⟨?_, ?_, rfl⟩
        · exfalso; obtain rfl : p = 7 := (by omega); omega
        · rfl
      · skip
        refine z_iload_n (pc := 10) C dX9_soManieth_10 0 rfl ?_
        refine z_iload_n (pc := 11) C dX9_soManieth_11 3 rfl ?_
        refine z_cSN1 (pc := 12) mX11_has C [_, _] dX9_soManieth_12 lX9_80 mtX11_has (tX11_has (by first | assumption | omega) (by first | assumption | omega)) rfl rfl (by decide) (Nat.le_of_ble_eq_true rfl) (Nat.zero_le _) (Nat.zero_le _) ?_
        first | refine z_ifeqB (pc := 15) C 27 dX9_soManieth_15 (by decide) (fun hc15 => ?_) (fun hc15 => ?_) | refine z_ifeqN (pc := 15) C 27 dX9_soManieth_15 (by decide) (by omega) (fun hc15 => ?_) (fun hc15 => ?_) | refine z_if_eq (pc := 15) C 27 dX9_soManieth_15 (by decide) (fun hc15 => ?_) (fun hc15 => ?_)
        · skip
          first | refine z_iincN (pc := 27) (lv' := [(3, _), (0, _), (1, _), (2, _)]) C 1 dX9_soManieth_27 3 rfl (by decide) (by decide) rfl ?_ | refine z_iinc (pc := 27) (lv' := [(3, _), (0, _), (1, _), (2, _)]) C dX9_soManieth_27 3 rfl _ rfl (by decide) rfl ?_
          refine z_goto (pc := 30) C 4 dX9_soManieth_30 (by decide) ?_
          refine z_sub (lv' := [(0, _), (1, _), (2, _), (3, _)]) [1, 2, 3, 0] rfl ?_
          first | exact ih (f - 1) (by omega) (p + 1) l d2 ⟨by omega, hl1, by rw [sone_f hc15]; exact hl, by rw [he]; obtain ⟨f, rfl⟩ : ∃ g, f = g + 1 := ⟨f - 1, by omega⟩; rw [snb_f hl1 hc15]; rfl⟩ | exact ih (f - 1) (by omega) (p + 1) (l - 1) p ⟨by omega, by omega, by rw [sone_t hc15]; omega, by rw [he]; obtain ⟨f, rfl⟩ : ∃ g, f = g + 1 := ⟨f - 1, by omega⟩; rw [snb_t hl1 hc15]; rfl⟩
        · skip
          first | refine z_idecN (pc := 18) (lv' := [(2, _), (0, _), (1, _), (3, _)]) C dX9_soManieth_18 2 rfl (by omega) (by decide) rfl ?_ | refine z_iinc (pc := 18) (lv' := [(2, _), (0, _), (1, _), (3, _)]) C dX9_soManieth_18 2 rfl _ rfl (by decide) rfl ?_
          refine z_iload_n (pc := 21) C dX9_soManieth_21 0 rfl ?_
          first | refine z_ifneB (pc := 22) C 27 dX9_soManieth_22 (by decide) (fun hc22 => ?_) (fun hc22 => ?_) | refine z_ifneN (pc := 22) C 27 dX9_soManieth_22 (by decide) (by omega) (fun hc22 => ?_) (fun hc22 => ?_) | refine z_if_ne (pc := 22) C 27 dX9_soManieth_22 (by decide) (fun hc22 => ?_) (fun hc22 => ?_)
          · skip
            first | refine z_iincN (pc := 27) (lv' := [(3, _), (2, _), (0, _), (1, _)]) C 1 dX9_soManieth_27 3 rfl (by decide) (by decide) rfl ?_ | refine z_iinc (pc := 27) (lv' := [(3, _), (2, _), (0, _), (1, _)]) C dX9_soManieth_27 3 rfl _ rfl (by decide) rfl ?_
            refine z_goto (pc := 30) C 4 dX9_soManieth_30 (by decide) ?_
            refine z_sub (lv' := [(0, _), (1, _), (2, _), (3, _)]) [2, 3, 1, 0] rfl ?_
            first | exact ih (f - 1) (by omega) (p + 1) l d2 ⟨by omega, hl1, by rw [sone_f hc15]; exact hl, by rw [he]; obtain ⟨f, rfl⟩ : ∃ g, f = g + 1 := ⟨f - 1, by omega⟩; rw [snb_f hl1 hc15]; rfl⟩ | exact ih (f - 1) (by omega) (p + 1) (l - 1) p ⟨by omega, by omega, by rw [sone_t hc15]; omega, by rw [he]; obtain ⟨f, rfl⟩ : ∃ g, f = g + 1 := ⟨f - 1, by omega⟩; rw [snb_t hl1 hc15]; rfl⟩
          · skip
            refine z_iload_n (pc := 25) C dX9_soManieth_25 3 rfl ?_
            refine z_iret (pc := 26) C dX9_soManieth_26 rfl (Nat.zero_le _) (Nat.zero_le _) ⟨?_, ?_, rfl⟩
            · rw [he]; obtain ⟨f, rfl⟩ : ∃ g, f = g + 1 := ⟨f - 1, by omega⟩; rw [snb_t hl1 hc15, hc22, snb_0]
            · rfl
  exact lp4 7 0 c dd ⟨by omega, hc1, rfl, rfl⟩

set_option maxRecDepth 20000 in
set_option maxHeartbeats 1000000 in
theorem tX5_twoMenTogether {h : ZH} {s le tr t : Nat} {R S : Nat → Nat} (hC : Scn h s le tr t R S) (hR : wfR R) (hS : wfS R S) : ZD mX5_twoMenTogether 3 [.ref s] h (some (.int (zb (sMet R S)))) h := by
  intro n
  obtain ⟨w1, w3, w4, w5, w0, wP, wM, wK, wX⟩ := id hR
  obtain ⟨wT, wL, wB⟩ := id hS
  obtain ⟨hT, fl, ft, s0, s1, s2, rl, rt⟩ := id hC
  obtain ⟨fc, fh, fn, fk, fs, ff, fw, fe, t0, t1, t2, t3, t4, t5, t6, t7, t8, rc, rh, rn, rk, rs, rf, rv, re⟩ := id hT
  refine z_enter (lv := [(0, _)]) (by decide) (Nat.le_of_ble_eq_true rfl) rfl (fun X C => ?_)
  refine z_iconst (pc := 0) C dX5_twoMenTogether_0 (nI 0) (by decide) ?_
  refine z_istore_n (pc := 1) (lv' := [(1, _), (0, _)]) C dX5_twoMenTogether_1 (by decide) rfl ?_
  refine z_sub (lv' := [(0, _), (1, _)]) [1, 0] rfl ?_
  have lp2 : ∀ (f : Nat) (k : Nat), (k + f = R 1 ∧ ∀ p, p < k → ¬ 1 < sone (sMen R S p) 8) → Zc X mX5_twoMenTogether (zEnd X (fun r hh n' => r = (some (.int (zb (sMet R S)))) ∧ hh = h ∧ n' = n) 0 0) 2 [(0, .ref s), (1, .int (nI k))] [] h n 0 0 := by
    intro f
    induction f using Nat.strongRecOn with
    | _ f ih =>
      intro k hk
      obtain ⟨hk, he⟩ := hk
      have e1 := sone_le (sMen R S k) 8
      have e2 : sMen R S k < 128 := sbits_lt7 _ (by omega)
      refine z_iload_n (pc := 2) C dX5_twoMenTogether_2 1 rfl ?_
      refine z_aload_n (pc := 3) C dX5_twoMenTogether_3 0 rfl ?_
      refine z_getf (pc := 4) C dX5_twoMenTogether_4 fX5_18 (by assumption) (by first | rfl | assumption) ?_
      refine z_getf (pc := 7) C dX5_twoMenTogether_7 fX5_64 (by assumption) (by first | rfl | assumption) ?_
      refine z_iconst (pc := 10) C dX5_twoMenTogether_10 (nI 1) (by decide) ?_
      refine z_ialdE (pc := 11) C dX5_twoMenTogether_11 (by assumption) (by omega) (by decide) (rc 1 (by decide) (by decide)) ?_
      first | refine z_icmpgeN (pc := 12) C 35 dX5_twoMenTogether_12 (by decide) (by omega) (by omega) (fun hc12 => ?_) (fun hc12 => ?_) | refine z_icmp_ge (pc := 12) C 35 dX5_twoMenTogether_12 (by decide) (fun hc12 => ?_) (fun hc12 => ?_)
      · skip
        refine z_iconst (pc := 35) C dX5_twoMenTogether_35 (zb false) (by decide) ?_
        refine z_zret (pc := 36) C dX5_twoMenTogether_36 rfl (by first | exact zb_nar _ | rfl) (Nat.zero_le _) (Nat.zero_le _) ⟨?_, ?_, rfl⟩
        · rw [show sMet R S = false from by cases z : sMet R S with | false => rfl | true => obtain ⟨p, h1, h2⟩ := (sMet_men hR hS).mp z; exact absurd h2 (he p (by omega))]
        · rfl
      · skip
        refine z_aload_n (pc := 15) C dX5_twoMenTogether_15 0 rfl ?_
        refine z_iload_n (pc := 16) C dX5_twoMenTogether_16 1 rfl ?_
        refine z_cV1 (pc := 17) mX5_menAt C [_] dX5_twoMenTogether_17 lX5_70 mtX5_menAt (tX5_menAt hC hR hS (by omega)) (by assumption) rfl rfl (by decide) (Nat.le_of_ble_eq_true rfl) (Nat.zero_le _) (Nat.zero_le _) ?_
        refine z_cS1 (pc := 20) mJ6_bitCount_0f7a4 C [_] dX5_twoMenTogether_20 lX5_73 mtJ6_bitCount_0f7a4 (tJ6_bitCount_0f7a4 (by omega)) rfl rfl (by decide) (Nat.le_of_ble_eq_true rfl) (Nat.zero_le _) (Nat.zero_le _) ?_
        refine z_iconst (pc := 23) C dX5_twoMenTogether_23 (nI 1) (by decide) ?_
        first | refine z_icmpleN (pc := 24) C 29 dX5_twoMenTogether_24 (by decide) (by omega) (by omega) (fun hc24 => ?_) (fun hc24 => ?_) | refine z_icmp_le (pc := 24) C 29 dX5_twoMenTogether_24 (by decide) (fun hc24 => ?_) (fun hc24 => ?_)
        · skip
          first | refine z_iincN (pc := 29) (lv' := [(1, _), (0, _)]) C 1 dX5_twoMenTogether_29 1 rfl (by decide) (by decide) rfl ?_ | refine z_iinc (pc := 29) (lv' := [(1, _), (0, _)]) C dX5_twoMenTogether_29 1 rfl _ rfl (by decide) rfl ?_
          refine z_goto (pc := 32) C 2 dX5_twoMenTogether_32 (by decide) ?_
          refine z_sub (lv' := [(0, _), (1, _)]) [1, 0] rfl ?_
          exact ih (f - 1) (by omega) (k + 1) ⟨by omega, fun p hp => by by_cases e : p = k; (subst e; omega); exact he p (by omega)⟩
        · skip
          refine z_iconst (pc := 27) C dX5_twoMenTogether_27 (zb true) (by decide) ?_
          refine z_zret (pc := 28) C dX5_twoMenTogether_28 rfl (by first | exact zb_nar _ | rfl) (Nat.zero_le _) (Nat.zero_le _) ⟨?_, ?_, rfl⟩
          · rw [(sMet_men hR hS).mpr ⟨k, by omega, hc24⟩]
          · rfl
  exact lp2 (R 1) 0 ⟨by omega, fun p hp => by omega⟩

set_option maxRecDepth 20000 in
set_option maxHeartbeats 1000000 in
theorem tX9_rambleOnce {h : ZH} {t : Nat} {R S : Nat → Nat} {x1 : Int32} {x : Nat} (hX : Tri h x1 (nI x) t R S) (hq : t = 1008 ∨ t = 1039) (hR : wfR R) (hS : wfS R S) (hx : x < 65537) : ZQ0 mX9_rambleOnce 4 [.ref 1019] h (fun hh => Tri hh x1 (nI (sram R (R 3) (x, S)).1) t R (sram R (R 3) (x, S)).2 ∧ trF h hh) := by
  intro n
  obtain ⟨w1, w3, w4, w5, w0, wP, wM, wK, wX⟩ := id hR
  refine z_enter (lv := [(0, _)]) (by decide) (Nat.le_of_ble_eq_true rfl) rfl (fun X C => ?_)
  refine z_iconst (pc := 0) C dX9_rambleOnce_0 (nI 0) (by decide) ?_
  refine z_istore_n (pc := 1) (lv' := [(1, _), (0, _)]) C dX9_rambleOnce_1 (by decide) rfl ?_
  refine z_sub (lv' := [(0, _), (1, _)]) [1, 0] rfl ?_
  have lp2 : ∀ (f : Nat) (k : Nat) (hh : ZH), (k + f = R 3 ∧ Tri hh x1 (nI (sram R k (x, S)).1) t R (sram R k (x, S)).2 ∧ trF h hh) → Zc X mX9_rambleOnce (zEnd X (fun r hh n' => r = none ∧ (Tri hh x1 (nI (sram R (R 3) (x, S)).1) t R (sram R (R 3) (x, S)).2 ∧ trF h hh) ∧ n' = n) 0 0) 2 [(0, .ref 1019), (1, .int (nI k))] [] hh n 0 0 := by
    intro f
    induction f using Nat.strongRecOn with
    | _ f ih =>
      intro k hh hk
      obtain ⟨hk, hX1, hF1⟩ := hk
      obtain ⟨hS1, hx1⟩ := sram_wf hR k (by omega) (x, S) hS hx
      have hnx : sram R (k + 1) (x, S) = sra1 R k (sram R k (x, S)) := rfl
      generalize hs : sram R k (x, S) = s at hX1 hS1 hx1 hnx ⊢
      obtain ⟨q0, hC⟩ := id hX1
      obtain ⟨wT, wL, wB⟩ := id hS1
      obtain ⟨hT, fl, ft, s0, s1, s2, rl, rt⟩ := id hC
      obtain ⟨fc, fh, fn, fk, fs, ff, fw, fe, t0, t1, t2, t3, t4, t5, t6, t7, t8, rc, rh, rn, rk, rs, rf, rv, re⟩ := id hT
      refine z_iload_n (pc := 2) C dX9_rambleOnce_2 1 rfl ?_
      refine z_aload_n (pc := 3) C dX9_rambleOnce_3 0 rfl ?_
      refine z_getf (pc := 4) C dX9_rambleOnce_4 fX9_17 (by assumption) (by first | rfl | assumption) ?_
      refine z_getf (pc := 7) C dX9_rambleOnce_7 fX9_64 (by assumption) (by first | rfl | assumption) ?_
      refine z_getf (pc := 10) C dX9_rambleOnce_10 fX9_68 (by assumption) (by first | rfl | assumption) ?_
      refine z_iconst (pc := 13) C dX9_rambleOnce_13 (nI 3) (by decide) ?_
      refine z_ialdE (pc := 14) C dX9_rambleOnce_14 (by assumption) (by omega) (by decide) (rc 3 (by decide) (by decide)) ?_
      first | refine z_icmpgeN (pc := 15) C 101 dX9_rambleOnce_15 (by decide) (by omega) (by omega) (fun hc15 => ?_) (fun hc15 => ?_) | refine z_icmp_ge (pc := 15) C 101 dX9_rambleOnce_15 (by decide) (fun hc15 => ?_) (fun hc15 => ?_)
      · skip
        refine z_vret (pc := 101) C dX9_rambleOnce_101 rfl (Nat.zero_le _) (Nat.zero_le _) ⟨rfl, ?_, rfl⟩
        obtain rfl : k = R 3 := (by omega); rw [hs]; exact ⟨hX1, hF1⟩
      · skip
        have e1 : s.2 (8 * k) < R 1 := wT k (by omega) 0 (by omega)
        have e2 := (wP _ e1).2.1
        have e3 := sone_87 ⟨_, e2⟩
        simp only at e3
        have e4 := sone_le (R (23 + s.2 (8 * k))) 8
        refine z_aload_n (pc := 18) C dX9_rambleOnce_18 0 rfl ?_
        refine z_getf (pc := 19) C dX9_rambleOnce_19 fX9_17 (by assumption) (by first | rfl | assumption) ?_
        refine z_getf (pc := 22) C dX9_rambleOnce_22 fX9_64 (by assumption) (by first | rfl | assumption) ?_
        refine z_getf (pc := 25) C dX9_rambleOnce_25 fX9_77 (by assumption) (by first | rfl | assumption) ?_
        refine z_aload_n (pc := 28) C dX9_rambleOnce_28 0 rfl ?_
        refine z_getf (pc := 29) C dX9_rambleOnce_29 fX9_17 (by assumption) (by first | rfl | assumption) ?_
        refine z_iload_n (pc := 32) C dX9_rambleOnce_32 1 rfl ?_
        refine z_cV1 (pc := 33) mX5_at C [_] dX9_rambleOnce_33 lX9_27 mtX5_at (tX5_at hC hR (by omega)) (by assumption) rfl rfl (by decide) (Nat.le_of_ble_eq_true rfl) (Nat.zero_le _) (Nat.zero_le _) ?_
        refine z_ialdE (pc := 36) C dX9_rambleOnce_36 (by assumption) (by omega) (by decide) (rn _ e1) ?_
        refine z_istore_n (pc := 37) (lv' := [(2, _), (0, _), (1, _)]) C dX9_rambleOnce_37 (by decide) rfl ?_
        refine z_aload_n (pc := 38) C dX9_rambleOnce_38 1 rfl ?_
        refine z_bipush (pc := 39) C dX9_rambleOnce_39 (nI 75) (by decide) ?_
        refine z_aload_n (pc := 41) C dX9_rambleOnce_41 1 rfl ?_
        refine z_getf (pc := 42) C dX9_rambleOnce_42 fX9_86 (by assumption) (by first | rfl | assumption) ?_
        first | refine z_imulN (pc := 45) C dX9_rambleOnce_45 ?_ | refine z_imul (pc := 45) C dX9_rambleOnce_45 ?_
        refine z_bipush (pc := 46) C dX9_rambleOnce_46 (nI 74) (by decide) ?_
        first | refine z_iaddN (pc := 48) C dX9_rambleOnce_48 ?_ | refine z_iadd (pc := 48) C dX9_rambleOnce_48 ?_
        refine z_ldc (pc := 49) C dX9_rambleOnce_49 kX9_96 ?_
        refine z_top (show (65537 : Int32) = nI 65537 from rfl) ?_
        first | refine z_iremN (pc := 51) C dX9_rambleOnce_51 (by omega) (by omega) (by omega) ?_ | refine z_irem (pc := 51) C dX9_rambleOnce_51 (by decide) ?_
        refine z_putf (pc := 52) (fs' := [_, _, _]) C dX9_rambleOnce_52 gX9_86 (by assumption) (fun _ => ⟨rfl, rfl⟩) (by exact Nat.le_of_ble_eq_true rfl) (by rfl) ?_
        obtain ⟨X2, F2⟩ := Tri.set (y1 := x1) (y2 := nI ((75 * s.1 + 74) % 65537)) hX1 hq
        obtain ⟨q2, C2⟩ := id X2
        generalize zup hh 1019 (zO 6 [.ref 1020, .int x1, .int (nI ((75 * s.1 + 74) % 65537))]) = h2 at X2 F2 q2 C2 ⊢
        obtain ⟨hT2, fl2, ft2, u0, u1, u2, -⟩ := id C2
        have e5 := sdraw_lt s.1
        have e8 : (75 * s.1 + 74) % 65537 = sdraw s.1 := rfl
        rw [e8] at X2 q2
        have e6 : sdraw s.1 % (1 + sone (R (23 + s.2 (8 * k))) 8) < 1 + sone (R (23 + s.2 (8 * k))) 8 := Nat.mod_lt _ (by omega)
        refine z_aload_n (pc := 55) C dX9_rambleOnce_55 1 rfl ?_
        refine z_getf (pc := 56) C dX9_rambleOnce_56 fX9_86 (by assumption) (by first | rfl | assumption) ?_
        refine z_iconst (pc := 59) C dX9_rambleOnce_59 (nI 1) (by decide) ?_
        refine z_iload_n (pc := 60) C dX9_rambleOnce_60 0 rfl ?_
        refine z_cS1 (pc := 61) mJ6_bitCount_0f7a4 C [_] dX9_rambleOnce_61 lX9_97 mtJ6_bitCount_0f7a4 (tJ6_bitCount_0f7a4 (by omega)) rfl rfl (by decide) (Nat.le_of_ble_eq_true rfl) (Nat.zero_le _) (Nat.zero_le _) ?_
        first | refine z_iaddN (pc := 64) C dX9_rambleOnce_64 ?_ | refine z_iadd (pc := 64) C dX9_rambleOnce_64 ?_
        first | refine z_iremN (pc := 65) C dX9_rambleOnce_65 (by omega) (by omega) (by omega) ?_ | refine z_irem (pc := 65) C dX9_rambleOnce_65 (by decide) ?_
        refine z_istore_n (pc := 66) (lv' := [(3, _), (2, _), (0, _), (1, _)]) C dX9_rambleOnce_66 (by decide) rfl ?_
        refine z_aload_n (pc := 67) C dX9_rambleOnce_67 2 rfl ?_
        refine z_getf (pc := 68) C dX9_rambleOnce_68 fX9_17 (by assumption) (by first | rfl | assumption) ?_
        refine z_iload_n (pc := 71) C dX9_rambleOnce_71 3 rfl ?_
        refine z_iload_n (pc := 72) C dX9_rambleOnce_72 0 rfl ?_
        first | refine z_ifneB (pc := 73) C 87 dX9_rambleOnce_73 (by decide) (fun hc73 => ?_) (fun hc73 => ?_) | refine z_ifneN (pc := 73) C 87 dX9_rambleOnce_73 (by decide) (by omega) (fun hc73 => ?_) (fun hc73 => ?_) | refine z_if_ne (pc := 73) C 87 dX9_rambleOnce_73 (by decide) (fun hc73 => ?_) (fun hc73 => ?_)
        · skip
          refine z_iload_n (pc := 87) C dX9_rambleOnce_87 1 rfl ?_
          refine z_iload_n (pc := 88) C dX9_rambleOnce_88 0 rfl ?_
          refine z_cS1 (pc := 89) mX9_soManieth C [_, _] dX9_rambleOnce_89 lX9_102 mtX9_soManieth (tX9_soManieth (dd := s.2 (8 * k)) e2 hc73 (by rw [← e3]; omega)) rfl rfl (by decide) (Nat.le_of_ble_eq_true rfl) (Nat.zero_le _) (Nat.zero_le _) ?_
          refine z_cV0Q (pc := 92) mX5_go C [_, _] dX9_rambleOnce_92 lX9_43 mtX5_go (tX5_goQ C2 hR (by omega)) (by assumption) rfl rfl (by decide) (Nat.le_of_ble_eq_true rfl) (Nat.zero_le _) (Nat.zero_le _) ?_
          rintro h3 ⟨C3, F3⟩
          obtain ⟨X3, F4⟩ := X2.goes C3 F3
          have e9 := ih (f - 1) (by omega) (k + 1) h3 ⟨by omega, by rw [hnx]; first | exact X3 | (unfold sra1; rw [hc73, snb_0]; exact X3), (hF1.tr F2).tr F4⟩
          first | refine z_iincN (pc := 95) (lv' := [(1, _), (3, _), (2, _), (0, _)]) C 1 dX9_rambleOnce_95 3 rfl (by decide) (by decide) rfl ?_ | refine z_iinc (pc := 95) (lv' := [(1, _), (3, _), (2, _), (0, _)]) C dX9_rambleOnce_95 3 rfl _ rfl (by decide) rfl ?_
          refine z_goto (pc := 98) C 2 dX9_rambleOnce_98 (by decide) ?_
          refine z_sub (lv' := [(0, _), (1, _)]) [3, 0] rfl ?_
          exact e9
        · skip
          refine z_aload_n (pc := 76) C dX9_rambleOnce_76 2 rfl ?_
          refine z_getf (pc := 77) C dX9_rambleOnce_77 fX9_17 (by assumption) (by first | rfl | assumption) ?_
          refine z_iload_n (pc := 80) C dX9_rambleOnce_80 3 rfl ?_
          refine z_cV1 (pc := 81) mX5_at C [_] dX9_rambleOnce_81 lX9_27 mtX5_at (tX5_at C2 hR (by omega)) (by assumption) rfl rfl (by decide) (Nat.le_of_ble_eq_true rfl) (Nat.zero_le _) (Nat.zero_le _) ?_
          refine z_goto (pc := 84) C 92 dX9_rambleOnce_84 (by decide) ?_
          refine z_cV0Q (pc := 92) mX5_go C [_, _] dX9_rambleOnce_92 lX9_43 mtX5_go (tX5_goQ C2 hR (by omega)) (by assumption) rfl rfl (by decide) (Nat.le_of_ble_eq_true rfl) (Nat.zero_le _) (Nat.zero_le _) ?_
          rintro h3 ⟨C3, F3⟩
          obtain ⟨X3, F4⟩ := X2.goes C3 F3
          have e9 := ih (f - 1) (by omega) (k + 1) h3 ⟨by omega, by rw [hnx]; first | exact X3 | (unfold sra1; rw [hc73, snb_0]; exact X3), (hF1.tr F2).tr F4⟩
          first | refine z_iincN (pc := 95) (lv' := [(1, _), (3, _), (2, _), (0, _)]) C 1 dX9_rambleOnce_95 3 rfl (by decide) (by decide) rfl ?_ | refine z_iinc (pc := 95) (lv' := [(1, _), (3, _), (2, _), (0, _)]) C dX9_rambleOnce_95 3 rfl _ rfl (by decide) rfl ?_
          refine z_goto (pc := 98) C 2 dX9_rambleOnce_98 (by decide) ?_
          refine z_sub (lv' := [(0, _), (1, _)]) [3, 0] rfl ?_
          exact e9
  exact lp2 (R 3) 0 h ⟨by omega, hX, trF.rf h⟩

set_option maxRecDepth 20000 in
set_option maxHeartbeats 1000000 in
theorem tX9_ramble {h : ZH} {t : Nat} {R S : Nat → Nat} {x1 x2 : Int32} {x c : Nat} (hX : Tri h x1 x2 t R S) (hq : t = 1008 ∨ t = 1039) (hR : wfR R) (hS : wfS R S) (hx : x < 65537) (hc : c < 2147483648) : ZQ0 mX9_ramble 5 [.ref 1019, .int (nI x), .int (nI c)] h (fun hh => Tri hh x1 (nI (sraN R c (x, S)).1) t R (sraN R c (x, S)).2 ∧ trF h hh) := by
  intro n
  obtain ⟨q0, hC⟩ := id hX
  refine z_enter (lv := [(0, _), (1, _), (2, _)]) (by decide) (Nat.le_of_ble_eq_true rfl) rfl (fun X C => ?_)
  refine z_aload_n (pc := 0) C dX9_ramble_0 0 rfl ?_
  refine z_iload_n (pc := 1) C dX9_ramble_1 1 rfl ?_
  refine z_putf (pc := 2) (fs' := [_, _, _]) C dX9_ramble_2 gX9_86 (by assumption) (fun _ => ⟨rfl, rfl⟩) (by exact Nat.le_of_ble_eq_true rfl) (by rfl) ?_
  obtain ⟨X2, F2⟩ := Tri.set (y1 := x1) (y2 := nI x) hX hq
  generalize zup h 1019 (zO 6 [.ref 1020, .int x1, .int (nI x)]) = h2 at X2 F2 ⊢
  refine z_iconst (pc := 5) C dX9_ramble_5 (nI 0) (by decide) ?_
  refine z_istore_n (pc := 6) (lv' := [(3, _), (0, _), (1, _), (2, _)]) C dX9_ramble_6 (by decide) rfl ?_
  refine z_sub (lv' := [(0, _), (1, _), (2, _), (3, _)]) [1, 2, 3, 0] rfl ?_
  have lp7 : ∀ (f : Nat) (k : Nat) (hh : ZH), (k + f = c ∧ Tri hh x1 (nI (sraN R k (x, S)).1) t R (sraN R k (x, S)).2 ∧ trF h hh) → Zc X mX9_ramble (zEnd X (fun r hh n' => r = none ∧ (Tri hh x1 (nI (sraN R c (x, S)).1) t R (sraN R c (x, S)).2 ∧ trF h hh) ∧ n' = n) 0 0) 7 [(0, .ref 1019), (1, .int (nI x)), (2, .int (nI c)), (3, .int (nI k))] [] hh n 0 0 := by
    intro f
    induction f using Nat.strongRecOn with
    | _ f ih =>
      intro k hh hk
      obtain ⟨hk, hX1, hF1⟩ := hk
      obtain ⟨q1, hC1⟩ := id hX1
      obtain ⟨hS1, hx1⟩ := sraN_wf hR (s := (x, S)) hS hx k
      refine z_iload_n (pc := 7) C dX9_ramble_7 3 rfl ?_
      refine z_iload_n (pc := 8) C dX9_ramble_8 2 rfl ?_
      first | refine z_icmpgeN (pc := 9) C 22 dX9_ramble_9 (by decide) (by omega) (by omega) (fun hc9 => ?_) (fun hc9 => ?_) | refine z_icmp_ge (pc := 9) C 22 dX9_ramble_9 (by decide) (fun hc9 => ?_) (fun hc9 => ?_)
      · skip
        refine z_vret (pc := 22) C dX9_ramble_22 rfl (Nat.zero_le _) (Nat.zero_le _) ⟨rfl, ?_, rfl⟩
        obtain rfl : k = c := (by omega); exact ⟨hX1, hF1⟩
      · skip
        refine z_aload_n (pc := 12) C dX9_ramble_12 0 rfl ?_
        refine z_cV0Q (pc := 13) mX9_rambleOnce C [] dX9_ramble_13 lX9_89 mtX9_rambleOnce (tX9_rambleOnce hX1 hq hR hS1 hx1) (by assumption) rfl rfl (by decide) (Nat.le_of_ble_eq_true rfl) (Nat.zero_le _) (Nat.zero_le _) ?_
        rintro h3 ⟨X3, F3⟩
        first | refine z_iincN (pc := 16) (lv' := [(3, _), (0, _), (1, _), (2, _)]) C 1 dX9_ramble_16 3 rfl (by decide) (by decide) rfl ?_ | refine z_iinc (pc := 16) (lv' := [(3, _), (0, _), (1, _), (2, _)]) C dX9_ramble_16 3 rfl _ rfl (by decide) rfl ?_
        refine z_goto (pc := 19) C 7 dX9_ramble_19 (by decide) ?_
        refine z_sub (lv' := [(0, _), (1, _), (2, _), (3, _)]) [1, 2, 3, 0] rfl ?_
        exact ih (f - 1) (by omega) (k + 1) h3 ⟨by omega, X3, hF1.tr F3⟩
  exact lp7 c 0 h2 ⟨by omega, X2, F2⟩

set_option maxRecDepth 20000 in
set_option maxHeartbeats 1000000 in
theorem tX9_rambleUntilTwoMeet {h : ZH} {t : Nat} {R S : Nat → Nat} {x1 x2 : Int32} {x c : Nat} (hX : Tri h x1 x2 t R S) (hq : t = 1008 ∨ t = 1039) (hR : wfR R) (hS : wfS R S) (hx : x < 65537) (hc : c < 1000) : ZQ1 mX9_rambleUntilTwoMeet 5 [.ref 1019, .int (nI x), .int (nI c)] h (fun w hh => w = .int (zo (sft (fun t => sMet R (sraN R t (x, S)).2) c)) ∧ (∃ y1 y2 T, Tri hh y1 y2 t R T) ∧ trF h hh) := by
  intro n
  obtain ⟨q0, hC⟩ := id hX
  refine z_enter (lv := [(0, _), (1, _), (2, _)]) (by decide) (Nat.le_of_ble_eq_true rfl) rfl (fun X C => ?_)
  refine z_aload_n (pc := 0) C dX9_rambleUntilTwoMeet_0 0 rfl ?_
  refine z_iload_n (pc := 1) C dX9_rambleUntilTwoMeet_1 1 rfl ?_
  refine z_putf (pc := 2) (fs' := [_, _, _]) C dX9_rambleUntilTwoMeet_2 gX9_86 (by assumption) (fun _ => ⟨rfl, rfl⟩) (by exact Nat.le_of_ble_eq_true rfl) (by rfl) ?_
  obtain ⟨X2, F2⟩ := Tri.set (y1 := x1) (y2 := nI x) hX hq
  generalize zup h 1019 (zO 6 [.ref 1020, .int x1, .int (nI x)]) = h2 at X2 F2 ⊢
  refine z_iconst (pc := 5) C dX9_rambleUntilTwoMeet_5 (nI 1) (by decide) ?_
  refine z_istore_n (pc := 6) (lv' := [(3, _), (0, _), (1, _), (2, _)]) C dX9_rambleUntilTwoMeet_6 (by decide) rfl ?_
  refine z_sub (lv' := [(0, _), (1, _), (2, _), (3, _)]) [1, 2, 3, 0] rfl ?_
  have lp7 : ∀ (f : Nat) (k : Nat) (hh : ZH), (k + f = c ∧ sft (fun t => sMet R (sraN R t (x, S)).2) k = none ∧ Tri hh x1 (nI (sraN R k (x, S)).1) t R (sraN R k (x, S)).2 ∧ trF h hh) → Zc X mX9_rambleUntilTwoMeet (zEnd X (fun r hh n' => ∃ w, r = some w ∧ (w = .int (zo (sft (fun t => sMet R (sraN R t (x, S)).2) c)) ∧ (∃ y1 y2 T, Tri hh y1 y2 t R T) ∧ trF h hh) ∧ n' = n) 0 0) 7 [(0, .ref 1019), (1, .int (nI x)), (2, .int (nI c)), (3, .int (nI (k + 1)))] [] hh n 0 0 := by
    intro f
    induction f using Nat.strongRecOn with
    | _ f ih =>
      intro k hh hk
      obtain ⟨hk, he, hX1, hF1⟩ := hk
      obtain ⟨q1, hC1⟩ := id hX1
      obtain ⟨hS1, hx1⟩ := sraN_wf hR (s := (x, S)) hS hx k
      refine z_iload_n (pc := 7) C dX9_rambleUntilTwoMeet_7 3 rfl ?_
      refine z_iload_n (pc := 8) C dX9_rambleUntilTwoMeet_8 2 rfl ?_
      first | refine z_icmpgtN (pc := 9) C 34 dX9_rambleUntilTwoMeet_9 (by decide) (by omega) (by omega) (fun hc9 => ?_) (fun hc9 => ?_) | refine z_icmp_gt (pc := 9) C 34 dX9_rambleUntilTwoMeet_9 (by decide) (fun hc9 => ?_) (fun hc9 => ?_)
      · skip
        refine z_bipush (pc := 34) C dX9_rambleUntilTwoMeet_34 (-2) (by decide) ?_
        refine z_iret (pc := 36) C dX9_rambleUntilTwoMeet_36 rfl (Nat.zero_le _) (Nat.zero_le _) ⟨_, rfl, ?_, rfl⟩
        refine ⟨?_, ⟨_, _, _, hX1⟩, hF1⟩; obtain rfl : k = c := (by omega); rw [he]; rfl
      · skip
        refine z_aload_n (pc := 12) C dX9_rambleUntilTwoMeet_12 0 rfl ?_
        refine z_cV0Q (pc := 13) mX9_rambleOnce C [] dX9_rambleUntilTwoMeet_13 lX9_89 mtX9_rambleOnce (tX9_rambleOnce hX1 hq hR hS1 hx1) (by assumption) rfl rfl (by decide) (Nat.le_of_ble_eq_true rfl) (Nat.zero_le _) (Nat.zero_le _) ?_
        rintro h3 ⟨X3, F3⟩
        obtain ⟨q3, C3⟩ := id X3
        obtain ⟨hS3, hx3⟩ := sraN_wf hR (s := (x, S)) hS hx (k + 1)
        obtain ⟨hT3, fl3, ft3, u0, -⟩ := id C3
        refine z_aload_n (pc := 16) C dX9_rambleUntilTwoMeet_16 0 rfl ?_
        refine z_getf (pc := 17) C dX9_rambleUntilTwoMeet_17 fX9_17 (by assumption) (by first | rfl | assumption) ?_
        refine z_cV1 (pc := 20) mX5_twoMenTogether C [] dX9_rambleUntilTwoMeet_20 lX9_92 mtX5_twoMenTogether (tX5_twoMenTogether C3 hR hS3) u0 rfl rfl (by decide) (Nat.le_of_ble_eq_true rfl) (Nat.zero_le _) (Nat.zero_le _) ?_
        first | refine z_ifeqB (pc := 23) C 28 dX9_rambleUntilTwoMeet_23 (by decide) (fun hc23 => ?_) (fun hc23 => ?_) | refine z_ifeqN (pc := 23) C 28 dX9_rambleUntilTwoMeet_23 (by decide) (by omega) (fun hc23 => ?_) (fun hc23 => ?_) | refine z_if_eq (pc := 23) C 28 dX9_rambleUntilTwoMeet_23 (by decide) (fun hc23 => ?_) (fun hc23 => ?_)
        · skip
          first | refine z_iincN (pc := 28) (lv' := [(3, _), (0, _), (1, _), (2, _)]) C 1 dX9_rambleUntilTwoMeet_28 3 rfl (by decide) (by decide) rfl ?_ | refine z_iinc (pc := 28) (lv' := [(3, _), (0, _), (1, _), (2, _)]) C dX9_rambleUntilTwoMeet_28 3 rfl _ rfl (by decide) rfl ?_
          refine z_goto (pc := 31) C 7 dX9_rambleUntilTwoMeet_31 (by decide) ?_
          refine z_sub (lv' := [(0, _), (1, _), (2, _), (3, _)]) [1, 2, 3, 0] rfl ?_
          exact ih (f - 1) (by omega) (k + 1) h3 ⟨by omega, by rw [sft, he]; exact if_neg (fun z => absurd (z.symm.trans hc23) (by decide)), X3, hF1.tr F3⟩
        · skip
          refine z_iload_n (pc := 26) C dX9_rambleUntilTwoMeet_26 3 rfl ?_
          refine z_iret (pc := 27) C dX9_rambleUntilTwoMeet_27 rfl (Nat.zero_le _) (Nat.zero_le _) ⟨_, rfl, ?_, rfl⟩
          refine ⟨?_, ⟨_, _, _, X3⟩, hF1.tr F3⟩; rw [sft_up (P := fun t => sMet R (sraN R t (x, S)).2) (k := k + 1) (x := k + 1) (by rw [sft, he]; exact if_pos hc23) c (by omega)]; rfl
  exact lp7 c 0 h2 ⟨by omega, rfl, X2, F2⟩

set_option maxRecDepth 20000 in
set_option maxHeartbeats 1000000 in
theorem tX11_isRamble {h : ZH} {x n0 : Int32}  : ZD mX11_isRamble 0 [.int x, .int n0] h (some (.int (zb (zlt x 65537 && zlt n0 61)))) h := by
  intro n
  refine z_enter (lv := [(0, _), (1, _)]) (by decide) (Nat.le_of_ble_eq_true rfl) rfl (fun X C => ?_)
  refine z_iload_n (pc := 0) C dX11_isRamble_0 0 rfl ?_
  refine z_if_lt (pc := 1) C 25 dX11_isRamble_1 (by decide) (fun hc1 => ?_) (fun hc1 => ?_)
  · skip
    have e5 : zlt x 65537 = false := zlt_f1 hc1
    refine z_iconst (pc := 25) C dX11_isRamble_25 (nI 0) (by decide) ?_
    refine z_zret (pc := 26) C dX11_isRamble_26 rfl (by first | exact zb_nar _ | rfl) (Nat.zero_le _) (Nat.zero_le _) ⟨?_, ?_, rfl⟩
    · simp [*] <;> rfl
    · rfl
  · skip
    refine z_iload_n (pc := 4) C dX11_isRamble_4 0 rfl ?_
    refine z_ldcw (pc := 5) C dX11_isRamble_5 kX11_396 ?_
    refine z_top (show (65537 : Int32) = nI 65537 from rfl) ?_
    refine z_icmp_ge (pc := 8) C 25 dX11_isRamble_8 (by decide) (fun hc8 => ?_) (fun hc8 => ?_)
    · skip
      have e5 : zlt x 65537 = false := zlt_f2 (by decide) hc8
      refine z_iconst (pc := 25) C dX11_isRamble_25 (nI 0) (by decide) ?_
      refine z_zret (pc := 26) C dX11_isRamble_26 rfl (by first | exact zb_nar _ | rfl) (Nat.zero_le _) (Nat.zero_le _) ⟨?_, ?_, rfl⟩
      · simp [*] <;> rfl
      · rfl
    · skip
      have e5 : zlt x 65537 = true := zlt_t (by decide) hc1 hc8
      refine z_iload_n (pc := 11) C dX11_isRamble_11 1 rfl ?_
      refine z_if_lt (pc := 12) C 25 dX11_isRamble_12 (by decide) (fun hc12 => ?_) (fun hc12 => ?_)
      · skip
        have e6 : zlt n0 61 = false := zlt_f1 hc12
        refine z_iconst (pc := 25) C dX11_isRamble_25 (nI 0) (by decide) ?_
        refine z_zret (pc := 26) C dX11_isRamble_26 rfl (by first | exact zb_nar _ | rfl) (Nat.zero_le _) (Nat.zero_le _) ⟨?_, ?_, rfl⟩
        · simp [*] <;> rfl
        · rfl
      · skip
        refine z_iload_n (pc := 15) C dX11_isRamble_15 1 rfl ?_
        refine z_bipush (pc := 16) C dX11_isRamble_16 (nI 60) (by decide) ?_
        refine z_icmp_gt (pc := 18) C 25 dX11_isRamble_18 (by decide) (fun hc18 => ?_) (fun hc18 => ?_)
        · skip
          have e6 : zlt n0 61 = false := zlt_f2 (c := 61) (by decide) (by rw [Int32.le_iff_toInt_le]; rw [Int32.lt_iff_toInt_lt] at hc18; rw [nI_toInt (by decide)] at hc18 ⊢; omega)
          refine z_iconst (pc := 25) C dX11_isRamble_25 (nI 0) (by decide) ?_
          refine z_zret (pc := 26) C dX11_isRamble_26 rfl (by first | exact zb_nar _ | rfl) (Nat.zero_le _) (Nat.zero_le _) ⟨?_, ?_, rfl⟩
          · simp [*] <;> rfl
          · rfl
        · skip
          have e6 : zlt n0 61 = true := zlt_le3 (c := 60) (by decide) hc12 (Int32.not_lt.mp hc18)
          refine z_iconst (pc := 21) C dX11_isRamble_21 (nI 1) (by decide) ?_
          refine z_goto (pc := 22) C 26 dX11_isRamble_22 (by decide) ?_
          refine z_zret (pc := 26) C dX11_isRamble_26 rfl (by first | exact zb_nar _ | rfl) (Nat.zero_le _) (Nat.zero_le _) ⟨?_, ?_, rfl⟩
          · simp [*] <;> rfl
          · rfl

def aRm (R : Nat → Nat) (b : Bool) (x n : Int32) (z : Nat → Nat → Int32) : Int32 × Int32 := if b then (if zlt x 65537 && zlt n 61 then (z (pn x) (pn n), 0) else (-1, 2)) else (-1, 1)
def aRam (R S : Nat → Nat) (m x n : Int32) : Int32 × Int32 := aRm R (zlt m (R 3)) x n (fun x n => nI ((sraN R n (x, S)).2 (8 * pn m)))
def aSta (R S : Nat → Nat) (k x n : Int32) : Int32 × Int32 := aRm R (zlt k (R 4)) x n (fun x n => zo (sstd R (sraN R n (x, S)).2 (pn k)))
def aMee (R S : Nat → Nat) (x n : Int32) : Int32 × Int32 := aRm R (decide (0 < R 1)) x n (fun x n => zo (sft (fun t => sMet R (sraN R t (x, S)).2) n))

set_option maxRecDepth 20000 in
set_option maxHeartbeats 1000000 in
theorem tX11_rambles {h : ZH} {st : Nat} {ic tb fa pl : Int32} {t : Nat} {R S : Nat → Nat} {m x n0 : Int32} (hK : h 1000 = some (zO 7 (kfs st ic tb fa pl))) (hC : Scn h 1051 1052 1053 t R S) (hR : wfR R) (hS : wfS R S) (hq : t = 1008 ∨ t = 1039) (hT0 : Trs h) : ZQ1 mX11_rambles 6 [.ref 1000, .int m, .int x, .int n0] h (fun w hh => w = .int (aRam R S m x n0).1 ∧ kQ h hh st ic (aRam R S m x n0).2 fa pl) := by
  intro n
  obtain ⟨w1, w3, w4, w5, w0, wP, wM, wK, wX⟩ := id hR
  obtain ⟨wT, wL, wB⟩ := id hS
  obtain ⟨hT, fl, ft, s0, s1, s2, rl, rt⟩ := id hC
  obtain ⟨fc, fh, fn, fk, fs, ff, fw, fe, t0, t1, t2, t3, t4, t5, t6, t7, t8, rc, rh, rn, rk, rs, rf, rv, re⟩ := id hT
  obtain ⟨⟨z1, z2, z0⟩, -⟩ := id hT0
  refine z_enter (lv := [(0, _), (1, _), (2, _), (3, _)]) (by decide) (Nat.le_of_ble_eq_true rfl) rfl (fun X C => ?_)
  refine z_aload_n (pc := 0) C dX11_rambles_0 0 rfl ?_
  refine z_iload_n (pc := 1) C dX11_rambles_1 1 rfl ?_
  refine z_cV1 (pc := 2) mX11_isMan C [_] dX11_rambles_2 lX11_140 mtX11_isMan (tX11_isMan (by first | assumption | omega) (by first | assumption | omega) (by first | assumption | omega)) (by assumption) rfl rfl (by decide) (Nat.le_of_ble_eq_true rfl) (Nat.zero_le _) (Nat.zero_le _) ?_
  first | refine z_ifneB (pc := 5) C 14 dX11_rambles_5 (by decide) (fun hc5 => ?_) (fun hc5 => ?_) | refine z_ifneN (pc := 5) C 14 dX11_rambles_5 (by decide) (by omega) (fun hc5 => ?_) (fun hc5 => ?_) | refine z_if_ne (pc := 5) C 14 dX11_rambles_5 (by decide) (fun hc5 => ?_) (fun hc5 => ?_)
  · skip
    obtain ⟨j, hj, rfl⟩ := zlt_of (by omega) hc5
    have pj := pn_nI (j := j) (by omega)
    refine z_iload_n (pc := 14) C dX11_rambles_14 2 rfl ?_
    refine z_iload_n (pc := 15) C dX11_rambles_15 3 rfl ?_
    refine z_cS1 (pc := 16) mX11_isRamble C [_, _] dX11_rambles_16 lX11_341 mtX11_isRamble tX11_isRamble rfl rfl (by decide) (Nat.le_of_ble_eq_true rfl) (Nat.zero_le _) (Nat.zero_le _) ?_
    first | refine z_ifneB (pc := 19) C 28 dX11_rambles_19 (by decide) (fun hc19 => ?_) (fun hc19 => ?_) | refine z_ifneN (pc := 19) C 28 dX11_rambles_19 (by decide) (by omega) (fun hc19 => ?_) (fun hc19 => ?_) | refine z_if_ne (pc := 19) C 28 dX11_rambles_19 (by decide) (fun hc19 => ?_) (fun hc19 => ?_)
    · skip
      obtain ⟨e6, e7⟩ := (Bool.and_eq_true _ _).mp hc19
      obtain ⟨i, hi, rfl⟩ := zlt_of (by omega) e6
      have pi := pn_nI (j := i) (by omega)
      obtain ⟨c, hc, rfl⟩ := zlt_of (by omega) e7
      have pc := pn_nI (j := c) (by omega)
      refine z_aload_n (pc := 28) C dX11_rambles_28 0 rfl ?_
      refine z_getf (pc := 29) C dX11_rambles_29 fX11_19 (by assumption) (by first | rfl | assumption) ?_
      refine z_aload_n (pc := 32) C dX11_rambles_32 0 rfl ?_
      refine z_getf (pc := 33) C dX11_rambles_33 fX11_53 (by assumption) (by first | rfl | assumption) ?_
      refine z_cV0Q (pc := 36) mX9_begin C [_] dX11_rambles_36 lX11_232 mtX9_begin (tX9_beginQ hR hC hq hT0) z0 rfl rfl (by decide) (Nat.le_of_ble_eq_true rfl) (Nat.zero_le _) (Nat.zero_le _) ?_
      rintro h1 ⟨⟨y1, y2, X1⟩, F1⟩
      obtain ⟨q1, C1⟩ := id X1
      have K1 : h1 1000 = _ := (F1 1000 (by decide) (by decide) (by decide) (by decide)).trans hK
      refine z_aload_n (pc := 39) C dX11_rambles_39 0 rfl ?_
      refine z_getf (pc := 40) C dX11_rambles_40 fX11_19 (by assumption) (by first | rfl | assumption) ?_
      refine z_iload_n (pc := 43) C dX11_rambles_43 2 rfl ?_
      refine z_iload_n (pc := 44) C dX11_rambles_44 3 rfl ?_
      refine z_cV0Q (pc := 45) mX9_ramble C [_, _] dX11_rambles_45 lX11_344 mtX9_ramble (tX9_ramble X1 hq hR hS hi (by omega)) q1 rfl rfl (by decide) (Nat.le_of_ble_eq_true rfl) (Nat.zero_le _) (Nat.zero_le _) ?_
      rintro h2 ⟨X2, F2⟩
      replace F2 := F1.tr F2
      obtain ⟨q2, C2⟩ := id X2
      have K2 : h2 1000 = _ := (F2 1000 (by decide) (by decide) (by decide) (by decide)).trans hK
      obtain ⟨-, _, _, u0, -⟩ := id C2
      obtain ⟨hS2, -⟩ := sraN_wf hR (s := (i, S)) hS hi c
      refine z_aload_n (pc := 48) C dX11_rambles_48 0 rfl ?_
      refine z_aload_n (pc := 49) C dX11_rambles_49 0 rfl ?_
      refine z_getf (pc := 50) C dX11_rambles_50 fX11_19 (by assumption) (by first | rfl | assumption) ?_
      refine z_getf (pc := 53) C dX11_rambles_53 fX11_239 (by assumption) (by first | rfl | assumption) ?_
      refine z_iload_n (pc := 56) C dX11_rambles_56 1 rfl ?_
      refine z_cV1 (pc := 57) mX5_at C [_] dX11_rambles_57 lX11_146 mtX5_at (tX5_at C2 hR hj) u0 rfl rfl (by decide) (Nat.le_of_ble_eq_true rfl) (Nat.zero_le _) (Nat.zero_le _) ?_
      refine z_cV1 (pc := 60) mX11_answer C [_] dX11_rambles_60 lX11_108 mtX11_answer (tX11_answer K2) (by assumption) rfl rfl (by decide) (Nat.le_of_ble_eq_true rfl) (Nat.zero_le _) (Nat.zero_le _) ?_
      refine z_iret (pc := 63) C dX11_rambles_63 rfl (Nat.zero_le _) (Nat.zero_le _) ⟨_, rfl, ?_, rfl⟩
      refine ⟨by simp [aRam, aRm, *], ?_⟩
      first | exact kQ.eq (t := 1) (by simp [aRam, aRm, *] <;> rfl) (kQ.of0 _ _ _ _ _ hT0) | exact kQ.eq (t := 2) (by simp [aRam, aRm, *] <;> rfl) (kQ.of0 _ _ _ _ _ hT0) | exact kQ.eq (t := 5) (by simp [aRam, aRm, *] <;> rfl) (kQ.of _ _ _ _ _ X2.trs F2) | exact kQ.eq (t := 0) (by simp [aRam, aRm, *] <;> rfl) (kQ.of _ _ _ _ _ X2.trs F2)
    · skip
      refine z_aload_n (pc := 22) C dX11_rambles_22 0 rfl ?_
      refine z_iconst (pc := 23) C dX11_rambles_23 (nI 2) (by decide) ?_
      refine z_cV1 (pc := 24) mX11_refuse C [_] dX11_rambles_24 lX11_70 mtX11_refuse (tX11_refuse (by first | assumption | omega)) (by assumption) rfl rfl (by decide) (Nat.le_of_ble_eq_true rfl) (Nat.zero_le _) (Nat.zero_le _) ?_
      refine z_iret (pc := 27) C dX11_rambles_27 rfl (Nat.zero_le _) (Nat.zero_le _) ⟨_, rfl, ?_, rfl⟩
      refine ⟨by simp [aRam, aRm, *], ?_⟩
      first | exact kQ.eq (t := 1) (by simp [aRam, aRm, *] <;> rfl) (kQ.of0 _ _ _ _ _ hT0) | exact kQ.eq (t := 2) (by simp [aRam, aRm, *] <;> rfl) (kQ.of0 _ _ _ _ _ hT0) | exact kQ.eq (t := 5) (by simp [aRam, aRm, *] <;> rfl) (kQ.of _ _ _ _ _ X2.trs F2) | exact kQ.eq (t := 0) (by simp [aRam, aRm, *] <;> rfl) (kQ.of _ _ _ _ _ X2.trs F2)
  · skip
    refine z_aload_n (pc := 8) C dX11_rambles_8 0 rfl ?_
    refine z_iconst (pc := 9) C dX11_rambles_9 (nI 1) (by decide) ?_
    refine z_cV1 (pc := 10) mX11_refuse C [_] dX11_rambles_10 lX11_70 mtX11_refuse (tX11_refuse (by first | assumption | omega)) (by assumption) rfl rfl (by decide) (Nat.le_of_ble_eq_true rfl) (Nat.zero_le _) (Nat.zero_le _) ?_
    refine z_iret (pc := 13) C dX11_rambles_13 rfl (Nat.zero_le _) (Nat.zero_le _) ⟨_, rfl, ?_, rfl⟩
    refine ⟨by simp [aRam, aRm, *], ?_⟩
    first | exact kQ.eq (t := 1) (by simp [aRam, aRm, *] <;> rfl) (kQ.of0 _ _ _ _ _ hT0) | exact kQ.eq (t := 2) (by simp [aRam, aRm, *] <;> rfl) (kQ.of0 _ _ _ _ _ hT0) | exact kQ.eq (t := 5) (by simp [aRam, aRm, *] <;> rfl) (kQ.of _ _ _ _ _ X2.trs F2) | exact kQ.eq (t := 0) (by simp [aRam, aRm, *] <;> rfl) (kQ.of _ _ _ _ _ X2.trs F2)

set_option maxRecDepth 20000 in
set_option maxHeartbeats 1000000 in
theorem tX11_stands {h : ZH} {st : Nat} {ic tb fa pl : Int32} {t : Nat} {R S : Nat → Nat} {k x n0 : Int32} (hK : h 1000 = some (zO 7 (kfs st ic tb fa pl))) (hC : Scn h 1051 1052 1053 t R S) (hR : wfR R) (hS : wfS R S) (hq : t = 1008 ∨ t = 1039) (hT0 : Trs h) : ZQ1 mX11_stands 6 [.ref 1000, .int k, .int x, .int n0] h (fun w hh => w = .int (aSta R S k x n0).1 ∧ kQ h hh st ic (aSta R S k x n0).2 fa pl) := by
  intro n
  obtain ⟨w1, w3, w4, w5, w0, wP, wM, wK, wX⟩ := id hR
  obtain ⟨wT, wL, wB⟩ := id hS
  obtain ⟨hT, fl, ft, s0, s1, s2, rl, rt⟩ := id hC
  obtain ⟨fc, fh, fn, fk, fs, ff, fw, fe, t0, t1, t2, t3, t4, t5, t6, t7, t8, rc, rh, rn, rk, rs, rf, rv, re⟩ := id hT
  obtain ⟨⟨z1, z2, z0⟩, -⟩ := id hT0
  refine z_enter (lv := [(0, _), (1, _), (2, _), (3, _)]) (by decide) (Nat.le_of_ble_eq_true rfl) rfl (fun X C => ?_)
  refine z_aload_n (pc := 0) C dX11_stands_0 0 rfl ?_
  refine z_iload_n (pc := 1) C dX11_stands_1 1 rfl ?_
  refine z_cV1 (pc := 2) mX11_isKill C [_] dX11_stands_2 lX11_158 mtX11_isKill (tX11_isKill (by first | assumption | omega) (by first | assumption | omega) (by first | assumption | omega)) (by assumption) rfl rfl (by decide) (Nat.le_of_ble_eq_true rfl) (Nat.zero_le _) (Nat.zero_le _) ?_
  first | refine z_ifneB (pc := 5) C 14 dX11_stands_5 (by decide) (fun hc5 => ?_) (fun hc5 => ?_) | refine z_ifneN (pc := 5) C 14 dX11_stands_5 (by decide) (by omega) (fun hc5 => ?_) (fun hc5 => ?_) | refine z_if_ne (pc := 5) C 14 dX11_stands_5 (by decide) (fun hc5 => ?_) (fun hc5 => ?_)
  · skip
    obtain ⟨j, hj, rfl⟩ := zlt_of (by omega) hc5
    have pj := pn_nI (j := j) (by omega)
    refine z_iload_n (pc := 14) C dX11_stands_14 2 rfl ?_
    refine z_iload_n (pc := 15) C dX11_stands_15 3 rfl ?_
    refine z_cS1 (pc := 16) mX11_isRamble C [_, _] dX11_stands_16 lX11_341 mtX11_isRamble tX11_isRamble rfl rfl (by decide) (Nat.le_of_ble_eq_true rfl) (Nat.zero_le _) (Nat.zero_le _) ?_
    first | refine z_ifneB (pc := 19) C 28 dX11_stands_19 (by decide) (fun hc19 => ?_) (fun hc19 => ?_) | refine z_ifneN (pc := 19) C 28 dX11_stands_19 (by decide) (by omega) (fun hc19 => ?_) (fun hc19 => ?_) | refine z_if_ne (pc := 19) C 28 dX11_stands_19 (by decide) (fun hc19 => ?_) (fun hc19 => ?_)
    · skip
      obtain ⟨e6, e7⟩ := (Bool.and_eq_true _ _).mp hc19
      obtain ⟨i, hi, rfl⟩ := zlt_of (by omega) e6
      have pi := pn_nI (j := i) (by omega)
      obtain ⟨c, hc, rfl⟩ := zlt_of (by omega) e7
      have pc := pn_nI (j := c) (by omega)
      refine z_aload_n (pc := 28) C dX11_stands_28 0 rfl ?_
      refine z_getf (pc := 29) C dX11_stands_29 fX11_19 (by assumption) (by first | rfl | assumption) ?_
      refine z_aload_n (pc := 32) C dX11_stands_32 0 rfl ?_
      refine z_getf (pc := 33) C dX11_stands_33 fX11_53 (by assumption) (by first | rfl | assumption) ?_
      refine z_cV0Q (pc := 36) mX9_begin C [_] dX11_stands_36 lX11_232 mtX9_begin (tX9_beginQ hR hC hq hT0) z0 rfl rfl (by decide) (Nat.le_of_ble_eq_true rfl) (Nat.zero_le _) (Nat.zero_le _) ?_
      rintro h1 ⟨⟨y1, y2, X1⟩, F1⟩
      obtain ⟨q1, C1⟩ := id X1
      have K1 : h1 1000 = _ := (F1 1000 (by decide) (by decide) (by decide) (by decide)).trans hK
      refine z_aload_n (pc := 39) C dX11_stands_39 0 rfl ?_
      refine z_getf (pc := 40) C dX11_stands_40 fX11_19 (by assumption) (by first | rfl | assumption) ?_
      refine z_iload_n (pc := 43) C dX11_stands_43 2 rfl ?_
      refine z_iload_n (pc := 44) C dX11_stands_44 3 rfl ?_
      refine z_cV0Q (pc := 45) mX9_ramble C [_, _] dX11_stands_45 lX11_344 mtX9_ramble (tX9_ramble X1 hq hR hS hi (by omega)) q1 rfl rfl (by decide) (Nat.le_of_ble_eq_true rfl) (Nat.zero_le _) (Nat.zero_le _) ?_
      rintro h2 ⟨X2, F2⟩
      replace F2 := F1.tr F2
      obtain ⟨q2, C2⟩ := id X2
      have K2 : h2 1000 = _ := (F2 1000 (by decide) (by decide) (by decide) (by decide)).trans hK
      obtain ⟨-, _, _, u0, -⟩ := id C2
      obtain ⟨hS2, -⟩ := sraN_wf hR (s := (i, S)) hS hi c
      refine z_aload_n (pc := 48) C dX11_stands_48 0 rfl ?_
      refine z_aload_n (pc := 49) C dX11_stands_49 0 rfl ?_
      refine z_getf (pc := 50) C dX11_stands_50 fX11_19 (by assumption) (by first | rfl | assumption) ?_
      refine z_getf (pc := 53) C dX11_stands_53 fX11_239 (by assumption) (by first | rfl | assumption) ?_
      refine z_iload_n (pc := 56) C dX11_stands_56 1 rfl ?_
      refine z_cV1 (pc := 57) mX5_standOf C [_] dX11_stands_57 lX11_173 mtX5_standOf (tX5_standOf C2 hR hS2 hj) u0 rfl rfl (by decide) (Nat.le_of_ble_eq_true rfl) (Nat.zero_le _) (Nat.zero_le _) ?_
      refine z_cV1 (pc := 60) mX11_answer C [_] dX11_stands_60 lX11_108 mtX11_answer (tX11_answer K2) (by assumption) rfl rfl (by decide) (Nat.le_of_ble_eq_true rfl) (Nat.zero_le _) (Nat.zero_le _) ?_
      refine z_iret (pc := 63) C dX11_stands_63 rfl (Nat.zero_le _) (Nat.zero_le _) ⟨_, rfl, ?_, rfl⟩
      refine ⟨by simp [aSta, aRm, *], ?_⟩
      first | exact kQ.eq (t := 1) (by simp [aSta, aRm, *] <;> rfl) (kQ.of0 _ _ _ _ _ hT0) | exact kQ.eq (t := 2) (by simp [aSta, aRm, *] <;> rfl) (kQ.of0 _ _ _ _ _ hT0) | exact kQ.eq (t := 5) (by simp [aSta, aRm, *] <;> rfl) (kQ.of _ _ _ _ _ X2.trs F2) | exact kQ.eq (t := 0) (by simp [aSta, aRm, *] <;> rfl) (kQ.of _ _ _ _ _ X2.trs F2)
    · skip
      refine z_aload_n (pc := 22) C dX11_stands_22 0 rfl ?_
      refine z_iconst (pc := 23) C dX11_stands_23 (nI 2) (by decide) ?_
      refine z_cV1 (pc := 24) mX11_refuse C [_] dX11_stands_24 lX11_70 mtX11_refuse (tX11_refuse (by first | assumption | omega)) (by assumption) rfl rfl (by decide) (Nat.le_of_ble_eq_true rfl) (Nat.zero_le _) (Nat.zero_le _) ?_
      refine z_iret (pc := 27) C dX11_stands_27 rfl (Nat.zero_le _) (Nat.zero_le _) ⟨_, rfl, ?_, rfl⟩
      refine ⟨by simp [aSta, aRm, *], ?_⟩
      first | exact kQ.eq (t := 1) (by simp [aSta, aRm, *] <;> rfl) (kQ.of0 _ _ _ _ _ hT0) | exact kQ.eq (t := 2) (by simp [aSta, aRm, *] <;> rfl) (kQ.of0 _ _ _ _ _ hT0) | exact kQ.eq (t := 5) (by simp [aSta, aRm, *] <;> rfl) (kQ.of _ _ _ _ _ X2.trs F2) | exact kQ.eq (t := 0) (by simp [aSta, aRm, *] <;> rfl) (kQ.of _ _ _ _ _ X2.trs F2)
  · skip
    refine z_aload_n (pc := 8) C dX11_stands_8 0 rfl ?_
    refine z_iconst (pc := 9) C dX11_stands_9 (nI 1) (by decide) ?_
    refine z_cV1 (pc := 10) mX11_refuse C [_] dX11_stands_10 lX11_70 mtX11_refuse (tX11_refuse (by first | assumption | omega)) (by assumption) rfl rfl (by decide) (Nat.le_of_ble_eq_true rfl) (Nat.zero_le _) (Nat.zero_le _) ?_
    refine z_iret (pc := 13) C dX11_stands_13 rfl (Nat.zero_le _) (Nat.zero_le _) ⟨_, rfl, ?_, rfl⟩
    refine ⟨by simp [aSta, aRm, *], ?_⟩
    first | exact kQ.eq (t := 1) (by simp [aSta, aRm, *] <;> rfl) (kQ.of0 _ _ _ _ _ hT0) | exact kQ.eq (t := 2) (by simp [aSta, aRm, *] <;> rfl) (kQ.of0 _ _ _ _ _ hT0) | exact kQ.eq (t := 5) (by simp [aSta, aRm, *] <;> rfl) (kQ.of _ _ _ _ _ X2.trs F2) | exact kQ.eq (t := 0) (by simp [aSta, aRm, *] <;> rfl) (kQ.of _ _ _ _ _ X2.trs F2)

set_option maxRecDepth 20000 in
set_option maxHeartbeats 1000000 in
theorem tX11_meet {h : ZH} {st : Nat} {ic tb fa pl : Int32} {t : Nat} {R S : Nat → Nat} {x n0 : Int32} (hK : h 1000 = some (zO 7 (kfs st ic tb fa pl))) (hC : Scn h 1051 1052 1053 t R S) (hR : wfR R) (hS : wfS R S) (hq : t = 1008 ∨ t = 1039) (hT0 : Trs h) : ZQ1 mX11_meet 6 [.ref 1000, .int x, .int n0] h (fun w hh => w = .int (aMee R S x n0).1 ∧ kQ h hh st ic (aMee R S x n0).2 fa pl) := by
  intro n
  obtain ⟨w1, w3, w4, w5, w0, wP, wM, wK, wX⟩ := id hR
  obtain ⟨wT, wL, wB⟩ := id hS
  obtain ⟨hT, fl, ft, s0, s1, s2, rl, rt⟩ := id hC
  obtain ⟨fc, fh, fn, fk, fs, ff, fw, fe, t0, t1, t2, t3, t4, t5, t6, t7, t8, rc, rh, rn, rk, rs, rf, rv, re⟩ := id hT
  obtain ⟨⟨z1, z2, z0⟩, -⟩ := id hT0
  refine z_enter (lv := [(0, _), (1, _), (2, _)]) (by decide) (Nat.le_of_ble_eq_true rfl) rfl (fun X C => ?_)
  refine z_aload_n (pc := 0) C dX11_meet_0 0 rfl ?_
  refine z_cV1 (pc := 1) mX11_isForest C [] dX11_meet_1 lX11_183 mtX11_isForest (tX11_isForest (by first | assumption | omega) (by first | assumption | omega) (by first | assumption | omega)) (by assumption) rfl rfl (by decide) (Nat.le_of_ble_eq_true rfl) (Nat.zero_le _) (Nat.zero_le _) ?_
  first | refine z_ifneB (pc := 4) C 13 dX11_meet_4 (by decide) (fun hc4 => ?_) (fun hc4 => ?_) | refine z_ifneN (pc := 4) C 13 dX11_meet_4 (by decide) (by omega) (fun hc4 => ?_) (fun hc4 => ?_) | refine z_if_ne (pc := 4) C 13 dX11_meet_4 (by decide) (fun hc4 => ?_) (fun hc4 => ?_)
  · skip
    have e0 := of_decide_eq_true hc4
    refine z_iload_n (pc := 13) C dX11_meet_13 1 rfl ?_
    refine z_iload_n (pc := 14) C dX11_meet_14 2 rfl ?_
    refine z_cS1 (pc := 15) mX11_isRamble C [_, _] dX11_meet_15 lX11_341 mtX11_isRamble tX11_isRamble rfl rfl (by decide) (Nat.le_of_ble_eq_true rfl) (Nat.zero_le _) (Nat.zero_le _) ?_
    first | refine z_ifneB (pc := 18) C 27 dX11_meet_18 (by decide) (fun hc18 => ?_) (fun hc18 => ?_) | refine z_ifneN (pc := 18) C 27 dX11_meet_18 (by decide) (by omega) (fun hc18 => ?_) (fun hc18 => ?_) | refine z_if_ne (pc := 18) C 27 dX11_meet_18 (by decide) (fun hc18 => ?_) (fun hc18 => ?_)
    · skip
      obtain ⟨e6, e7⟩ := (Bool.and_eq_true _ _).mp hc18
      obtain ⟨i, hi, rfl⟩ := zlt_of (by omega) e6
      have pi := pn_nI (j := i) (by omega)
      obtain ⟨c, hc, rfl⟩ := zlt_of (by omega) e7
      have pc := pn_nI (j := c) (by omega)
      refine z_aload_n (pc := 27) C dX11_meet_27 0 rfl ?_
      refine z_getf (pc := 28) C dX11_meet_28 fX11_19 (by assumption) (by first | rfl | assumption) ?_
      refine z_aload_n (pc := 31) C dX11_meet_31 0 rfl ?_
      refine z_getf (pc := 32) C dX11_meet_32 fX11_53 (by assumption) (by first | rfl | assumption) ?_
      refine z_cV0Q (pc := 35) mX9_begin C [_] dX11_meet_35 lX11_232 mtX9_begin (tX9_beginQ hR hC hq hT0) z0 rfl rfl (by decide) (Nat.le_of_ble_eq_true rfl) (Nat.zero_le _) (Nat.zero_le _) ?_
      rintro h1 ⟨⟨y1, y2, X1⟩, F1⟩
      obtain ⟨q1, C1⟩ := id X1
      have K1 : h1 1000 = _ := (F1 1000 (by decide) (by decide) (by decide) (by decide)).trans hK
      refine z_aload_n (pc := 38) C dX11_meet_38 0 rfl ?_
      refine z_aload_n (pc := 39) C dX11_meet_39 0 rfl ?_
      refine z_getf (pc := 40) C dX11_meet_40 fX11_19 (by assumption) (by first | rfl | assumption) ?_
      refine z_iload_n (pc := 43) C dX11_meet_43 1 rfl ?_
      refine z_iload_n (pc := 44) C dX11_meet_44 2 rfl ?_
      refine z_cV1Q (pc := 45) mX9_rambleUntilTwoMeet C [_, _] dX11_meet_45 lX11_348 mtX9_rambleUntilTwoMeet (tX9_rambleUntilTwoMeet X1 hq hR hS hi (by omega)) q1 rfl rfl (by decide) (Nat.le_of_ble_eq_true rfl) (Nat.zero_le _) (Nat.zero_le _) ?_
      rintro _ h2 ⟨rfl, ⟨v1, v2, T2, X2⟩, F2⟩
      replace F2 := F1.tr F2
      have K2 : h2 1000 = _ := (F2 1000 (by decide) (by decide) (by decide) (by decide)).trans hK
      refine z_cV1 (pc := 48) mX11_answer C [_] dX11_meet_48 lX11_108 mtX11_answer (tX11_answer K2) (by assumption) rfl rfl (by decide) (Nat.le_of_ble_eq_true rfl) (Nat.zero_le _) (Nat.zero_le _) ?_
      refine z_iret (pc := 51) C dX11_meet_51 rfl (Nat.zero_le _) (Nat.zero_le _) ⟨_, rfl, ?_, rfl⟩
      refine ⟨by simp [aMee, aRm, *], ?_⟩
      first | exact kQ.eq (t := 1) (by simp [aMee, aRm, *] <;> rfl) (kQ.of0 _ _ _ _ _ hT0) | exact kQ.eq (t := 2) (by simp [aMee, aRm, *] <;> rfl) (kQ.of0 _ _ _ _ _ hT0) | exact kQ.eq (t := 5) (by simp [aMee, aRm, *] <;> rfl) (kQ.of _ _ _ _ _ X2.trs F2) | exact kQ.eq (t := 0) (by simp [aMee, aRm, *] <;> rfl) (kQ.of _ _ _ _ _ X2.trs F2)
    · skip
      refine z_aload_n (pc := 21) C dX11_meet_21 0 rfl ?_
      refine z_iconst (pc := 22) C dX11_meet_22 (nI 2) (by decide) ?_
      refine z_cV1 (pc := 23) mX11_refuse C [_] dX11_meet_23 lX11_70 mtX11_refuse (tX11_refuse (by first | assumption | omega)) (by assumption) rfl rfl (by decide) (Nat.le_of_ble_eq_true rfl) (Nat.zero_le _) (Nat.zero_le _) ?_
      refine z_iret (pc := 26) C dX11_meet_26 rfl (Nat.zero_le _) (Nat.zero_le _) ⟨_, rfl, ?_, rfl⟩
      refine ⟨by simp [aMee, aRm, *], ?_⟩
      first | exact kQ.eq (t := 1) (by simp [aMee, aRm, *] <;> rfl) (kQ.of0 _ _ _ _ _ hT0) | exact kQ.eq (t := 2) (by simp [aMee, aRm, *] <;> rfl) (kQ.of0 _ _ _ _ _ hT0) | exact kQ.eq (t := 5) (by simp [aMee, aRm, *] <;> rfl) (kQ.of _ _ _ _ _ X2.trs F2) | exact kQ.eq (t := 0) (by simp [aMee, aRm, *] <;> rfl) (kQ.of _ _ _ _ _ X2.trs F2)
  · skip
    have e0 := of_decide_eq_false hc4
    refine z_aload_n (pc := 7) C dX11_meet_7 0 rfl ?_
    refine z_iconst (pc := 8) C dX11_meet_8 (nI 1) (by decide) ?_
    refine z_cV1 (pc := 9) mX11_refuse C [_] dX11_meet_9 lX11_70 mtX11_refuse (tX11_refuse (by first | assumption | omega)) (by assumption) rfl rfl (by decide) (Nat.le_of_ble_eq_true rfl) (Nat.zero_le _) (Nat.zero_le _) ?_
    refine z_iret (pc := 12) C dX11_meet_12 rfl (Nat.zero_le _) (Nat.zero_le _) ⟨_, rfl, ?_, rfl⟩
    refine ⟨by simp [aMee, aRm, *], ?_⟩
    first | exact kQ.eq (t := 1) (by simp [aMee, aRm, *] <;> rfl) (kQ.of0 _ _ _ _ _ hT0) | exact kQ.eq (t := 2) (by simp [aMee, aRm, *] <;> rfl) (kQ.of0 _ _ _ _ _ hT0) | exact kQ.eq (t := 5) (by simp [aMee, aRm, *] <;> rfl) (kQ.of _ _ _ _ _ X2.trs F2) | exact kQ.eq (t := 0) (by simp [aMee, aRm, *] <;> rfl) (kQ.of _ _ _ _ _ X2.trs F2)
