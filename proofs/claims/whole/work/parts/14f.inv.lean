theorem n40 : (0 : Int32) ≠ nI 4 := by decide
theorem n41 : (1 : Int32) ≠ nI 4 := by decide
theorem n42 : (2 : Int32) ≠ nI 4 := by decide
theorem n43 : (3 : Int32) ≠ nI 4 := by decide
theorem n45 : (5 : Int32) ≠ nI 4 := by decide
theorem n46 : (6 : Int32) ≠ nI 4 := by decide
theorem nsw (a b : Bool) : nI (swhy a b) ≠ nI 4 := by cases a <;> cases b <;> decide
theorem aW4 (a b : Bool) (x : Int32) : (aW a b x).2 ≠ nI 4 := by
  unfold aW
  split
  · exact n40
  · exact nsw a b
theorem aWl4 (a b : Bool) (x : Int64) : (aWl a b x).2 ≠ nI 4 := by
  unfold aWl
  split
  · exact n40
  · exact nsw a b
theorem aF4 (R : Nat → Nat) (x : Int32) : (aF R x).2 ≠ nI 4 := by
  unfold aF
  split
  · exact n40
  · exact n41
theorem aM4 (R : Nat → Nat) (m : Int32) (x : Nat → Int32) : (aM R m x).2 ≠ nI 4 := by
  unfold aM
  split
  · exact n40
  · exact n41
theorem aS4 (R : Nat → Nat) (m : Int32) (x : Nat → Int32) : (aS R m x).2 ≠ nI 4 := by
  unfold aS
  split
  · exact n40
  · exact n41
theorem aMP4 (R : Nat → Nat) (m p : Int32) (x : Nat → Nat → Int32) : (aMP R m p x).2 ≠ nI 4 := by
  unfold aMP
  split
  · exact n40
  · exact n41
theorem aKP4 (R : Nat → Nat) (m p : Int32) (x : Nat → Nat → Int32) : (aKP R m p x).2 ≠ nI 4 := by
  unfold aKP
  split
  · exact n40
  · exact n41
theorem aRm4 (R : Nat → Nat) (b : Bool) (x n : Int32) (z : Nat → Nat → Int32) : (aRm R b x n z).2 ≠ nI 4 := by
  unfold aRm
  split
  · split
    · exact n40
    · exact n42
  · exact n41
theorem aApart4 (R : Nat → Nat) (p q : Int32) : (aApart R p q).2 ≠ nI 4 := by
  unfold aApart
  split
  · exact n40
  · exact n41
theorem aEdge4 (R : Nat → Nat) (w : Int32) (k p q : Bool) : (aEdge R w k p q).2 ≠ nI 4 := by
  unfold aEdge
  split
  · exact n40
  · exact nsw _ _
theorem aFol4 (R S : Nat → Nat) (k row n : Int32) : (aFol R S k row n).2 ≠ nI 4 := by
  unfold aFol
  split
  · split
    · split
      · exact n40
      · exact n45
    · exact n42
  · exact n41
theorem aStep4 (R S : Nat → Nat) (m p : Int32) : (aStep R S m p).2 ≠ nI 4 := by
  unfold aStep
  split
  · split
    · exact n40
    · exact n45
  · exact n41
theorem aTake4 (R S : Nat → Nat) (m p : Int32) : (aTake R S m p).2 ≠ nI 4 := by
  unfold aTake
  split
  · split
    · exact n45
    · exact n40
  · exact n41
theorem aLight4 (R S : Nat → Nat) (p : Int32) (b : Bool) : (aLight R S p b).2 ≠ nI 4 := by
  unfold aLight
  split
  · split
    · exact n45
    · exact n40
  · exact n41
/-- two moments, as far as the forest speaks of them -/
def eqS (R S T : Nat → Nat) : Prop := (∀ k, k < R 4 → S (32 + k) = T (32 + k)) ∧ (∀ j, j < 8 * R 3 → S j = T j) ∧ S 38 = T 38 ∧ S 39 = T 39
/-- the moment before an act -/
def sInv (a w b : Nat) (S : Nat → Nat) : Nat → Nat := if a = 0 then nup (sgb S w b) 39 (S 39 - 1) else if a = 1 then nup S (32 + w) b else nup S 38 (S 38 ^^^ 1 <<< w)
def sActs (R S : Nat → Nat) (a w : Nat) : Prop := (a = 0 ∧ w < R 3 ∧ 0 < S 39) ∨ (a = 1 ∧ w < R 4) ∨ (a = 2 ∧ w < R 1)
theorem wfS_c {R S T : Nat → Nat} (hR : wfR R) (e : ∀ j, j < 40 → T j = S j) (hS : wfS R S) : wfS R T := by
  have w3 := hR.2.1
  have w4 := hR.2.2.1
  obtain ⟨a, b, c⟩ := hS
  refine ⟨fun m hm q hq => ?_, fun k hk => ?_, ?_⟩
  · rw [e _ (by omega)]; exact a m hm q hq
  · rw [e _ (by omega)]; exact b k hk
  · rw [e _ (by decide)]; exact c
theorem eqS_r {R S T V : Nat → Nat} (hR : wfR R) (e : ∀ j, j < 40 → V j = T j) (h : eqS R S T) : eqS R S V := by
  have w3 := hR.2.1
  have w4 := hR.2.2.1
  obtain ⟨a, b, c, d⟩ := h
  exact ⟨fun k hk => (a k hk).trans (e _ (by omega)).symm, fun j hj => (b j hj).trans (e _ (by omega)).symm, c.trans (e _ (by decide)).symm, d.trans (e _ (by decide)).symm⟩
theorem sInv_c {R S T : Nat → Nat} {a w b : Nat} (hR : wfR R) (hv : sActs R S a w) (e : ∀ j, j < 40 → T j = S j) : ∀ j, j < 40 → sInv a w b T j = sInv a w b S j := by
  have w3 := hR.2.1
  intro j hj
  unfold sInv
  split
  · rename_i h0
    have hw : w < 4 := by rcases hv with z | z | z <;> omega
    unfold nup
    split
    · rw [e 39 (by decide)]
    · unfold sgb
      split
      · exact e _ (by omega)
      · split
        · rfl
        · exact e _ hj
  · split
    · unfold nup
      split
      · rfl
      · exact e _ hj
    · unfold nup
      split
      · rw [e 38 (by decide)]
      · exact e _ hj
theorem eqS_l {R S T V : Nat → Nat} (hR : wfR R) (e : ∀ j, j < 40 → V j = S j) (h : eqS R S T) : eqS R V T := by
  have w3 := hR.2.1
  have w4 := hR.2.2.1
  obtain ⟨a, b, c, d⟩ := h
  exact ⟨fun k hk => (e _ (by omega)).trans (a k hk), fun j hj => (e _ (by omega)).trans (b j hj), (e _ (by decide)).trans c, (e _ (by decide)).trans d⟩
theorem sActs_c {R S T : Nat → Nat} {a w : Nat} (e : ∀ j, j < 40 → T j = S j) (h : sActs R S a w) : sActs R T a w := by
  unfold sActs at h ⊢
  rw [e 39 (by decide)]
  exact h
/-- what the class keeps of its acts against the reference's rows -/
def Chn (R S U : Nat → Nat) (un la : Nat) (f1 f2 f3 : Nat → Nat) : Prop := ∃ X : Nat → Nat → Nat, (∀ j, j < 40 → X 0 j = S j) ∧ (∀ k, 1 ≤ k → k ≤ un → ∀ j, j < 40 → U (40 * (un - k) + j) = X k j) ∧ ∀ k, k < un → wfS R (X (k + 1)) ∧ sActs R (X k) (f1 ((la + 16 - k) % 16)) (f2 ((la + 16 - k) % 16)) ∧ eqS R (sInv (f1 ((la + 16 - k) % 16)) (f2 ((la + 16 - k) % 16)) (f3 ((la + 16 - k) % 16)) (X k)) (X (k + 1))
theorem Chn.z (R S U : Nat → Nat) (la : Nat) (f1 f2 f3 : Nat → Nat) : Chn R S U 0 la f1 f2 f3 := ⟨fun _ => S, fun _ _ => rfl, fun k h1 h2 => by omega, fun k hk => by omega⟩
theorem sNote_top {U S : Nat → Nat} {un j : Nat} (hu : un ≤ 16) (hj : j < 40) : sNote U S un (40 * (min (un + 1) 16 - 1) + j) = S j := by
  unfold sNote
  split
  · rename_i q
    rw [show 40 * (min (un + 1) 16 - 1) + j = 600 + j by omega, ncpy_in _ _ hj, Nat.zero_add]
  · rename_i q
    rw [show 40 * (min (un + 1) 16 - 1) + j = 40 * un + j by omega, ncpy_in _ _ hj, Nat.zero_add]
theorem sNote_in {U S : Nat → Nat} {un k j : Nat} (hu : un ≤ 16) (hk : 1 ≤ k) (hk2 : k + 1 ≤ min (un + 1) 16) (hj : j < 40) : sNote U S un (40 * (min (un + 1) 16 - (k + 1)) + j) = U (40 * (un - k) + j) := by
  unfold sNote
  split
  · rename_i q
    rw [ncpy_out _ _ (by omega)]
    unfold ssh
    rw [if_pos (by omega)]
    congr 1
    omega
  · rename_i q
    rw [ncpy_out _ _ (by omega)]
    congr 1
    omega
theorem Chn.act {R S U S2 : Nat → Nat} {un la a w b : Nat} {f1 f2 f3 : Nat → Nat} (hC : Chn R S U un la f1 f2 f3) (hR : wfR R) (hS : wfS R S) (hu : un ≤ 16) (hl : la < 16) (hv : sActs R S2 a w) (he : eqS R (sInv a w b S2) S) : Chn R S2 (sNote U S un) (min (un + 1) 16) ((la + 1) % 16) (nup f1 ((la + 1) % 16) a) (nup f2 ((la + 1) % 16) w) (nup f3 ((la + 1) % 16) b) := by
  obtain ⟨X, x0, x1, x2⟩ := hC
  refine ⟨fun k => if k = 0 then S2 else X (k - 1), fun _ _ => rfl, fun k h1 h2 j hj => ?_, fun k hk => ?_⟩
  · show _ = (if k = 0 then S2 else X (k - 1)) j
    rw [if_neg (by omega)]
    obtain ⟨k, rfl⟩ : ∃ y, k = y + 1 := ⟨k - 1, by omega⟩
    rw [Nat.add_sub_cancel]
    by_cases q : k = 0
    · subst q
      rw [x0 j hj]
      exact sNote_top hu hj
    · rw [sNote_in hu (by omega) h2 hj]
      exact x1 k (by omega) (by omega) j hj
  · show wfS R (if k + 1 = 0 then S2 else X (k + 1 - 1)) ∧ sActs R (if k = 0 then S2 else X (k - 1)) _ _ ∧ eqS R (sInv _ _ _ (if k = 0 then S2 else X (k - 1))) (if k + 1 = 0 then S2 else X (k + 1 - 1))
    rw [if_neg (by omega), Nat.add_sub_cancel]
    by_cases q : k = 0
    · subst q
      rw [if_pos rfl, show ((la + 1) % 16 + 16 - 0) % 16 = (la + 1) % 16 by omega, nup_same, nup_same, nup_same]
      exact ⟨wfS_c hR x0 hS, hv, eqS_r hR x0 he⟩
    · rw [if_neg q]
      obtain ⟨k, rfl⟩ : ∃ y, k = y + 1 := ⟨k - 1, by omega⟩
      rw [Nat.add_sub_cancel, show ((la + 1) % 16 + 16 - (k + 1)) % 16 = (la + 16 - k) % 16 by omega, nup_ne (by omega), nup_ne (by omega), nup_ne (by omega)]
      exact x2 k (by omega)
theorem Chn.undo {R S U S2 : Nat → Nat} {un la : Nat} {f1 f2 f3 : Nat → Nat} (hC : Chn R S U un la f1 f2 f3) (hR : wfR R) (hu : 0 < un ∧ un ≤ 16) (hl : la < 16) (e : ∀ j, j < 40 → S2 j = U (40 * (un - 1) + j)) : Chn R S2 U (un - 1) ((la + 16 - 1) % 16) f1 f2 f3 ∧ wfS R S2 ∧ sActs R S (f1 la) (f2 la) ∧ eqS R (sInv (f1 la) (f2 la) (f3 la) S) S2 := by
  obtain ⟨X, x0, x1, x2⟩ := hC
  have e1 : ∀ j, j < 40 → S2 j = X 1 j := fun j hj => (e j hj).trans (x1 1 (by omega) (by omega) j hj)
  obtain ⟨a, b, c⟩ := x2 0 hu.1
  rw [show (la + 16 - 0) % 16 = la by omega] at b c
  refine ⟨⟨fun k => X (k + 1), fun j hj => (e1 j hj).symm, fun k h1 h2 j hj => ?_, fun k hk => ?_⟩, wfS_c hR e1 a, sActs_c (fun j hj => (x0 j hj).symm) b, eqS_l hR (sInv_c hR b (fun j hj => (x0 j hj).symm)) (eqS_r hR e1 c)⟩
  · show _ = X (k + 1) j
    rw [show un - 1 - k = un - (k + 1) by omega]
    exact x1 (k + 1) (by omega) (by omega) j hj
  · have := x2 (k + 1) (by omega)
    rw [show ((la + 16 - 1) % 16 + 16 - k) % 16 = (la + 16 - (k + 1)) % 16 by omega]
    exact this
