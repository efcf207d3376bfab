def szi (B : Nat → Nat) (n k : Nat) : Int32 := if k < n then nI (B k) else -1
theorem szi_in {B : Nat → Nat} {n k : Nat} (h : k < n) : szi B n k = nI (B k) := if_pos h
theorem szi_out {B : Nat → Nat} {n k : Nat} (h : ¬ k < n) : szi B n k = -1 := if_neg h
theorem nI_nm1 {a : Nat} (h : a < 2147483648) : ¬ nI a = -1 := fun e => by
  have := congrArg Int32.toInt e
  rw [nI_toInt (by omega)] at this
  have h2 : (-1 : Int32).toInt = -1 := by decide
  omega
theorem szi_eq {B : Nat → Nat} {n k c : Nat} (hB : ∀ j, j < n → B j < 256) (hc : c < 256) : szi B n k = nI c ↔ k < n ∧ B k = c := by
  by_cases h : k < n
  · rw [szi_in h, nI_eqI (by have := hB k h; omega) (by omega)]; exact ⟨fun z => ⟨h, z⟩, fun z => z.2⟩
  · rw [szi_out h]; exact ⟨fun z => absurd z.symm (nI_nm1 (by omega)), fun z => absurd z.1 h⟩
theorem szi_m1 {B : Nat → Nat} {n k : Nat} (hB : ∀ j, j < n → B j < 256) : szi B n k = -1 ↔ ¬ k < n := by
  by_cases h : k < n
  · rw [szi_in h]; exact ⟨fun z => absurd z (nI_nm1 (by have := hB k h; omega)), fun z => absurd h z⟩
  · rw [szi_out h]; exact ⟨fun _ => h, fun _ => rfl⟩
theorem szi_rg {B : Nat → Nat} {n k a b : Nat} (hB : ∀ j, j < n → B j < 256) (ha : a < 256) (hb : b < 256) : decide (nI a ≤ szi B n k ∧ szi B n k ≤ nI b) = decide (k < n ∧ a ≤ B k ∧ B k ≤ b) := by
  congr 1
  apply propext
  by_cases h : k < n
  · have := hB k h
    rw [szi_in h, nI_leI (by omega) (by omega), nI_leI (by omega) (by omega)]
    exact ⟨fun z => ⟨h, z⟩, fun z => z.2⟩
  · rw [szi_out h]
    constructor
    · rintro ⟨z, -⟩
      rw [Int32.le_iff_toInt_le, nI_toInt (by omega)] at z
      have h2 : (-1 : Int32).toInt = -1 := by decide
      omega
    · intro z; exact absurd z.1 h
def mtk (q : Nat) : Nat := if q = 0 then 0 else if q = 1 then 2 else if q = 2 then 3 else if q = 3 then 59 else 1
theorem mtk_2 {q : Nat} : mtk q = 2 ↔ q = 1 := by
  unfold mtk
  repeat' split
  all_goals omega
theorem mtk_3 {q : Nat} : mtk q = 3 ↔ q = 2 := by
  unfold mtk
  repeat' split
  all_goals omega
theorem mtk_0 {q : Nat} : mtk q = 0 ↔ q = 0 := by
  unfold mtk
  repeat' split
  all_goals omega
theorem mtk_59 {q : Nat} : mtk q = 59 ↔ q = 3 := by
  unfold mtk
  repeat' split
  all_goals omega
theorem mtk_le (q : Nat) : mtk q ≤ 59 := by
  unfold mtk
  repeat' split
  all_goals omega
/-- the model's numbers and letters at a token -/
def MT (v : Nat → Int32) (L B : Nat → Nat) (t : Nat × Nat × Nat) : Prop := v 6 = nI (mtk t.1) ∧ v 4 = nI t.2.1 ∧ (t.1 ≠ 4 → v 5 = nI t.2.2) ∧ (t.1 = 1 → v 8 = nI (t.2.2 - t.2.1) ∧ ∀ j, j < t.2.2 - t.2.1 → L j = B (t.2.1 + j)) ∧ (t.1 = 2 → v 7 = nI (svl (fun i => B (t.2.1 + i)) (t.2.2 - t.2.1)))
def MS (h : ZH) (v : Nat → Int32) (B : Nat → Nat) (n : Nat) (t : Nat × Nat × Nat) : Prop := h 1063 = some (zO 8 (mfs v)) ∧ v 3 = nI n ∧ h 1064 = some (zI 900 B) ∧ sTk B n t ∧ ∃ L : Nat → Nat, h 1065 = some (zI 8 L) ∧ MT v L B t
def rF (h hh : ZH) : Prop := ∀ a, a ≠ 1063 → a ≠ 1065 → hh a = h a
theorem rF.tr {a b c : ZH} (h1 : rF a b) (h2 : rF b c) : rF a c := fun x q1 q2 => (h2 x q1 q2).trans (h1 x q1 q2)
theorem rF.rf (a : ZH) : rF a a := fun _ _ _ => rfl
theorem rF.up (a : ZH) (c : ZE) : rF a (zup a 1063 c) := fun _ q1 _ => zup_ne q1
def rV (v v' : Nat → Int32) : Prop := ∀ i, i < 4 ∨ 8 < i → v' i = v i
theorem rV.rf (v : Nat → Int32) : rV v v := fun _ _ => rfl
theorem rV.tr {a b c : Nat → Int32} (h1 : rV a b) (h2 : rV b c) : rV a c := fun i hi => (h2 i hi).trans (h1 i hi)
theorem rV.up {a b : Nat → Int32} (h : rV a b) {k : Nat} (x : Int32) (hk : 4 ≤ k ∧ k ≤ 8) : rV a (upd b k x) := fun i hi => by
  show (if i = k then x else b i) = a i
  rw [if_neg (by omega)]; exact h i hi
theorem smo_1 : smo 1 = 8 := rfl
theorem smo_2 : smo 2 = 3 := rfl
theorem smo_3 : smo 3 = 1 := rfl

set_option maxRecDepth 20000 in
set_option maxHeartbeats 1000000 in
theorem tX12_see {h : ZH} {v : Nat → Int32} {B : Nat → Nat} {k n0 : Nat} (hM : h 1063 = some (zO 8 (mfs v))) (h3 : v 3 = nI n0) (h4 : h 1064 = some (zI 900 B)) (hn : n0 ≤ 900) (hk : k < 2147483648) : ZD mX12_see 0 [.ref 1063, .int (nI k)] h (some (.int (szi B n0 k))) h := by
  intro n
  refine z_enter (lv := [(0, _), (1, _)]) (by decide) (Nat.le_of_ble_eq_true rfl) rfl (fun X C => ?_)
  refine z_iload_n (pc := 0) C dX12_see_0 1 rfl ?_
  refine z_aload_n (pc := 1) C dX12_see_1 0 rfl ?_
  refine z_getf (pc := 2) C dX12_see_2 fX12_65 (by assumption) (by first | rfl | assumption) ?_
  refine z_top h3 ?_
  first | refine z_icmpgeN (pc := 5) C 17 dX12_see_5 (by decide) (by omega) (by omega) (fun hc5 => ?_) (fun hc5 => ?_) | refine z_icmp_ge (pc := 5) C 17 dX12_see_5 (by decide) (fun hc5 => ?_) (fun hc5 => ?_)
  · skip
    refine z_iconst (pc := 17) C dX12_see_17 (-1) (by decide) ?_
    refine z_iret (pc := 18) C dX12_see_18 rfl (Nat.zero_le _) (Nat.zero_le _) ⟨?_, ?_, rfl⟩
    · first | (rw [szi_in hc5]) | (rw [szi_out (by omega)])
    · rfl
  · skip
    refine z_aload_n (pc := 8) C dX12_see_8 0 rfl ?_
    refine z_getf (pc := 9) C dX12_see_9 fX12_7 (by assumption) (by first | rfl | assumption) ?_
    refine z_iload_n (pc := 12) C dX12_see_12 1 rfl ?_
    first | refine z_ialdN (pc := 13) C dX12_see_13 (by assumption) (by omega) (by decide) ?_ | refine z_ialdI (pc := 13) C dX12_see_13 (by assumption) (by omega) (by decide) ?_
    refine z_goto (pc := 14) C 18 dX12_see_14 (by decide) ?_
    refine z_iret (pc := 18) C dX12_see_18 rfl (Nat.zero_le _) (Nat.zero_le _) ⟨?_, ?_, rfl⟩
    · first | (rw [szi_in hc5]) | (rw [szi_out (by omega)])
    · rfl

set_option maxRecDepth 20000 in
set_option maxHeartbeats 1000000 in
theorem tX12_isSmall {h : ZH} {c : Int32}  : ZD mX12_isSmall 0 [.int c] h (some (.int (zb (decide (nI 97 ≤ c ∧ c ≤ nI 122))))) h := by
  intro n
  refine z_enter (lv := [(0, _)]) (by decide) (Nat.le_of_ble_eq_true rfl) rfl (fun X C => ?_)
  refine z_iload_n (pc := 0) C dX12_isSmall_0 0 rfl ?_
  refine z_bipush (pc := 1) C dX12_isSmall_1 (nI 97) (by decide) ?_
  refine z_icmp_lt (pc := 3) C 16 dX12_isSmall_3 (by decide) (fun hc3 => ?_) (fun hc3 => ?_)
  · skip
    refine z_iconst (pc := 16) C dX12_isSmall_16 (nI 0) (by decide) ?_
    refine z_zret (pc := 17) C dX12_isSmall_17 rfl (by first | exact zb_nar _ | rfl) (Nat.zero_le _) (Nat.zero_le _) ⟨?_, ?_, rfl⟩
    · first | (rw [decide_eq_true ⟨Int32.not_lt.mp hc3, Int32.not_lt.mp hc9⟩]; rfl) | (rw [decide_eq_false (fun q => absurd hc9 (Int32.not_lt.mpr q.2))]; rfl) | (rw [decide_eq_false (fun q => absurd hc3 (Int32.not_lt.mpr q.1))]; rfl)
    · rfl
  · skip
    refine z_iload_n (pc := 6) C dX12_isSmall_6 0 rfl ?_
    refine z_bipush (pc := 7) C dX12_isSmall_7 (nI 122) (by decide) ?_
    refine z_icmp_gt (pc := 9) C 16 dX12_isSmall_9 (by decide) (fun hc9 => ?_) (fun hc9 => ?_)
    · skip
      refine z_iconst (pc := 16) C dX12_isSmall_16 (nI 0) (by decide) ?_
      refine z_zret (pc := 17) C dX12_isSmall_17 rfl (by first | exact zb_nar _ | rfl) (Nat.zero_le _) (Nat.zero_le _) ⟨?_, ?_, rfl⟩
      · first | (rw [decide_eq_true ⟨Int32.not_lt.mp hc3, Int32.not_lt.mp hc9⟩]; rfl) | (rw [decide_eq_false (fun q => absurd hc9 (Int32.not_lt.mpr q.2))]; rfl) | (rw [decide_eq_false (fun q => absurd hc3 (Int32.not_lt.mpr q.1))]; rfl)
      · rfl
    · skip
      refine z_iconst (pc := 12) C dX12_isSmall_12 (nI 1) (by decide) ?_
      refine z_goto (pc := 13) C 17 dX12_isSmall_13 (by decide) ?_
      refine z_zret (pc := 17) C dX12_isSmall_17 rfl (by first | exact zb_nar _ | rfl) (Nat.zero_le _) (Nat.zero_le _) ⟨?_, ?_, rfl⟩
      · first | (rw [decide_eq_true ⟨Int32.not_lt.mp hc3, Int32.not_lt.mp hc9⟩]; rfl) | (rw [decide_eq_false (fun q => absurd hc9 (Int32.not_lt.mpr q.2))]; rfl) | (rw [decide_eq_false (fun q => absurd hc3 (Int32.not_lt.mpr q.1))]; rfl)
      · rfl

set_option maxRecDepth 20000 in
set_option maxHeartbeats 1000000 in
theorem tX12_isDigit {h : ZH} {c : Int32}  : ZD mX12_isDigit 0 [.int c] h (some (.int (zb (decide (nI 48 ≤ c ∧ c ≤ nI 57))))) h := by
  intro n
  refine z_enter (lv := [(0, _)]) (by decide) (Nat.le_of_ble_eq_true rfl) rfl (fun X C => ?_)
  refine z_iload_n (pc := 0) C dX12_isDigit_0 0 rfl ?_
  refine z_bipush (pc := 1) C dX12_isDigit_1 (nI 48) (by decide) ?_
  refine z_icmp_lt (pc := 3) C 16 dX12_isDigit_3 (by decide) (fun hc3 => ?_) (fun hc3 => ?_)
  · skip
    refine z_iconst (pc := 16) C dX12_isDigit_16 (nI 0) (by decide) ?_
    refine z_zret (pc := 17) C dX12_isDigit_17 rfl (by first | exact zb_nar _ | rfl) (Nat.zero_le _) (Nat.zero_le _) ⟨?_, ?_, rfl⟩
    · first | (rw [decide_eq_true ⟨Int32.not_lt.mp hc3, Int32.not_lt.mp hc9⟩]; rfl) | (rw [decide_eq_false (fun q => absurd hc9 (Int32.not_lt.mpr q.2))]; rfl) | (rw [decide_eq_false (fun q => absurd hc3 (Int32.not_lt.mpr q.1))]; rfl)
    · rfl
  · skip
    refine z_iload_n (pc := 6) C dX12_isDigit_6 0 rfl ?_
    refine z_bipush (pc := 7) C dX12_isDigit_7 (nI 57) (by decide) ?_
    refine z_icmp_gt (pc := 9) C 16 dX12_isDigit_9 (by decide) (fun hc9 => ?_) (fun hc9 => ?_)
    · skip
      refine z_iconst (pc := 16) C dX12_isDigit_16 (nI 0) (by decide) ?_
      refine z_zret (pc := 17) C dX12_isDigit_17 rfl (by first | exact zb_nar _ | rfl) (Nat.zero_le _) (Nat.zero_le _) ⟨?_, ?_, rfl⟩
      · first | (rw [decide_eq_true ⟨Int32.not_lt.mp hc3, Int32.not_lt.mp hc9⟩]; rfl) | (rw [decide_eq_false (fun q => absurd hc9 (Int32.not_lt.mpr q.2))]; rfl) | (rw [decide_eq_false (fun q => absurd hc3 (Int32.not_lt.mpr q.1))]; rfl)
      · rfl
    · skip
      refine z_iconst (pc := 12) C dX12_isDigit_12 (nI 1) (by decide) ?_
      refine z_goto (pc := 13) C 17 dX12_isDigit_13 (by decide) ?_
      refine z_zret (pc := 17) C dX12_isDigit_17 rfl (by first | exact zb_nar _ | rfl) (Nat.zero_le _) (Nat.zero_le _) ⟨?_, ?_, rfl⟩
      · first | (rw [decide_eq_true ⟨Int32.not_lt.mp hc3, Int32.not_lt.mp hc9⟩]; rfl) | (rw [decide_eq_false (fun q => absurd hc9 (Int32.not_lt.mpr q.2))]; rfl) | (rw [decide_eq_false (fun q => absurd hc3 (Int32.not_lt.mpr q.1))]; rfl)
      · rfl

set_option maxRecDepth 20000 in
set_option maxHeartbeats 1000000 in
theorem tX12_goOn {h : ZH} {v : Nat → Int32} {B L : Nat → Nat} {n0 k : Nat} (hM : h 1063 = some (zO 8 (mfs v))) (h3 : v 3 = nI n0) (h4 : h 1064 = some (zI 900 B)) (h5 : h 1065 = some (zI 8 L)) (hv5 : v 5 = nI k) (hk : k ≤ n0) (hn : n0 ≤ 900) (hB : ∀ j, j < n0 → B j < 256) : ZQ0 mX12_goOn 1 [.ref 1063] h (fun hh => (∃ v', MS hh v' B n0 (stok B n0 k) ∧ rV v v') ∧ rF h hh) := by
  intro n
  have hTK := (stok_ok hk hn hB).1
  refine z_enter (lv := [(0, _)]) (by decide) (Nat.le_of_ble_eq_true rfl) rfl (fun X C => ?_)
  refine z_aload_n (pc := 0) C dX12_goOn_0 0 rfl ?_
  refine z_getf (pc := 1) C dX12_goOn_1 fX12_68 (by assumption) (by first | rfl | assumption) ?_
  refine z_top hv5 ?_
  refine z_istore_n (pc := 4) (lv' := [(1, _), (0, _)]) C dX12_goOn_4 (by decide) rfl ?_
  refine z_sub (lv' := [(0, _), (1, _)]) [1, 0] rfl ?_
  have lp5 : ∀ (f0 : Nat) (j : Nat), (j + f0 = n0 ∧ sskp B n0 (n0 - k) k = sskp B n0 f0 j) → Zc X mX12_goOn (zEnd X (fun r hh n' => r = none ∧ ((∃ v', MS hh v' B n0 (stok B n0 k) ∧ rV v v') ∧ rF h hh) ∧ n' = n) 0 0) 5 [(0, .ref 1063), (1, .int (nI j))] [] h n 0 0 := by
    intro f0
    induction f0 using Nat.strongRecOn with
    | _ f0 ih0 =>
      intro j hk0
      obtain ⟨hk0, he0⟩ := hk0
      refine z_aload_n (pc := 5) C dX12_goOn_5 0 rfl ?_
      refine z_iload_n (pc := 6) C dX12_goOn_6 1 rfl ?_
      refine z_cV1 (pc := 7) mX12_see C [_] dX12_goOn_7 lX12_71 mtX12_see (tX12_see hM h3 h4 hn (by omega)) (by assumption) rfl rfl (by decide) (Nat.le_of_ble_eq_true rfl) (Nat.zero_le _) (Nat.zero_le _) ?_
      refine z_bipush (pc := 10) C dX12_goOn_10 (nI 32) (by decide) ?_
      refine z_icmp_ne (pc := 12) C 21 dX12_goOn_12 (by decide) (fun hc12 => ?_) (fun hc12 => ?_)
      · skip
        have hs : sskp B n0 (n0 - k) k = j := by rw [he0]; cases f0 with | zero => rfl | succ f0 => rw [sskp, if_neg (fun z => hc12 ((szi_eq hB (by decide)).mpr z))]
        obtain ⟨s, hsj⟩ : ∃ s, s = j := ⟨j, rfl⟩
        have hs0 : s ≤ n0 := by omega
        rw [← hsj] at hs ⊢
        refine z_aload_n (pc := 21) C dX12_goOn_21 0 rfl ?_
        refine z_iload_n (pc := 22) C dX12_goOn_22 1 rfl ?_
        refine z_putf (pc := 23) (fs' := mfs (upd _ 4 _)) C dX12_goOn_23 gX12_75 (by assumption) (fun _ => ⟨rfl, rfl⟩) (by exact Nat.le_of_ble_eq_true rfl) (mfs_set _ 4 _ (by decide)) ?_
        refine z_aload_n (pc := 26) C dX12_goOn_26 0 rfl ?_
        refine z_iload_n (pc := 27) C dX12_goOn_27 1 rfl ?_
        refine z_cV1 (pc := 28) mX12_see C [_] dX12_goOn_28 lX12_71 mtX12_see (tX12_see (v := upd v 4 (nI s)) (zup_same _ _ _) h3 ((zup_ne (by decide)).trans h4) hn (by omega)) (zup_same _ _ _) rfl rfl (by decide) (Nat.le_of_ble_eq_true rfl) (Nat.zero_le _) (Nat.zero_le _) ?_
        refine z_istore_n (pc := 31) (lv' := [(2, _), (0, _), (1, _)]) C dX12_goOn_31 (by decide) rfl ?_
        refine z_aload_n (pc := 32) C dX12_goOn_32 1 rfl ?_
        refine z_iconst (pc := 33) C dX12_goOn_33 (nI 0) (by decide) ?_
        refine z_putf (pc := 34) (fs' := mfs (upd _ 8 _)) C dX12_goOn_34 gX12_78 (zup_same _ _ _) (fun _ => ⟨rfl, rfl⟩) (by exact Nat.le_of_ble_eq_true rfl) (mfs_set _ 8 _ (by decide)) ?_
        refine z_aload_n (pc := 37) C dX12_goOn_37 1 rfl ?_
        refine z_iconst (pc := 38) C dX12_goOn_38 (nI 0) (by decide) ?_
        refine z_putf (pc := 39) (fs' := mfs (upd _ 7 _)) C dX12_goOn_39 gX12_81 (zup_same _ _ _) (fun _ => ⟨rfl, rfl⟩) (by exact Nat.le_of_ble_eq_true rfl) (mfs_set _ 7 _ (by decide)) ?_
        refine z_iload_n (pc := 42) C dX12_goOn_42 0 rfl ?_
        refine z_iconst (pc := 43) C dX12_goOn_43 (-1) (by decide) ?_
        refine z_icmp_ne (pc := 44) C 60 dX12_goOn_44 (by decide) (fun hc44 => ?_) (fun hc44 => ?_)
        · skip
          have hsn : s < n0 := by
            rcases Nat.lt_or_ge s n0 with z | z
            · exact z
            · exact absurd ((szi_m1 hB).mpr (by omega)) hc44
          refine z_iload_n (pc := 60) C dX12_goOn_60 0 rfl ?_
          refine z_cS1 (pc := 61) mX12_isSmall C [_] dX12_goOn_61 lX12_87 mtX12_isSmall tX12_isSmall rfl rfl (by decide) (Nat.le_of_ble_eq_true rfl) (Nat.zero_le _) (Nat.zero_le _) ?_
          rw [show decide (nI 97 ≤ szi B n0 (s) ∧ szi B n0 (s) ≤ nI 122) = decide ((s) < n0 ∧ 97 ≤ B (s) ∧ B (s) ≤ 122) from szi_rg hB (by decide) (by decide)]
          first | refine z_ifeqB (pc := 64) C 143 dX12_goOn_64 (by decide) (fun hc64 => ?_) (fun hc64 => ?_) | refine z_ifeqN (pc := 64) C 143 dX12_goOn_64 (by decide) (by omega) (fun hc64 => ?_) (fun hc64 => ?_) | refine z_if_eq (pc := 64) C 143 dX12_goOn_64 (by decide) (fun hc64 => ?_) (fun hc64 => ?_)
          · skip
            have e6 := of_decide_eq_false hc64
            refine z_iload_n (pc := 143) C dX12_goOn_143 0 rfl ?_
            refine z_cS1 (pc := 144) mX12_isDigit C [_] dX12_goOn_144 lX12_91 mtX12_isDigit tX12_isDigit rfl rfl (by decide) (Nat.le_of_ble_eq_true rfl) (Nat.zero_le _) (Nat.zero_le _) ?_
            rw [show decide (nI 48 ≤ szi B n0 (s) ∧ szi B n0 (s) ≤ nI 57) = decide ((s) < n0 ∧ 48 ≤ B (s) ∧ B (s) ≤ 57) from szi_rg hB (by decide) (by decide)]
            first | refine z_ifeqB (pc := 147) C 219 dX12_goOn_147 (by decide) (fun hc147 => ?_) (fun hc147 => ?_) | refine z_ifeqN (pc := 147) C 219 dX12_goOn_147 (by decide) (by omega) (fun hc147 => ?_) (fun hc147 => ?_) | refine z_if_eq (pc := 147) C 219 dX12_goOn_147 (by decide) (fun hc147 => ?_) (fun hc147 => ?_)
            · skip
              have e10 := of_decide_eq_false hc147
              refine z_aload_n (pc := 219) C dX12_goOn_219 1 rfl ?_
              refine z_iload_n (pc := 220) C dX12_goOn_220 2 rfl ?_
              refine z_iconst (pc := 221) C dX12_goOn_221 (nI 1) (by decide) ?_
              first | refine z_iaddN (pc := 222) C dX12_goOn_222 ?_ | refine z_iadd (pc := 222) C dX12_goOn_222 ?_
              refine z_putf (pc := 223) (fs' := mfs (upd _ 5 _)) C dX12_goOn_223 gX12_68 (zup_same _ _ _) (fun _ => ⟨rfl, rfl⟩) (by exact Nat.le_of_ble_eq_true rfl) (mfs_set _ 5 _ (by decide)) ?_
              refine z_aload_n (pc := 226) C dX12_goOn_226 1 rfl ?_
              refine z_iload_n (pc := 227) C dX12_goOn_227 0 rfl ?_
              refine z_bipush (pc := 228) C dX12_goOn_228 (nI 59) (by decide) ?_
              refine z_icmp_ne (pc := 230) C 237 dX12_goOn_230 (by decide) (fun hc230 => ?_) (fun hc230 => ?_)
              · skip
                have e11 : ¬ B s = 59 := fun z => hc230 ((szi_eq hB (by decide)).mpr ⟨hsn, z⟩)
                have hq : (if s < n0 then ssort (B s) else 0) = 4 := by rw [if_pos hsn]; unfold ssort; rw [if_neg (fun z => e6 ⟨hsn, z⟩), if_neg (fun z => e10 ⟨hsn, z⟩), if_neg e11]
                have et : stok B n0 k = (4, s, s) := by unfold stok; rw [hs, hq]; unfold stq; rw [show sE B n0 4 s = s from rfl, if_pos (by omega)]
                refine z_iconst (pc := 237) C dX12_goOn_237 (nI 1) (by decide) ?_
                refine z_putf (pc := 238) (fs' := mfs (upd _ 6 _)) C dX12_goOn_238 gX12_84 (zup_same _ _ _) (fun _ => ⟨rfl, rfl⟩) (by exact Nat.le_of_ble_eq_true rfl) (mfs_set _ 6 _ (by decide)) ?_
                refine z_vret (pc := 241) C dX12_goOn_241 rfl (Nat.zero_le _) (Nat.zero_le _) ⟨rfl, ?_, rfl⟩
                rw [et] at hTK ⊢
                first
                | exact ⟨⟨_, ⟨zup_same _ _ _, h3, ((zup_ne (by decide)).trans ((zup_ne (by decide)).trans ((zup_ne (by decide)).trans ((zup_ne (by decide)).trans ((zup_ne (by decide)).trans h4))))), hTK, L, ((zup_ne (by decide)).trans ((zup_ne (by decide)).trans ((zup_ne (by decide)).trans ((zup_ne (by decide)).trans ((zup_ne (by decide)).trans h5))))), rfl, rfl, fun _ => rfl, (fun z => by cases z), (fun z => by cases z)⟩, ((((((((((rV.rf v).up _ (by decide))).up _ (by decide))).up _ (by decide))).up _ (by decide))).up _ (by decide))⟩, ((((((((((rF.rf h).tr (rF.up _ _))).tr (rF.up _ _))).tr (rF.up _ _))).tr (rF.up _ _))).tr (rF.up _ _))⟩
                | exact ⟨⟨_, ⟨zup_same _ _ _, h32, ((zup_ne (by decide)).trans ((zup_ne (by decide)).trans h42)), hTK, L2, ((zup_ne (by decide)).trans ((zup_ne (by decide)).trans h52)), rfl, e4, fun _ => rfl, fun _ => ⟨(by show v2 8 = nI (s + j - s); rw [Nat.add_sub_cancel_left]; exact e8), fun i hi => (by have hi : i < s + j - s := hi; exact hL2 i (by omega) (by omega))⟩, (fun z => by cases z)⟩, ((((hV2).up _ (by decide))).up _ (by decide))⟩, ((((F2).tr (rF.up _ _))).tr (rF.up _ _))⟩
                | exact ⟨⟨_, ⟨zup_same _ _ _, h32, ((zup_ne (by decide)).trans ((zup_ne (by decide)).trans h42)), hTK, _, ((zup_ne (by decide)).trans ((zup_ne (by decide)).trans h52)), rfl, e4, fun z => absurd rfl z, (fun z => by cases z), (fun z => by cases z)⟩, ((((hV2).up _ (by decide))).up _ (by decide))⟩, ((((F2).tr (rF.up _ _))).tr (rF.up _ _))⟩
                | exact ⟨⟨_, ⟨zup_same _ _ _, h32, ((zup_ne (by decide)).trans ((zup_ne (by decide)).trans h42)), hTK, _, ((zup_ne (by decide)).trans ((zup_ne (by decide)).trans h52)), rfl, e4, fun _ => rfl, (fun z => by cases z), fun _ => (by show v2 7 = nI (svl _ (s + j - s)); rw [Nat.add_sub_cancel_left, e7, (x2 (by omega)).1])⟩, ((((hV2).up _ (by decide))).up _ (by decide))⟩, ((((F2).tr (rF.up _ _))).tr (rF.up _ _))⟩
                | exact ⟨⟨_, ⟨zup_same _ _ _, h3, ((zup_ne (by decide)).trans ((zup_ne (by decide)).trans ((zup_ne (by decide)).trans ((zup_ne (by decide)).trans ((zup_ne (by decide)).trans h4))))), hTK, L, ((zup_ne (by decide)).trans ((zup_ne (by decide)).trans ((zup_ne (by decide)).trans ((zup_ne (by decide)).trans ((zup_ne (by decide)).trans h5))))), (by show nI (B s) = nI 59; rw [e11.2]), rfl, fun _ => rfl, (fun z => by cases z), (fun z => by cases z)⟩, ((((((((((rV.rf v).up _ (by decide))).up _ (by decide))).up _ (by decide))).up _ (by decide))).up _ (by decide))⟩, ((((((((((rF.rf h).tr (rF.up _ _))).tr (rF.up _ _))).tr (rF.up _ _))).tr (rF.up _ _))).tr (rF.up _ _))⟩
                | exact ⟨⟨_, ⟨zup_same _ _ _, h3, ((zup_ne (by decide)).trans ((zup_ne (by decide)).trans ((zup_ne (by decide)).trans ((zup_ne (by decide)).trans ((zup_ne (by decide)).trans h4))))), hTK, L, ((zup_ne (by decide)).trans ((zup_ne (by decide)).trans ((zup_ne (by decide)).trans ((zup_ne (by decide)).trans ((zup_ne (by decide)).trans h5))))), rfl, rfl, fun z => absurd rfl z, (fun z => by cases z), (fun z => by cases z)⟩, ((((((((((rV.rf v).up _ (by decide))).up _ (by decide))).up _ (by decide))).up _ (by decide))).up _ (by decide))⟩, ((((((((((rF.rf h).tr (rF.up _ _))).tr (rF.up _ _))).tr (rF.up _ _))).tr (rF.up _ _))).tr (rF.up _ _))⟩
              · skip
                have e11 := (szi_eq hB (by decide)).mp hc230
                have hq : (if s < n0 then ssort (B s) else 0) = 3 := by rw [if_pos hsn]; exact ssort_3.mpr e11.2
                have et : stok B n0 k = (3, s, s + 1) := by unfold stok; rw [hs, hq]; unfold stq; rw [show sE B n0 3 s = s + 1 from rfl, smo_3, if_pos (show s + 1 - s ≤ 1 by omega)]
                refine z_iload_n (pc := 233) C dX12_goOn_233 0 rfl ?_
                refine z_top (szi_in hsn) ?_
                refine z_goto (pc := 234) C 238 dX12_goOn_234 (by decide) ?_
                refine z_putf (pc := 238) (fs' := mfs (upd _ 6 _)) C dX12_goOn_238 gX12_84 (zup_same _ _ _) (fun _ => ⟨rfl, rfl⟩) (by exact Nat.le_of_ble_eq_true rfl) (mfs_set _ 6 _ (by decide)) ?_
                refine z_vret (pc := 241) C dX12_goOn_241 rfl (Nat.zero_le _) (Nat.zero_le _) ⟨rfl, ?_, rfl⟩
                rw [et] at hTK ⊢
                first
                | exact ⟨⟨_, ⟨zup_same _ _ _, h3, ((zup_ne (by decide)).trans ((zup_ne (by decide)).trans ((zup_ne (by decide)).trans ((zup_ne (by decide)).trans ((zup_ne (by decide)).trans h4))))), hTK, L, ((zup_ne (by decide)).trans ((zup_ne (by decide)).trans ((zup_ne (by decide)).trans ((zup_ne (by decide)).trans ((zup_ne (by decide)).trans h5))))), rfl, rfl, fun _ => rfl, (fun z => by cases z), (fun z => by cases z)⟩, ((((((((((rV.rf v).up _ (by decide))).up _ (by decide))).up _ (by decide))).up _ (by decide))).up _ (by decide))⟩, ((((((((((rF.rf h).tr (rF.up _ _))).tr (rF.up _ _))).tr (rF.up _ _))).tr (rF.up _ _))).tr (rF.up _ _))⟩
                | exact ⟨⟨_, ⟨zup_same _ _ _, h32, ((zup_ne (by decide)).trans ((zup_ne (by decide)).trans h42)), hTK, L2, ((zup_ne (by decide)).trans ((zup_ne (by decide)).trans h52)), rfl, e4, fun _ => rfl, fun _ => ⟨(by show v2 8 = nI (s + j - s); rw [Nat.add_sub_cancel_left]; exact e8), fun i hi => (by have hi : i < s + j - s := hi; exact hL2 i (by omega) (by omega))⟩, (fun z => by cases z)⟩, ((((hV2).up _ (by decide))).up _ (by decide))⟩, ((((F2).tr (rF.up _ _))).tr (rF.up _ _))⟩
                | exact ⟨⟨_, ⟨zup_same _ _ _, h32, ((zup_ne (by decide)).trans ((zup_ne (by decide)).trans h42)), hTK, _, ((zup_ne (by decide)).trans ((zup_ne (by decide)).trans h52)), rfl, e4, fun z => absurd rfl z, (fun z => by cases z), (fun z => by cases z)⟩, ((((hV2).up _ (by decide))).up _ (by decide))⟩, ((((F2).tr (rF.up _ _))).tr (rF.up _ _))⟩
                | exact ⟨⟨_, ⟨zup_same _ _ _, h32, ((zup_ne (by decide)).trans ((zup_ne (by decide)).trans h42)), hTK, _, ((zup_ne (by decide)).trans ((zup_ne (by decide)).trans h52)), rfl, e4, fun _ => rfl, (fun z => by cases z), fun _ => (by show v2 7 = nI (svl _ (s + j - s)); rw [Nat.add_sub_cancel_left, e7, (x2 (by omega)).1])⟩, ((((hV2).up _ (by decide))).up _ (by decide))⟩, ((((F2).tr (rF.up _ _))).tr (rF.up _ _))⟩
                | exact ⟨⟨_, ⟨zup_same _ _ _, h3, ((zup_ne (by decide)).trans ((zup_ne (by decide)).trans ((zup_ne (by decide)).trans ((zup_ne (by decide)).trans ((zup_ne (by decide)).trans h4))))), hTK, L, ((zup_ne (by decide)).trans ((zup_ne (by decide)).trans ((zup_ne (by decide)).trans ((zup_ne (by decide)).trans ((zup_ne (by decide)).trans h5))))), (by show nI (B s) = nI 59; rw [e11.2]), rfl, fun _ => rfl, (fun z => by cases z), (fun z => by cases z)⟩, ((((((((((rV.rf v).up _ (by decide))).up _ (by decide))).up _ (by decide))).up _ (by decide))).up _ (by decide))⟩, ((((((((((rF.rf h).tr (rF.up _ _))).tr (rF.up _ _))).tr (rF.up _ _))).tr (rF.up _ _))).tr (rF.up _ _))⟩
                | exact ⟨⟨_, ⟨zup_same _ _ _, h3, ((zup_ne (by decide)).trans ((zup_ne (by decide)).trans ((zup_ne (by decide)).trans ((zup_ne (by decide)).trans ((zup_ne (by decide)).trans h4))))), hTK, L, ((zup_ne (by decide)).trans ((zup_ne (by decide)).trans ((zup_ne (by decide)).trans ((zup_ne (by decide)).trans ((zup_ne (by decide)).trans h5))))), rfl, rfl, fun z => absurd rfl z, (fun z => by cases z), (fun z => by cases z)⟩, ((((((((((rV.rf v).up _ (by decide))).up _ (by decide))).up _ (by decide))).up _ (by decide))).up _ (by decide))⟩, ((((((((((rF.rf h).tr (rF.up _ _))).tr (rF.up _ _))).tr (rF.up _ _))).tr (rF.up _ _))).tr (rF.up _ _))⟩
            · skip
              have e10 := of_decide_eq_true hc147
              have hq : (if s < n0 then ssort (B s) else 0) = 2 := by rw [if_pos hsn]; exact ssort_2.mpr e10.2
              refine z_iconst (pc := 150) C dX12_goOn_150 (nI 0) (by decide) ?_
              refine z_istore_n (pc := 151) (lv' := [(3, _), (2, _), (0, _), (1, _)]) C dX12_goOn_151 (by decide) rfl ?_
              refine z_sub (lv' := [(0, _), (1, _), (2, _), (3, _)]) [2, 3, 1, 0] rfl ?_
              have lp152 : ∀ (f3 : Nat) (j : Nat) (h2 : ZH) (v2 : Nat → Int32), (s + j + f3 = n0 ∧ sre B n0 2 (n0 - s) s = sre B n0 2 (n0 - (s + j)) (s + j) ∧ h2 1063 = some (zO 8 (mfs v2)) ∧ v2 4 = nI s ∧ (∃ x, v2 7 = nI x ∧ x < 1000000 ∧ (j ≤ 3 → x = svl (fun i => B (s + i)) j ∧ x ≤ 999) ∧ (j ≤ 2 → x ≤ 99)) ∧ rV v v2 ∧ h2 1065 = some (zI 8 L) ∧ rF h h2) → Zc X mX12_goOn (zEnd X (fun r hh n' => r = none ∧ ((∃ v', MS hh v' B n0 (stok B n0 k) ∧ rV v v') ∧ rF h hh) ∧ n' = n) 0 0) 152 [(0, .ref 1063), (1, .int (nI (s + j))), (2, .int (szi B n0 s)), (3, .int (nI j))] [] h2 n 0 0 := by
                intro f3
                induction f3 using Nat.strongRecOn with
                | _ f3 ih3 =>
                  intro j h2 v2 hk2
                  obtain ⟨hk2, he2, hM2, e4, ⟨x, e7, x1, x2, x3⟩, hV2, h52, F2⟩ := hk2
                  have h42 : h2 1064 = _ := (F2 1064 (by decide) (by decide)).trans h4
                  have h32 : v2 3 = nI n0 := (hV2 3 (by decide)).trans h3
                  refine z_aload_n (pc := 152) C dX12_goOn_152 0 rfl ?_
                  refine z_iload_n (pc := 153) C dX12_goOn_153 1 rfl ?_
                  refine z_cV1 (pc := 154) mX12_see C [_] dX12_goOn_154 lX12_71 mtX12_see (tX12_see hM2 h32 h42 hn (by omega)) hM2 rfl rfl (by decide) (Nat.le_of_ble_eq_true rfl) (Nat.zero_le _) (Nat.zero_le _) ?_
                  refine z_cS1 (pc := 157) mX12_isDigit C [_] dX12_goOn_157 lX12_91 mtX12_isDigit tX12_isDigit rfl rfl (by decide) (Nat.le_of_ble_eq_true rfl) (Nat.zero_le _) (Nat.zero_le _) ?_
                  rw [show decide (nI 48 ≤ szi B n0 (s + j) ∧ szi B n0 (s + j) ≤ nI 57) = decide ((s + j) < n0 ∧ 48 ≤ B (s + j) ∧ B (s + j) ≤ 57) from szi_rg hB (by decide) (by decide)]
                  first | refine z_ifeqB (pc := 160) C 197 dX12_goOn_160 (by decide) (fun hc160 => ?_) (fun hc160 => ?_) | refine z_ifeqN (pc := 160) C 197 dX12_goOn_160 (by decide) (by omega) (fun hc160 => ?_) (fun hc160 => ?_) | refine z_if_eq (pc := 160) C 197 dX12_goOn_160 (by decide) (fun hc160 => ?_) (fun hc160 => ?_)
                  · skip
                    have e5 := of_decide_eq_false hc160
                    have he : sE B n0 2 s = s + j := by unfold sE; rw [if_pos (Or.inr rfl), he2]; exact sre_f (fun z => e5 ⟨z.1, ssort_2.mp z.2⟩)
                    refine z_aload_n (pc := 197) C dX12_goOn_197 0 rfl ?_
                    refine z_iload_n (pc := 198) C dX12_goOn_198 1 rfl ?_
                    refine z_putf (pc := 199) (fs' := mfs (upd _ 5 _)) C dX12_goOn_199 gX12_68 hM2 (fun _ => ⟨rfl, rfl⟩) (by exact Nat.le_of_ble_eq_true rfl) (mfs_set _ 5 _ (by decide)) ?_
                    refine z_aload_n (pc := 202) C dX12_goOn_202 0 rfl ?_
                    refine z_iload_n (pc := 203) C dX12_goOn_203 3 rfl ?_
                    refine z_iconst (pc := 204) C dX12_goOn_204 (nI 3) (by decide) ?_
                    first | refine z_icmpleN (pc := 205) C 212 dX12_goOn_205 (by decide) (by omega) (by omega) (fun hc205 => ?_) (fun hc205 => ?_) | refine z_icmp_le (pc := 205) C 212 dX12_goOn_205 (by decide) (fun hc205 => ?_) (fun hc205 => ?_)
                    · skip
                      have et : stok B n0 k = (2, s, s + j) := by unfold stok; rw [hs, hq]; unfold stq; rw [he, smo_2, if_pos (show s + j - s ≤ 3 by omega)]
                      refine z_iconst (pc := 212) C dX12_goOn_212 (nI 3) (by decide) ?_
                      refine z_putf (pc := 213) (fs' := mfs (upd _ 6 _)) C dX12_goOn_213 gX12_84 (zup_same _ _ _) (fun _ => ⟨rfl, rfl⟩) (by exact Nat.le_of_ble_eq_true rfl) (mfs_set _ 6 _ (by decide)) ?_
                      refine z_goto (pc := 216) C 241 dX12_goOn_216 (by decide) ?_
                      refine z_vret (pc := 241) C dX12_goOn_241 rfl (Nat.zero_le _) (Nat.zero_le _) ⟨rfl, ?_, rfl⟩
                      rw [et] at hTK ⊢
                      first
                      | exact ⟨⟨_, ⟨zup_same _ _ _, h3, ((zup_ne (by decide)).trans ((zup_ne (by decide)).trans ((zup_ne (by decide)).trans ((zup_ne (by decide)).trans ((zup_ne (by decide)).trans h4))))), hTK, L, ((zup_ne (by decide)).trans ((zup_ne (by decide)).trans ((zup_ne (by decide)).trans ((zup_ne (by decide)).trans ((zup_ne (by decide)).trans h5))))), rfl, rfl, fun _ => rfl, (fun z => by cases z), (fun z => by cases z)⟩, ((((((((((rV.rf v).up _ (by decide))).up _ (by decide))).up _ (by decide))).up _ (by decide))).up _ (by decide))⟩, ((((((((((rF.rf h).tr (rF.up _ _))).tr (rF.up _ _))).tr (rF.up _ _))).tr (rF.up _ _))).tr (rF.up _ _))⟩
                      | exact ⟨⟨_, ⟨zup_same _ _ _, h32, ((zup_ne (by decide)).trans ((zup_ne (by decide)).trans h42)), hTK, L2, ((zup_ne (by decide)).trans ((zup_ne (by decide)).trans h52)), rfl, e4, fun _ => rfl, fun _ => ⟨(by show v2 8 = nI (s + j - s); rw [Nat.add_sub_cancel_left]; exact e8), fun i hi => (by have hi : i < s + j - s := hi; exact hL2 i (by omega) (by omega))⟩, (fun z => by cases z)⟩, ((((hV2).up _ (by decide))).up _ (by decide))⟩, ((((F2).tr (rF.up _ _))).tr (rF.up _ _))⟩
                      | exact ⟨⟨_, ⟨zup_same _ _ _, h32, ((zup_ne (by decide)).trans ((zup_ne (by decide)).trans h42)), hTK, _, ((zup_ne (by decide)).trans ((zup_ne (by decide)).trans h52)), rfl, e4, fun z => absurd rfl z, (fun z => by cases z), (fun z => by cases z)⟩, ((((hV2).up _ (by decide))).up _ (by decide))⟩, ((((F2).tr (rF.up _ _))).tr (rF.up _ _))⟩
                      | exact ⟨⟨_, ⟨zup_same _ _ _, h32, ((zup_ne (by decide)).trans ((zup_ne (by decide)).trans h42)), hTK, _, ((zup_ne (by decide)).trans ((zup_ne (by decide)).trans h52)), rfl, e4, fun _ => rfl, (fun z => by cases z), fun _ => (by show v2 7 = nI (svl _ (s + j - s)); rw [Nat.add_sub_cancel_left, e7, (x2 (by omega)).1])⟩, ((((hV2).up _ (by decide))).up _ (by decide))⟩, ((((F2).tr (rF.up _ _))).tr (rF.up _ _))⟩
                      | exact ⟨⟨_, ⟨zup_same _ _ _, h3, ((zup_ne (by decide)).trans ((zup_ne (by decide)).trans ((zup_ne (by decide)).trans ((zup_ne (by decide)).trans ((zup_ne (by decide)).trans h4))))), hTK, L, ((zup_ne (by decide)).trans ((zup_ne (by decide)).trans ((zup_ne (by decide)).trans ((zup_ne (by decide)).trans ((zup_ne (by decide)).trans h5))))), (by show nI (B s) = nI 59; rw [e11.2]), rfl, fun _ => rfl, (fun z => by cases z), (fun z => by cases z)⟩, ((((((((((rV.rf v).up _ (by decide))).up _ (by decide))).up _ (by decide))).up _ (by decide))).up _ (by decide))⟩, ((((((((((rF.rf h).tr (rF.up _ _))).tr (rF.up _ _))).tr (rF.up _ _))).tr (rF.up _ _))).tr (rF.up _ _))⟩
                      | exact ⟨⟨_, ⟨zup_same _ _ _, h3, ((zup_ne (by decide)).trans ((zup_ne (by decide)).trans ((zup_ne (by decide)).trans ((zup_ne (by decide)).trans ((zup_ne (by decide)).trans h4))))), hTK, L, ((zup_ne (by decide)).trans ((zup_ne (by decide)).trans ((zup_ne (by decide)).trans ((zup_ne (by decide)).trans ((zup_ne (by decide)).trans h5))))), rfl, rfl, fun z => absurd rfl z, (fun z => by cases z), (fun z => by cases z)⟩, ((((((((((rV.rf v).up _ (by decide))).up _ (by decide))).up _ (by decide))).up _ (by decide))).up _ (by decide))⟩, ((((((((((rF.rf h).tr (rF.up _ _))).tr (rF.up _ _))).tr (rF.up _ _))).tr (rF.up _ _))).tr (rF.up _ _))⟩
                    · skip
                      have et : stok B n0 k = (4, s, s + j) := by unfold stok; rw [hs, hq]; unfold stq; rw [he, smo_2, if_neg (show ¬ s + j - s ≤ 3 by omega)]
                      refine z_iconst (pc := 208) C dX12_goOn_208 (nI 1) (by decide) ?_
                      refine z_goto (pc := 209) C 213 dX12_goOn_209 (by decide) ?_
                      refine z_putf (pc := 213) (fs' := mfs (upd _ 6 _)) C dX12_goOn_213 gX12_84 (zup_same _ _ _) (fun _ => ⟨rfl, rfl⟩) (by exact Nat.le_of_ble_eq_true rfl) (mfs_set _ 6 _ (by decide)) ?_
                      refine z_goto (pc := 216) C 241 dX12_goOn_216 (by decide) ?_
                      refine z_vret (pc := 241) C dX12_goOn_241 rfl (Nat.zero_le _) (Nat.zero_le _) ⟨rfl, ?_, rfl⟩
                      rw [et] at hTK ⊢
                      first
                      | exact ⟨⟨_, ⟨zup_same _ _ _, h3, ((zup_ne (by decide)).trans ((zup_ne (by decide)).trans ((zup_ne (by decide)).trans ((zup_ne (by decide)).trans ((zup_ne (by decide)).trans h4))))), hTK, L, ((zup_ne (by decide)).trans ((zup_ne (by decide)).trans ((zup_ne (by decide)).trans ((zup_ne (by decide)).trans ((zup_ne (by decide)).trans h5))))), rfl, rfl, fun _ => rfl, (fun z => by cases z), (fun z => by cases z)⟩, ((((((((((rV.rf v).up _ (by decide))).up _ (by decide))).up _ (by decide))).up _ (by decide))).up _ (by decide))⟩, ((((((((((rF.rf h).tr (rF.up _ _))).tr (rF.up _ _))).tr (rF.up _ _))).tr (rF.up _ _))).tr (rF.up _ _))⟩
                      | exact ⟨⟨_, ⟨zup_same _ _ _, h32, ((zup_ne (by decide)).trans ((zup_ne (by decide)).trans h42)), hTK, L2, ((zup_ne (by decide)).trans ((zup_ne (by decide)).trans h52)), rfl, e4, fun _ => rfl, fun _ => ⟨(by show v2 8 = nI (s + j - s); rw [Nat.add_sub_cancel_left]; exact e8), fun i hi => (by have hi : i < s + j - s := hi; exact hL2 i (by omega) (by omega))⟩, (fun z => by cases z)⟩, ((((hV2).up _ (by decide))).up _ (by decide))⟩, ((((F2).tr (rF.up _ _))).tr (rF.up _ _))⟩
                      | exact ⟨⟨_, ⟨zup_same _ _ _, h32, ((zup_ne (by decide)).trans ((zup_ne (by decide)).trans h42)), hTK, _, ((zup_ne (by decide)).trans ((zup_ne (by decide)).trans h52)), rfl, e4, fun z => absurd rfl z, (fun z => by cases z), (fun z => by cases z)⟩, ((((hV2).up _ (by decide))).up _ (by decide))⟩, ((((F2).tr (rF.up _ _))).tr (rF.up _ _))⟩
                      | exact ⟨⟨_, ⟨zup_same _ _ _, h32, ((zup_ne (by decide)).trans ((zup_ne (by decide)).trans h42)), hTK, _, ((zup_ne (by decide)).trans ((zup_ne (by decide)).trans h52)), rfl, e4, fun _ => rfl, (fun z => by cases z), fun _ => (by show v2 7 = nI (svl _ (s + j - s)); rw [Nat.add_sub_cancel_left, e7, (x2 (by omega)).1])⟩, ((((hV2).up _ (by decide))).up _ (by decide))⟩, ((((F2).tr (rF.up _ _))).tr (rF.up _ _))⟩
                      | exact ⟨⟨_, ⟨zup_same _ _ _, h3, ((zup_ne (by decide)).trans ((zup_ne (by decide)).trans ((zup_ne (by decide)).trans ((zup_ne (by decide)).trans ((zup_ne (by decide)).trans h4))))), hTK, L, ((zup_ne (by decide)).trans ((zup_ne (by decide)).trans ((zup_ne (by decide)).trans ((zup_ne (by decide)).trans ((zup_ne (by decide)).trans h5))))), (by show nI (B s) = nI 59; rw [e11.2]), rfl, fun _ => rfl, (fun z => by cases z), (fun z => by cases z)⟩, ((((((((((rV.rf v).up _ (by decide))).up _ (by decide))).up _ (by decide))).up _ (by decide))).up _ (by decide))⟩, ((((((((((rF.rf h).tr (rF.up _ _))).tr (rF.up _ _))).tr (rF.up _ _))).tr (rF.up _ _))).tr (rF.up _ _))⟩
                      | exact ⟨⟨_, ⟨zup_same _ _ _, h3, ((zup_ne (by decide)).trans ((zup_ne (by decide)).trans ((zup_ne (by decide)).trans ((zup_ne (by decide)).trans ((zup_ne (by decide)).trans h4))))), hTK, L, ((zup_ne (by decide)).trans ((zup_ne (by decide)).trans ((zup_ne (by decide)).trans ((zup_ne (by decide)).trans ((zup_ne (by decide)).trans h5))))), rfl, rfl, fun z => absurd rfl z, (fun z => by cases z), (fun z => by cases z)⟩, ((((((((((rV.rf v).up _ (by decide))).up _ (by decide))).up _ (by decide))).up _ (by decide))).up _ (by decide))⟩, ((((((((((rF.rf h).tr (rF.up _ _))).tr (rF.up _ _))).tr (rF.up _ _))).tr (rF.up _ _))).tr (rF.up _ _))⟩
                  · skip
                    have e5 := of_decide_eq_true hc160
                    have b1 := hB (s + j) e5.1
                    refine z_iload_n (pc := 163) C dX12_goOn_163 3 rfl ?_
                    refine z_iconst (pc := 164) C dX12_goOn_164 (nI 3) (by decide) ?_
                    first | refine z_icmpgeN (pc := 165) C 188 dX12_goOn_165 (by decide) (by omega) (by omega) (fun hc165 => ?_) (fun hc165 => ?_) | refine z_icmp_ge (pc := 165) C 188 dX12_goOn_165 (by decide) (fun hc165 => ?_) (fun hc165 => ?_)
                    · skip
                      have e9 := ih3 (f3 - 1) (by omega) (j + 1) h2 v2 ⟨by omega, by rw [he2]; exact sre_t e5.1 (ssort_2.mpr e5.2), hM2, e4, ⟨x, e7, x1, fun z => by omega, fun z => by omega⟩, hV2, h52, F2⟩
                      first | refine z_iincN (pc := 188) (lv' := [(3, _), (0, _), (1, _), (2, _)]) C 1 dX12_goOn_188 3 rfl (by decide) (by decide) rfl ?_ | refine z_iinc (pc := 188) (lv' := [(3, _), (0, _), (1, _), (2, _)]) C dX12_goOn_188 3 rfl _ rfl (by decide) rfl ?_
                      first | refine z_iincN (pc := 191) (lv' := [(1, _), (3, _), (0, _), (2, _)]) C 1 dX12_goOn_191 2 rfl (by decide) (by decide) rfl ?_ | refine z_iinc (pc := 191) (lv' := [(1, _), (3, _), (0, _), (2, _)]) C dX12_goOn_191 2 rfl _ rfl (by decide) rfl ?_
                      refine z_goto (pc := 194) C 152 dX12_goOn_194 (by decide) ?_
                      refine z_sub (lv' := [(0, _), (1, _), (2, _), (3, _)]) [2, 0, 3, 1] rfl ?_
                      exact e9
                    · skip
                      have x4 := x2 (by omega)
                      have x5 := x3 (by omega)
                      have e9 := ih3 (f3 - 1) (by omega) (j + 1) (zup h2 1063 (zO 8 (mfs (upd v2 7 (nI (10 * x + B (s + j) - 48)))))) (upd v2 7 (nI (10 * x + B (s + j) - 48))) ⟨by omega, by rw [he2]; exact sre_t e5.1 (ssort_2.mpr e5.2), zup_same _ _ _, e4, ⟨10 * x + B (s + j) - 48, rfl, by omega, fun z => ⟨by rw [svl, ← x4.1]; show 10 * x + B (s + j) - 48 = x * 10 + (B (s + j) - 48); omega, by omega⟩, fun z => by
                        have : j ≤ 1 := by omega
                        have hx9 : x ≤ 9 := by
                          rcases (show j = 0 ∨ j = 1 by omega) with y | y
                          · rw [x4.1, y]; show 0 ≤ 9; omega
                          · rw [x4.1, y]; show svl _ 0 * 10 + (B (s + 0) - 48) ≤ 9; have := ssort_2.mp ((if_pos hsn).symm.trans hq); show 0 * 10 + (B s - 48) ≤ 9; omega
                        omega⟩, hV2.up _ (by decide), (zup_ne (by decide)).trans h52, F2.tr (rF.up _ _)⟩
                      refine z_aload_n (pc := 168) C dX12_goOn_168 0 rfl ?_
                      refine z_bipush (pc := 169) C dX12_goOn_169 (nI 10) (by decide) ?_
                      refine z_aload_n (pc := 171) C dX12_goOn_171 0 rfl ?_
                      refine z_getf (pc := 172) C dX12_goOn_172 fX12_81 hM2 (by first | rfl | assumption) ?_
                      refine z_top e7 ?_
                      first | refine z_imulN (pc := 175) C dX12_goOn_175 ?_ | refine z_imul (pc := 175) C dX12_goOn_175 ?_
                      refine z_aload_n (pc := 176) C dX12_goOn_176 0 rfl ?_
                      refine z_iload_n (pc := 177) C dX12_goOn_177 1 rfl ?_
                      refine z_cV1 (pc := 178) mX12_see C [_] dX12_goOn_178 lX12_71 mtX12_see (tX12_see hM2 h32 h42 hn (by omega)) hM2 rfl rfl (by decide) (Nat.le_of_ble_eq_true rfl) (Nat.zero_le _) (Nat.zero_le _) ?_
                      refine z_top (szi_in (by omega)) ?_
                      first | refine z_iaddN (pc := 181) C dX12_goOn_181 ?_ | refine z_iadd (pc := 181) C dX12_goOn_181 ?_
                      refine z_bipush (pc := 182) C dX12_goOn_182 (nI 48) (by decide) ?_
                      first | refine z_isubN (pc := 184) C dX12_goOn_184 (by omega) ?_ | refine z_isub (pc := 184) C dX12_goOn_184 ?_
                      refine z_putf (pc := 185) (fs' := mfs (upd _ 7 _)) C dX12_goOn_185 gX12_81 hM2 (fun _ => ⟨rfl, rfl⟩) (by exact Nat.le_of_ble_eq_true rfl) (mfs_set _ 7 _ (by decide)) ?_
                      first | refine z_iincN (pc := 188) (lv' := [(3, _), (0, _), (1, _), (2, _)]) C 1 dX12_goOn_188 3 rfl (by decide) (by decide) rfl ?_ | refine z_iinc (pc := 188) (lv' := [(3, _), (0, _), (1, _), (2, _)]) C dX12_goOn_188 3 rfl _ rfl (by decide) rfl ?_
                      first | refine z_iincN (pc := 191) (lv' := [(1, _), (3, _), (0, _), (2, _)]) C 1 dX12_goOn_191 2 rfl (by decide) (by decide) rfl ?_ | refine z_iinc (pc := 191) (lv' := [(1, _), (3, _), (0, _), (2, _)]) C dX12_goOn_191 2 rfl _ rfl (by decide) rfl ?_
                      refine z_goto (pc := 194) C 152 dX12_goOn_194 (by decide) ?_
                      refine z_sub (lv' := [(0, _), (1, _), (2, _), (3, _)]) [2, 0, 3, 1] rfl ?_
                      exact e9
              exact lp152 (n0 - s) 0 (zup (zup (zup h 1063 (zO 8 (mfs (upd v 4 (nI s))))) 1063 (zO 8 (mfs (upd (upd v 4 (nI s)) 8 (nI 0))))) 1063 (zO 8 (mfs (upd (upd (upd v 4 (nI s)) 8 (nI 0)) 7 (nI 0))))) (upd (upd (upd v 4 (nI s)) 8 (nI 0)) 7 (nI 0)) ⟨by omega, rfl, zup_same _ _ _, rfl, ⟨0, rfl, by omega, fun _ => ⟨rfl, by omega⟩, fun _ => by omega⟩, (((rV.rf v).up _ (by decide)).up _ (by decide)).up _ (by decide), (zup_ne (by decide)).trans ((zup_ne (by decide)).trans ((zup_ne (by decide)).trans h5)), (((rF.rf h).tr (rF.up _ _)).tr (rF.up _ _)).tr (rF.up _ _)⟩
          · skip
            have e6 := of_decide_eq_true hc64
            have hq : (if s < n0 then ssort (B s) else 0) = 1 := by rw [if_pos hsn]; exact ssort_1.mpr e6.2
            refine z_sub (lv' := [(0, _), (1, _), (2, _)]) [1, 2, 0] rfl ?_
            have lp67 : ∀ (f2 : Nat) (j : Nat) (h2 : ZH) (v2 : Nat → Int32) (L2 : Nat → Nat), (s + j + f2 = n0 ∧ sre B n0 1 (n0 - s) s = sre B n0 1 (n0 - (s + j)) (s + j) ∧ h2 1063 = some (zO 8 (mfs v2)) ∧ v2 8 = nI j ∧ v2 4 = nI s ∧ rV v v2 ∧ h2 1065 = some (zI 8 L2) ∧ (∀ i, i < j → i < 8 → L2 i = B (s + i)) ∧ rF h h2) → Zc X mX12_goOn (zEnd X (fun r hh n' => r = none ∧ ((∃ v', MS hh v' B n0 (stok B n0 k) ∧ rV v v') ∧ rF h hh) ∧ n' = n) 0 0) 67 [(0, .ref 1063), (1, .int (nI (s + j))), (2, .int (szi B n0 s))] [] h2 n 0 0 := by
              intro f2
              induction f2 using Nat.strongRecOn with
              | _ f2 ih2 =>
                intro j h2 v2 L2 hk2
                obtain ⟨hk2, he2, hM2, e8, e4, hV2, h52, hL2, F2⟩ := hk2
                have h42 : h2 1064 = _ := (F2 1064 (by decide) (by decide)).trans h4
                have h32 : v2 3 = nI n0 := (hV2 3 (by decide)).trans h3
                refine z_aload_n (pc := 67) C dX12_goOn_67 0 rfl ?_
                refine z_iload_n (pc := 68) C dX12_goOn_68 1 rfl ?_
                refine z_cV1 (pc := 69) mX12_see C [_] dX12_goOn_69 lX12_71 mtX12_see (tX12_see hM2 h32 h42 hn (by omega)) hM2 rfl rfl (by decide) (Nat.le_of_ble_eq_true rfl) (Nat.zero_le _) (Nat.zero_le _) ?_
                refine z_cS1 (pc := 72) mX12_isSmall C [_] dX12_goOn_72 lX12_87 mtX12_isSmall tX12_isSmall rfl rfl (by decide) (Nat.le_of_ble_eq_true rfl) (Nat.zero_le _) (Nat.zero_le _) ?_
                rw [show decide (nI 97 ≤ szi B n0 (s + j) ∧ szi B n0 (s + j) ≤ nI 122) = decide ((s + j) < n0 ∧ 97 ≤ B (s + j) ∧ B (s + j) ≤ 122) from szi_rg hB (by decide) (by decide)]
                first | refine z_ifeqB (pc := 75) C 117 dX12_goOn_75 (by decide) (fun hc75 => ?_) (fun hc75 => ?_) | refine z_ifeqN (pc := 75) C 117 dX12_goOn_75 (by decide) (by omega) (fun hc75 => ?_) (fun hc75 => ?_) | refine z_if_eq (pc := 75) C 117 dX12_goOn_75 (by decide) (fun hc75 => ?_) (fun hc75 => ?_)
                · skip
                  have e5 := of_decide_eq_false hc75
                  have he : sE B n0 1 s = s + j := by unfold sE; rw [if_pos (Or.inl rfl), he2]; exact sre_f (fun z => e5 ⟨z.1, ssort_1.mp z.2⟩)
                  refine z_aload_n (pc := 117) C dX12_goOn_117 0 rfl ?_
                  refine z_iload_n (pc := 118) C dX12_goOn_118 1 rfl ?_
                  refine z_putf (pc := 119) (fs' := mfs (upd _ 5 _)) C dX12_goOn_119 gX12_68 hM2 (fun _ => ⟨rfl, rfl⟩) (by exact Nat.le_of_ble_eq_true rfl) (mfs_set _ 5 _ (by decide)) ?_
                  refine z_aload_n (pc := 122) C dX12_goOn_122 0 rfl ?_
                  refine z_aload_n (pc := 123) C dX12_goOn_123 0 rfl ?_
                  refine z_getf (pc := 124) C dX12_goOn_124 fX12_78 (zup_same _ _ _) (by first | rfl | assumption) ?_
                  refine z_top (show upd v2 5 (nI (s + j)) 8 = nI j from e8) ?_
                  refine z_bipush (pc := 127) C dX12_goOn_127 (nI 8) (by decide) ?_
                  first | refine z_icmpleN (pc := 129) C 136 dX12_goOn_129 (by decide) (by omega) (by omega) (fun hc129 => ?_) (fun hc129 => ?_) | refine z_icmp_le (pc := 129) C 136 dX12_goOn_129 (by decide) (fun hc129 => ?_) (fun hc129 => ?_)
                  · skip
                    have et : stok B n0 k = (1, s, s + j) := by unfold stok; rw [hs, hq]; unfold stq; rw [he, smo_1, if_pos (show s + j - s ≤ 8 by omega)]
                    refine z_iconst (pc := 136) C dX12_goOn_136 (nI 2) (by decide) ?_
                    refine z_putf (pc := 137) (fs' := mfs (upd _ 6 _)) C dX12_goOn_137 gX12_84 (zup_same _ _ _) (fun _ => ⟨rfl, rfl⟩) (by exact Nat.le_of_ble_eq_true rfl) (mfs_set _ 6 _ (by decide)) ?_
                    refine z_goto (pc := 140) C 241 dX12_goOn_140 (by decide) ?_
                    refine z_vret (pc := 241) C dX12_goOn_241 rfl (Nat.zero_le _) (Nat.zero_le _) ⟨rfl, ?_, rfl⟩
                    rw [et] at hTK ⊢
                    first
                    | exact ⟨⟨_, ⟨zup_same _ _ _, h3, ((zup_ne (by decide)).trans ((zup_ne (by decide)).trans ((zup_ne (by decide)).trans ((zup_ne (by decide)).trans ((zup_ne (by decide)).trans h4))))), hTK, L, ((zup_ne (by decide)).trans ((zup_ne (by decide)).trans ((zup_ne (by decide)).trans ((zup_ne (by decide)).trans ((zup_ne (by decide)).trans h5))))), rfl, rfl, fun _ => rfl, (fun z => by cases z), (fun z => by cases z)⟩, ((((((((((rV.rf v).up _ (by decide))).up _ (by decide))).up _ (by decide))).up _ (by decide))).up _ (by decide))⟩, ((((((((((rF.rf h).tr (rF.up _ _))).tr (rF.up _ _))).tr (rF.up _ _))).tr (rF.up _ _))).tr (rF.up _ _))⟩
                    | exact ⟨⟨_, ⟨zup_same _ _ _, h32, ((zup_ne (by decide)).trans ((zup_ne (by decide)).trans h42)), hTK, L2, ((zup_ne (by decide)).trans ((zup_ne (by decide)).trans h52)), rfl, e4, fun _ => rfl, fun _ => ⟨(by show v2 8 = nI (s + j - s); rw [Nat.add_sub_cancel_left]; exact e8), fun i hi => (by have hi : i < s + j - s := hi; exact hL2 i (by omega) (by omega))⟩, (fun z => by cases z)⟩, ((((hV2).up _ (by decide))).up _ (by decide))⟩, ((((F2).tr (rF.up _ _))).tr (rF.up _ _))⟩
                    | exact ⟨⟨_, ⟨zup_same _ _ _, h32, ((zup_ne (by decide)).trans ((zup_ne (by decide)).trans h42)), hTK, _, ((zup_ne (by decide)).trans ((zup_ne (by decide)).trans h52)), rfl, e4, fun z => absurd rfl z, (fun z => by cases z), (fun z => by cases z)⟩, ((((hV2).up _ (by decide))).up _ (by decide))⟩, ((((F2).tr (rF.up _ _))).tr (rF.up _ _))⟩
                    | exact ⟨⟨_, ⟨zup_same _ _ _, h32, ((zup_ne (by decide)).trans ((zup_ne (by decide)).trans h42)), hTK, _, ((zup_ne (by decide)).trans ((zup_ne (by decide)).trans h52)), rfl, e4, fun _ => rfl, (fun z => by cases z), fun _ => (by show v2 7 = nI (svl _ (s + j - s)); rw [Nat.add_sub_cancel_left, e7, (x2 (by omega)).1])⟩, ((((hV2).up _ (by decide))).up _ (by decide))⟩, ((((F2).tr (rF.up _ _))).tr (rF.up _ _))⟩
                    | exact ⟨⟨_, ⟨zup_same _ _ _, h3, ((zup_ne (by decide)).trans ((zup_ne (by decide)).trans ((zup_ne (by decide)).trans ((zup_ne (by decide)).trans ((zup_ne (by decide)).trans h4))))), hTK, L, ((zup_ne (by decide)).trans ((zup_ne (by decide)).trans ((zup_ne (by decide)).trans ((zup_ne (by decide)).trans ((zup_ne (by decide)).trans h5))))), (by show nI (B s) = nI 59; rw [e11.2]), rfl, fun _ => rfl, (fun z => by cases z), (fun z => by cases z)⟩, ((((((((((rV.rf v).up _ (by decide))).up _ (by decide))).up _ (by decide))).up _ (by decide))).up _ (by decide))⟩, ((((((((((rF.rf h).tr (rF.up _ _))).tr (rF.up _ _))).tr (rF.up _ _))).tr (rF.up _ _))).tr (rF.up _ _))⟩
                    | exact ⟨⟨_, ⟨zup_same _ _ _, h3, ((zup_ne (by decide)).trans ((zup_ne (by decide)).trans ((zup_ne (by decide)).trans ((zup_ne (by decide)).trans ((zup_ne (by decide)).trans h4))))), hTK, L, ((zup_ne (by decide)).trans ((zup_ne (by decide)).trans ((zup_ne (by decide)).trans ((zup_ne (by decide)).trans ((zup_ne (by decide)).trans h5))))), rfl, rfl, fun z => absurd rfl z, (fun z => by cases z), (fun z => by cases z)⟩, ((((((((((rV.rf v).up _ (by decide))).up _ (by decide))).up _ (by decide))).up _ (by decide))).up _ (by decide))⟩, ((((((((((rF.rf h).tr (rF.up _ _))).tr (rF.up _ _))).tr (rF.up _ _))).tr (rF.up _ _))).tr (rF.up _ _))⟩
                  · skip
                    have et : stok B n0 k = (4, s, s + j) := by unfold stok; rw [hs, hq]; unfold stq; rw [he, smo_1, if_neg (show ¬ s + j - s ≤ 8 by omega)]
                    refine z_iconst (pc := 132) C dX12_goOn_132 (nI 1) (by decide) ?_
                    refine z_goto (pc := 133) C 137 dX12_goOn_133 (by decide) ?_
                    refine z_putf (pc := 137) (fs' := mfs (upd _ 6 _)) C dX12_goOn_137 gX12_84 (zup_same _ _ _) (fun _ => ⟨rfl, rfl⟩) (by exact Nat.le_of_ble_eq_true rfl) (mfs_set _ 6 _ (by decide)) ?_
                    refine z_goto (pc := 140) C 241 dX12_goOn_140 (by decide) ?_
                    refine z_vret (pc := 241) C dX12_goOn_241 rfl (Nat.zero_le _) (Nat.zero_le _) ⟨rfl, ?_, rfl⟩
                    rw [et] at hTK ⊢
                    first
                    | exact ⟨⟨_, ⟨zup_same _ _ _, h3, ((zup_ne (by decide)).trans ((zup_ne (by decide)).trans ((zup_ne (by decide)).trans ((zup_ne (by decide)).trans ((zup_ne (by decide)).trans h4))))), hTK, L, ((zup_ne (by decide)).trans ((zup_ne (by decide)).trans ((zup_ne (by decide)).trans ((zup_ne (by decide)).trans ((zup_ne (by decide)).trans h5))))), rfl, rfl, fun _ => rfl, (fun z => by cases z), (fun z => by cases z)⟩, ((((((((((rV.rf v).up _ (by decide))).up _ (by decide))).up _ (by decide))).up _ (by decide))).up _ (by decide))⟩, ((((((((((rF.rf h).tr (rF.up _ _))).tr (rF.up _ _))).tr (rF.up _ _))).tr (rF.up _ _))).tr (rF.up _ _))⟩
                    | exact ⟨⟨_, ⟨zup_same _ _ _, h32, ((zup_ne (by decide)).trans ((zup_ne (by decide)).trans h42)), hTK, L2, ((zup_ne (by decide)).trans ((zup_ne (by decide)).trans h52)), rfl, e4, fun _ => rfl, fun _ => ⟨(by show v2 8 = nI (s + j - s); rw [Nat.add_sub_cancel_left]; exact e8), fun i hi => (by have hi : i < s + j - s := hi; exact hL2 i (by omega) (by omega))⟩, (fun z => by cases z)⟩, ((((hV2).up _ (by decide))).up _ (by decide))⟩, ((((F2).tr (rF.up _ _))).tr (rF.up _ _))⟩
                    | exact ⟨⟨_, ⟨zup_same _ _ _, h32, ((zup_ne (by decide)).trans ((zup_ne (by decide)).trans h42)), hTK, _, ((zup_ne (by decide)).trans ((zup_ne (by decide)).trans h52)), rfl, e4, fun z => absurd rfl z, (fun z => by cases z), (fun z => by cases z)⟩, ((((hV2).up _ (by decide))).up _ (by decide))⟩, ((((F2).tr (rF.up _ _))).tr (rF.up _ _))⟩
                    | exact ⟨⟨_, ⟨zup_same _ _ _, h32, ((zup_ne (by decide)).trans ((zup_ne (by decide)).trans h42)), hTK, _, ((zup_ne (by decide)).trans ((zup_ne (by decide)).trans h52)), rfl, e4, fun _ => rfl, (fun z => by cases z), fun _ => (by show v2 7 = nI (svl _ (s + j - s)); rw [Nat.add_sub_cancel_left, e7, (x2 (by omega)).1])⟩, ((((hV2).up _ (by decide))).up _ (by decide))⟩, ((((F2).tr (rF.up _ _))).tr (rF.up _ _))⟩
                    | exact ⟨⟨_, ⟨zup_same _ _ _, h3, ((zup_ne (by decide)).trans ((zup_ne (by decide)).trans ((zup_ne (by decide)).trans ((zup_ne (by decide)).trans ((zup_ne (by decide)).trans h4))))), hTK, L, ((zup_ne (by decide)).trans ((zup_ne (by decide)).trans ((zup_ne (by decide)).trans ((zup_ne (by decide)).trans ((zup_ne (by decide)).trans h5))))), (by show nI (B s) = nI 59; rw [e11.2]), rfl, fun _ => rfl, (fun z => by cases z), (fun z => by cases z)⟩, ((((((((((rV.rf v).up _ (by decide))).up _ (by decide))).up _ (by decide))).up _ (by decide))).up _ (by decide))⟩, ((((((((((rF.rf h).tr (rF.up _ _))).tr (rF.up _ _))).tr (rF.up _ _))).tr (rF.up _ _))).tr (rF.up _ _))⟩
                    | exact ⟨⟨_, ⟨zup_same _ _ _, h3, ((zup_ne (by decide)).trans ((zup_ne (by decide)).trans ((zup_ne (by decide)).trans ((zup_ne (by decide)).trans ((zup_ne (by decide)).trans h4))))), hTK, L, ((zup_ne (by decide)).trans ((zup_ne (by decide)).trans ((zup_ne (by decide)).trans ((zup_ne (by decide)).trans ((zup_ne (by decide)).trans h5))))), rfl, rfl, fun z => absurd rfl z, (fun z => by cases z), (fun z => by cases z)⟩, ((((((((((rV.rf v).up _ (by decide))).up _ (by decide))).up _ (by decide))).up _ (by decide))).up _ (by decide))⟩, ((((((((((rF.rf h).tr (rF.up _ _))).tr (rF.up _ _))).tr (rF.up _ _))).tr (rF.up _ _))).tr (rF.up _ _))⟩
                · skip
                  have e5 := of_decide_eq_true hc75
                  have b1 := hB (s + j) e5.1
                  refine z_aload_n (pc := 78) C dX12_goOn_78 0 rfl ?_
                  refine z_getf (pc := 79) C dX12_goOn_79 fX12_78 hM2 (by first | rfl | assumption) ?_
                  refine z_top e8 ?_
                  refine z_bipush (pc := 82) C dX12_goOn_82 (nI 8) (by decide) ?_
                  first | refine z_icmpgeN (pc := 84) C 101 dX12_goOn_84 (by decide) (by omega) (by omega) (fun hc84 => ?_) (fun hc84 => ?_) | refine z_icmp_ge (pc := 84) C 101 dX12_goOn_84 (by decide) (fun hc84 => ?_) (fun hc84 => ?_)
                  · skip
                    have hM3 := hM2
                    have e9 := ih2 (f2 - 1) (by omega) (j + 1) (zup h2 1063 (zO 8 (mfs (upd v2 8 (nI (j + 1)))))) (upd v2 8 (nI (j + 1))) L2 ⟨by omega, by rw [he2]; exact sre_t e5.1 (ssort_1.mpr e5.2), zup_same _ _ _, rfl, e4, hV2.up _ (by decide), (zup_ne (by decide)).trans h52, fun i h1 h2 => hL2 i (by omega) h2, F2.tr (rF.up _ _)⟩
                    refine z_aload_n (pc := 101) C dX12_goOn_101 0 rfl ?_
                    refine z_dup (pc := 102) C dX12_goOn_102 rfl ?_
                    refine z_getf (pc := 103) C dX12_goOn_103 fX12_78 hM3 (by first | rfl | assumption) ?_
                    refine z_top e8 ?_
                    refine z_iconst (pc := 106) C dX12_goOn_106 (nI 1) (by decide) ?_
                    first | refine z_iaddN (pc := 107) C dX12_goOn_107 ?_ | refine z_iadd (pc := 107) C dX12_goOn_107 ?_
                    refine z_putf (pc := 108) (fs' := mfs (upd _ 8 _)) C dX12_goOn_108 gX12_78 hM3 (fun _ => ⟨rfl, rfl⟩) (by exact Nat.le_of_ble_eq_true rfl) (mfs_set _ 8 _ (by decide)) ?_
                    first | refine z_iincN (pc := 111) (lv' := [(1, _), (0, _), (2, _)]) C 1 dX12_goOn_111 1 rfl (by decide) (by decide) rfl ?_ | refine z_iinc (pc := 111) (lv' := [(1, _), (0, _), (2, _)]) C dX12_goOn_111 1 rfl _ rfl (by decide) rfl ?_
                    refine z_goto (pc := 114) C 67 dX12_goOn_114 (by decide) ?_
                    refine z_sub (lv' := [(0, _), (1, _), (2, _)]) [1, 0, 2] rfl ?_
                    exact e9
                  · skip
                    have hM3 : zup h2 1065 (zI 8 (nup L2 j (B (s + j)))) 1063 = _ := (zup_ne (by decide)).trans hM2
                    have e9 := ih2 (f2 - 1) (by omega) (j + 1) (zup (zup h2 1065 (zI 8 (nup L2 j (B (s + j))))) 1063 (zO 8 (mfs (upd v2 8 (nI (j + 1)))))) (upd v2 8 (nI (j + 1))) (nup L2 j (B (s + j))) ⟨by omega, by rw [he2]; exact sre_t e5.1 (ssort_1.mpr e5.2), zup_same _ _ _, rfl, e4, hV2.up _ (by decide), (zup_ne (by decide)).trans (zup_same _ _ _), fun i h1 h2 => by by_cases z : i = j; (subst z; exact nup_same _ _ _); (rw [nup_ne z]; exact hL2 i (by omega) h2), fun a q1 q2 => (zup_ne q1).trans ((zup_ne q2).trans (F2 a q1 q2))⟩
                    refine z_aload_n (pc := 87) C dX12_goOn_87 0 rfl ?_
                    refine z_getf (pc := 88) C dX12_goOn_88 fX12_17 hM2 (by first | rfl | assumption) ?_
                    refine z_aload_n (pc := 91) C dX12_goOn_91 0 rfl ?_
                    refine z_getf (pc := 92) C dX12_goOn_92 fX12_78 hM2 (by first | rfl | assumption) ?_
                    refine z_top e8 ?_
                    refine z_aload_n (pc := 95) C dX12_goOn_95 0 rfl ?_
                    refine z_iload_n (pc := 96) C dX12_goOn_96 1 rfl ?_
                    refine z_cV1 (pc := 97) mX12_see C [_] dX12_goOn_97 lX12_71 mtX12_see (tX12_see hM2 h32 h42 hn (by omega)) hM2 rfl rfl (by decide) (Nat.le_of_ble_eq_true rfl) (Nat.zero_le _) (Nat.zero_le _) ?_
                    refine z_top (szi_in (by omega)) ?_
                    first | refine z_iastN (pc := 100) C dX12_goOn_100 h52 (by omega) (by decide) ?_ | refine z_iastI (pc := 100) C dX12_goOn_100 h52 (by omega) (by decide) ?_
                    refine z_aload_n (pc := 101) C dX12_goOn_101 0 rfl ?_
                    refine z_dup (pc := 102) C dX12_goOn_102 rfl ?_
                    refine z_getf (pc := 103) C dX12_goOn_103 fX12_78 hM3 (by first | rfl | assumption) ?_
                    refine z_top e8 ?_
                    refine z_iconst (pc := 106) C dX12_goOn_106 (nI 1) (by decide) ?_
                    first | refine z_iaddN (pc := 107) C dX12_goOn_107 ?_ | refine z_iadd (pc := 107) C dX12_goOn_107 ?_
                    refine z_putf (pc := 108) (fs' := mfs (upd _ 8 _)) C dX12_goOn_108 gX12_78 hM3 (fun _ => ⟨rfl, rfl⟩) (by exact Nat.le_of_ble_eq_true rfl) (mfs_set _ 8 _ (by decide)) ?_
                    first | refine z_iincN (pc := 111) (lv' := [(1, _), (0, _), (2, _)]) C 1 dX12_goOn_111 1 rfl (by decide) (by decide) rfl ?_ | refine z_iinc (pc := 111) (lv' := [(1, _), (0, _), (2, _)]) C dX12_goOn_111 1 rfl _ rfl (by decide) rfl ?_
                    refine z_goto (pc := 114) C 67 dX12_goOn_114 (by decide) ?_
                    refine z_sub (lv' := [(0, _), (1, _), (2, _)]) [1, 0, 2] rfl ?_
                    exact e9
            exact lp67 (n0 - s) 0 (zup (zup (zup h 1063 (zO 8 (mfs (upd v 4 (nI s))))) 1063 (zO 8 (mfs (upd (upd v 4 (nI s)) 8 (nI 0))))) 1063 (zO 8 (mfs (upd (upd (upd v 4 (nI s)) 8 (nI 0)) 7 (nI 0))))) (upd (upd (upd v 4 (nI s)) 8 (nI 0)) 7 (nI 0)) L ⟨by omega, rfl, zup_same _ _ _, rfl, rfl, (((rV.rf v).up _ (by decide)).up _ (by decide)).up _ (by decide), (zup_ne (by decide)).trans ((zup_ne (by decide)).trans ((zup_ne (by decide)).trans h5)), fun i hi => by omega, (((rF.rf h).tr (rF.up _ _)).tr (rF.up _ _)).tr (rF.up _ _)⟩
        · skip
          have hsn := (szi_m1 hB).mp hc44
          have hq : (if s < n0 then ssort (B s) else 0) = 0 := if_neg hsn
          have et : stok B n0 k = (0, s, s) := by unfold stok; rw [hs, hq]; unfold stq; rw [show sE B n0 0 s = s from rfl, if_pos (by omega)]
          refine z_aload_n (pc := 47) C dX12_goOn_47 1 rfl ?_
          refine z_iconst (pc := 48) C dX12_goOn_48 (nI 0) (by decide) ?_
          refine z_putf (pc := 49) (fs' := mfs (upd _ 6 _)) C dX12_goOn_49 gX12_84 (zup_same _ _ _) (fun _ => ⟨rfl, rfl⟩) (by exact Nat.le_of_ble_eq_true rfl) (mfs_set _ 6 _ (by decide)) ?_
          refine z_aload_n (pc := 52) C dX12_goOn_52 1 rfl ?_
          refine z_iload_n (pc := 53) C dX12_goOn_53 2 rfl ?_
          refine z_putf (pc := 54) (fs' := mfs (upd _ 5 _)) C dX12_goOn_54 gX12_68 (zup_same _ _ _) (fun _ => ⟨rfl, rfl⟩) (by exact Nat.le_of_ble_eq_true rfl) (mfs_set _ 5 _ (by decide)) ?_
          refine z_goto (pc := 57) C 241 dX12_goOn_57 (by decide) ?_
          refine z_vret (pc := 241) C dX12_goOn_241 rfl (Nat.zero_le _) (Nat.zero_le _) ⟨rfl, ?_, rfl⟩
          rw [et] at hTK ⊢
          first
          | exact ⟨⟨_, ⟨zup_same _ _ _, h3, ((zup_ne (by decide)).trans ((zup_ne (by decide)).trans ((zup_ne (by decide)).trans ((zup_ne (by decide)).trans ((zup_ne (by decide)).trans h4))))), hTK, L, ((zup_ne (by decide)).trans ((zup_ne (by decide)).trans ((zup_ne (by decide)).trans ((zup_ne (by decide)).trans ((zup_ne (by decide)).trans h5))))), rfl, rfl, fun _ => rfl, (fun z => by cases z), (fun z => by cases z)⟩, ((((((((((rV.rf v).up _ (by decide))).up _ (by decide))).up _ (by decide))).up _ (by decide))).up _ (by decide))⟩, ((((((((((rF.rf h).tr (rF.up _ _))).tr (rF.up _ _))).tr (rF.up _ _))).tr (rF.up _ _))).tr (rF.up _ _))⟩
          | exact ⟨⟨_, ⟨zup_same _ _ _, h32, ((zup_ne (by decide)).trans ((zup_ne (by decide)).trans h42)), hTK, L2, ((zup_ne (by decide)).trans ((zup_ne (by decide)).trans h52)), rfl, e4, fun _ => rfl, fun _ => ⟨(by show v2 8 = nI (s + j - s); rw [Nat.add_sub_cancel_left]; exact e8), fun i hi => (by have hi : i < s + j - s := hi; exact hL2 i (by omega) (by omega))⟩, (fun z => by cases z)⟩, ((((hV2).up _ (by decide))).up _ (by decide))⟩, ((((F2).tr (rF.up _ _))).tr (rF.up _ _))⟩
          | exact ⟨⟨_, ⟨zup_same _ _ _, h32, ((zup_ne (by decide)).trans ((zup_ne (by decide)).trans h42)), hTK, _, ((zup_ne (by decide)).trans ((zup_ne (by decide)).trans h52)), rfl, e4, fun z => absurd rfl z, (fun z => by cases z), (fun z => by cases z)⟩, ((((hV2).up _ (by decide))).up _ (by decide))⟩, ((((F2).tr (rF.up _ _))).tr (rF.up _ _))⟩
          | exact ⟨⟨_, ⟨zup_same _ _ _, h32, ((zup_ne (by decide)).trans ((zup_ne (by decide)).trans h42)), hTK, _, ((zup_ne (by decide)).trans ((zup_ne (by decide)).trans h52)), rfl, e4, fun _ => rfl, (fun z => by cases z), fun _ => (by show v2 7 = nI (svl _ (s + j - s)); rw [Nat.add_sub_cancel_left, e7, (x2 (by omega)).1])⟩, ((((hV2).up _ (by decide))).up _ (by decide))⟩, ((((F2).tr (rF.up _ _))).tr (rF.up _ _))⟩
          | exact ⟨⟨_, ⟨zup_same _ _ _, h3, ((zup_ne (by decide)).trans ((zup_ne (by decide)).trans ((zup_ne (by decide)).trans ((zup_ne (by decide)).trans ((zup_ne (by decide)).trans h4))))), hTK, L, ((zup_ne (by decide)).trans ((zup_ne (by decide)).trans ((zup_ne (by decide)).trans ((zup_ne (by decide)).trans ((zup_ne (by decide)).trans h5))))), (by show nI (B s) = nI 59; rw [e11.2]), rfl, fun _ => rfl, (fun z => by cases z), (fun z => by cases z)⟩, ((((((((((rV.rf v).up _ (by decide))).up _ (by decide))).up _ (by decide))).up _ (by decide))).up _ (by decide))⟩, ((((((((((rF.rf h).tr (rF.up _ _))).tr (rF.up _ _))).tr (rF.up _ _))).tr (rF.up _ _))).tr (rF.up _ _))⟩
          | exact ⟨⟨_, ⟨zup_same _ _ _, h3, ((zup_ne (by decide)).trans ((zup_ne (by decide)).trans ((zup_ne (by decide)).trans ((zup_ne (by decide)).trans ((zup_ne (by decide)).trans h4))))), hTK, L, ((zup_ne (by decide)).trans ((zup_ne (by decide)).trans ((zup_ne (by decide)).trans ((zup_ne (by decide)).trans ((zup_ne (by decide)).trans h5))))), rfl, rfl, fun z => absurd rfl z, (fun z => by cases z), (fun z => by cases z)⟩, ((((((((((rV.rf v).up _ (by decide))).up _ (by decide))).up _ (by decide))).up _ (by decide))).up _ (by decide))⟩, ((((((((((rF.rf h).tr (rF.up _ _))).tr (rF.up _ _))).tr (rF.up _ _))).tr (rF.up _ _))).tr (rF.up _ _))⟩
      · skip
        have e5 := (szi_eq hB (by decide)).mp hc12
        first | refine z_iincN (pc := 15) (lv' := [(1, _), (0, _)]) C 1 dX12_goOn_15 1 rfl (by decide) (by decide) rfl ?_ | refine z_iinc (pc := 15) (lv' := [(1, _), (0, _)]) C dX12_goOn_15 1 rfl _ rfl (by decide) rfl ?_
        refine z_goto (pc := 18) C 5 dX12_goOn_18 (by decide) ?_
        refine z_sub (lv' := [(0, _), (1, _)]) [1, 0] rfl ?_
        exact ih0 (f0 - 1) (by omega) (j + 1) ⟨by omega, by rw [he0]; obtain ⟨f0, rfl⟩ : ∃ y, f0 = y + 1 := ⟨f0 - 1, by omega⟩; rw [sskp, if_pos e5]; rfl⟩
  exact lp5 (n0 - k) k ⟨by omega, rfl⟩

def sNx (B : Nat → Nat) (n : Nat) (t : Nat × Nat × Nat) : Nat × Nat × Nat := stok B n t.2.2
theorem sNx_ok {B : Nat → Nat} {n : Nat} {t : Nat × Nat × Nat} (h : sTk B n t) : sTk B n (sNx B n t) ∧ t.2.2 ≤ (sNx B n t).2.1 := by
  obtain ⟨-, -, h3, h4, h5, -⟩ := h
  exact stok_ok h3 h4 h5
theorem tX12_goOnQ {h : ZH} {v : Nat → Int32} {B : Nat → Nat} {n0 : Nat} {t : Nat × Nat × Nat} (hS : MS h v B n0 t) (ht : t.1 ≠ 4) : ZQ0 mX12_goOn 1 [.ref 1063] h (fun hh => (∃ v', MS hh v' B n0 (sNx B n0 t) ∧ rV v v') ∧ rF h hh) := by
  obtain ⟨hM, h3, h4, hk, L, h5, m1, m2, m3, m4, m5⟩ := hS
  obtain ⟨k1, k2, k3, k4, k5, -⟩ := hk
  exact tX12_goOn hM h3 h4 h5 (m3 ht) k3 k4 k5
/-- the model has failed -/
def MX (v : Nat → Int32) (f p : Nat) : Nat → Int32 := upd (upd (upd v 13 (zb true)) 9 (nI f)) 10 (nI p)

set_option maxRecDepth 20000 in
set_option maxHeartbeats 1000000 in
theorem tX12_wrongN {h : ZH} {v : Nat → Int32} {x y : Int32} (hM : h 1063 = some (zO 8 (mfs v))) (hf : v 13 = zb true) : ZD mX12_wrong 0 [.ref 1063, .int x, .int y] h none h := by
  intro n
  refine z_enter (lv := [(0, _), (1, _), (2, _)]) (by decide) (Nat.le_of_ble_eq_true rfl) rfl (fun X C => ?_)
  refine z_aload_n (pc := 0) C dX12_wrong_0 0 rfl ?_
  refine z_getf (pc := 1) C dX12_wrong_1 fX12_94 (by assumption) (by first | rfl | assumption) ?_
  rw [hf]
  first | refine z_ifeqB (pc := 4) C 8 dX12_wrong_4 (by decide) (fun hc4 => ?_) (fun hc4 => ?_) | refine z_ifeqN (pc := 4) C 8 dX12_wrong_4 (by decide) (by omega) (fun hc4 => ?_) (fun hc4 => ?_) | refine z_if_eq (pc := 4) C 8 dX12_wrong_4 (by decide) (fun hc4 => ?_) (fun hc4 => ?_)
  · cases hc4
  · skip
    refine z_vret (pc := 7) C dX12_wrong_7 rfl (Nat.zero_le _) (Nat.zero_le _) ⟨?_, ?_, rfl⟩
    · rfl
    · rfl

set_option maxRecDepth 20000 in
set_option maxHeartbeats 1000000 in
theorem tX12_wrongY {h : ZH} {v : Nat → Int32} {f p : Nat} (hM : h 1063 = some (zO 8 (mfs v))) (hf : v 13 = zb false) : ZD mX12_wrong 0 [.ref 1063, .int (nI f), .int (nI p)] h none (zup h 1063 (zO 8 (mfs (MX v f p)))) := by
  intro n
  refine z_enter (lv := [(0, _), (1, _), (2, _)]) (by decide) (Nat.le_of_ble_eq_true rfl) rfl (fun X C => ?_)
  refine z_aload_n (pc := 0) C dX12_wrong_0 0 rfl ?_
  refine z_getf (pc := 1) C dX12_wrong_1 fX12_94 (by assumption) (by first | rfl | assumption) ?_
  rw [hf]
  first | refine z_ifeqB (pc := 4) C 8 dX12_wrong_4 (by decide) (fun hc4 => ?_) (fun hc4 => ?_) | refine z_ifeqN (pc := 4) C 8 dX12_wrong_4 (by decide) (by omega) (fun hc4 => ?_) (fun hc4 => ?_) | refine z_if_eq (pc := 4) C 8 dX12_wrong_4 (by decide) (fun hc4 => ?_) (fun hc4 => ?_)
  · skip
    refine z_aload_n (pc := 8) C dX12_wrong_8 0 rfl ?_
    refine z_iconst (pc := 9) C dX12_wrong_9 (zb true) (by decide) ?_
    refine z_putf (pc := 10) (fs' := mfs (upd _ 13 _)) C dX12_wrong_10 gX12_94 (by assumption) (fun _ => ⟨zb_nar _, zb_fit _⟩) (by exact Nat.le_of_ble_eq_true rfl) (mfs_set _ 13 _ (by decide)) ?_
    refine z_aload_n (pc := 13) C dX12_wrong_13 0 rfl ?_
    refine z_iload_n (pc := 14) C dX12_wrong_14 1 rfl ?_
    refine z_putf (pc := 15) (fs' := mfs (upd _ 9 _)) C dX12_wrong_15 gX12_98 (zup_same _ _ _) (fun _ => ⟨rfl, rfl⟩) (by exact Nat.le_of_ble_eq_true rfl) (mfs_set _ 9 _ (by decide)) ?_
    refine z_aload_n (pc := 18) C dX12_wrong_18 0 rfl ?_
    refine z_iload_n (pc := 19) C dX12_wrong_19 2 rfl ?_
    refine z_putf (pc := 20) (fs' := mfs (upd _ 10 _)) C dX12_wrong_20 gX12_13 (zup_same _ _ _) (fun _ => ⟨rfl, rfl⟩) (by exact Nat.le_of_ble_eq_true rfl) (mfs_set _ 10 _ (by decide)) ?_
    refine z_vret (pc := 23) C dX12_wrong_23 rfl (Nat.zero_le _) (Nat.zero_le _) ⟨?_, ?_, rfl⟩
    · rfl
    · rw [zup_zup, zup_zup]; rfl
  · cases hc4

set_option maxRecDepth 20000 in
set_option maxHeartbeats 1000000 in
theorem tX12_isWord {h : ZH} {v : Nat → Int32} {B : Nat → Nat} {n0 i : Nat} {t : Nat × Nat × Nat} {b0 : Bool} (hS : MS h v B n0 t) (hf : v 13 = zb b0) (hi : i < 20) : ZD mX12_isWord 4 [.ref 1063, .ref i] h (some (.int (zb (!b0 && sspl B t i)))) h := by
  intro n
  obtain ⟨hM, h3, h4, hk, L, h5, m1, m2, m3, m4, m5⟩ := hS
  obtain ⟨t1, t2, t3, t4, t5, t6, t7, t8, t9⟩ := hk
  have e1 := zLen_le i hi
  have e0 := mtk_le t.1
  refine z_enter (lv := [(0, _), (1, _)]) (by decide) (Nat.le_of_ble_eq_true rfl) rfl (fun X C => ?_)
  refine z_aload_n (pc := 0) C dX12_isWord_0 0 rfl ?_
  refine z_getf (pc := 1) C dX12_isWord_1 fX12_94 (by assumption) (by first | rfl | assumption) ?_
  rw [hf]
  first | refine z_ifneB (pc := 4) C 26 dX12_isWord_4 (by decide) (fun hc4 => ?_) (fun hc4 => ?_) | refine z_ifneN (pc := 4) C 26 dX12_isWord_4 (by decide) (by omega) (fun hc4 => ?_) (fun hc4 => ?_) | refine z_if_ne (pc := 4) C 26 dX12_isWord_4 (by decide) (fun hc4 => ?_) (fun hc4 => ?_)
  · skip
    refine z_iconst (pc := 26) C dX12_isWord_26 (zb false) (by decide) ?_
    refine z_zret (pc := 27) C dX12_isWord_27 rfl (by first | exact zb_nar _ | rfl) (Nat.zero_le _) (Nat.zero_le _) ⟨?_, ?_, rfl⟩
    · first | (rw [hc4]; rfl) | (rw [e5, Bool.and_false])
    · rfl
  · skip
    refine z_aload_n (pc := 7) C dX12_isWord_7 0 rfl ?_
    refine z_getf (pc := 8) C dX12_isWord_8 fX12_84 (by assumption) (by first | rfl | assumption) ?_
    refine z_top m1 ?_
    refine z_iconst (pc := 11) C dX12_isWord_11 (nI 2) (by decide) ?_
    first | refine z_icmpneN (pc := 12) C 26 dX12_isWord_12 (by decide) (by omega) (by omega) (fun hc12 => ?_) (fun hc12 => ?_) | refine z_icmp_ne (pc := 12) C 26 dX12_isWord_12 (by decide) (fun hc12 => ?_) (fun hc12 => ?_)
    · skip
      have e5 : sspl B t i = false := decide_eq_false (fun z => hc12 (mtk_2.mpr z.1))
      refine z_iconst (pc := 26) C dX12_isWord_26 (zb false) (by decide) ?_
      refine z_zret (pc := 27) C dX12_isWord_27 rfl (by first | exact zb_nar _ | rfl) (Nat.zero_le _) (Nat.zero_le _) ⟨?_, ?_, rfl⟩
      · first | (rw [hc4]; rfl) | (rw [e5, Bool.and_false])
      · rfl
    · skip
      have ew := mtk_2.mp hc12
      obtain ⟨n1, n2⟩ := m4 ew
      obtain ⟨w1, w2, w3⟩ := t7 ew
      refine z_aload_n (pc := 15) C dX12_isWord_15 0 rfl ?_
      refine z_getf (pc := 16) C dX12_isWord_16 fX12_78 (by assumption) (by first | rfl | assumption) ?_
      refine z_top n1 ?_
      refine z_aload_n (pc := 19) C dX12_isWord_19 1 rfl ?_
      refine z_cJ1 (pc := 20) mJ0_length_8abf5 C [] hi dX12_isWord_20 lX12_101 mtJ0_length_8abf5 (tJ0_length_8abf5 hi) rfl rfl (by decide) (Nat.le_of_ble_eq_true rfl) (Nat.zero_le _) (Nat.zero_le _) ?_
      first | refine z_icmpeqN (pc := 23) C 28 dX12_isWord_23 (by decide) (by omega) (by omega) (fun hc23 => ?_) (fun hc23 => ?_) | refine z_icmp_eq (pc := 23) C 28 dX12_isWord_23 (by decide) (fun hc23 => ?_) (fun hc23 => ?_)
      · skip
        refine z_iconst (pc := 28) C dX12_isWord_28 (zb true) (by decide) ?_
        refine z_istore_n (pc := 29) (lv' := [(2, _), (0, _), (1, _)]) C dX12_isWord_29 (by decide) rfl ?_
        refine z_iconst (pc := 30) C dX12_isWord_30 (nI 0) (by decide) ?_
        refine z_istore_n (pc := 31) (lv' := [(3, _), (2, _), (0, _), (1, _)]) C dX12_isWord_31 (by decide) rfl ?_
        refine z_sub (lv' := [(0, _), (1, _), (2, _), (3, _)]) [2, 3, 1, 0] rfl ?_
        have lp32 : ∀ (f : Nat) (j : Nat) (g : Bool), (j + f = t.2.2 - t.2.1 ∧ g = decide (∀ q, q < j → B (t.2.1 + q) = zCh i q)) → Zc X mX12_isWord (zEnd X (fun r hh n' => r = (some (.int (zb (!b0 && sspl B t i)))) ∧ hh = h ∧ n' = n) 0 0) 32 [(0, .ref 1063), (1, .ref i), (2, .int (zb g)), (3, .int (nI j))] [] h n 0 0 := by
          intro f
          induction f using Nat.strongRecOn with
          | _ f ih =>
            intro j g hk2
            obtain ⟨hk2, he⟩ := hk2
            refine z_iload_n (pc := 32) C dX12_isWord_32 3 rfl ?_
            refine z_aload_n (pc := 33) C dX12_isWord_33 0 rfl ?_
            refine z_getf (pc := 34) C dX12_isWord_34 fX12_78 (by assumption) (by first | rfl | assumption) ?_
            refine z_top n1 ?_
            first | refine z_icmpgeN (pc := 37) C 70 dX12_isWord_37 (by decide) (by omega) (by omega) (fun hc37 => ?_) (fun hc37 => ?_) | refine z_icmp_ge (pc := 37) C 70 dX12_isWord_37 (by decide) (fun hc37 => ?_) (fun hc37 => ?_)
            · skip
              refine z_iload_n (pc := 70) C dX12_isWord_70 2 rfl ?_
              refine z_zret (pc := 71) C dX12_isWord_71 rfl (by first | exact zb_nar _ | rfl) (Nat.zero_le _) (Nat.zero_le _) ⟨?_, ?_, rfl⟩
              · rw [hc4, he]; show _ = some (Value.int (zb (sspl B t i))); unfold sspl; congr 4; apply propext; constructor; (exact fun z => ⟨ew, hc23.symm, fun q hq => z q (by omega)⟩); (exact fun z q hq => z.2.2 q (by omega))
              · rfl
            · skip
              refine z_iload_n (pc := 40) C dX12_isWord_40 2 rfl ?_
              first | refine z_ifeqB (pc := 41) C 62 dX12_isWord_41 (by decide) (fun hc41 => ?_) (fun hc41 => ?_) | refine z_ifeqN (pc := 41) C 62 dX12_isWord_41 (by decide) (by omega) (fun hc41 => ?_) (fun hc41 => ?_) | refine z_if_eq (pc := 41) C 62 dX12_isWord_41 (by decide) (fun hc41 => ?_) (fun hc41 => ?_)
              · skip
                have e9 : false = decide (∀ q, q < j + 1 → B (t.2.1 + q) = zCh i q) := by refine (decide_eq_false (fun z => ?_)).symm; rw [he] at hc41; exact absurd (fun q hq => z q (by omega)) (of_decide_eq_false hc41)
                refine z_iconst (pc := 62) C dX12_isWord_62 (zb false) (by decide) ?_
                refine z_istore_n (pc := 63) (lv' := [(2, _), (0, _), (1, _), (3, _)]) C dX12_isWord_63 (by decide) rfl ?_
                first | refine z_iincN (pc := 64) (lv' := [(3, _), (2, _), (0, _), (1, _)]) C 1 dX12_isWord_64 3 rfl (by decide) (by decide) rfl ?_ | refine z_iinc (pc := 64) (lv' := [(3, _), (2, _), (0, _), (1, _)]) C dX12_isWord_64 3 rfl _ rfl (by decide) rfl ?_
                refine z_goto (pc := 67) C 32 dX12_isWord_67 (by decide) ?_
                refine z_sub (lv' := [(0, _), (1, _), (2, _), (3, _)]) [2, 3, 1, 0] rfl ?_
                exact ih (f - 1) (by omega) (j + 1) _ ⟨by omega, e9⟩
              · skip
                refine z_aload_n (pc := 44) C dX12_isWord_44 0 rfl ?_
                refine z_getf (pc := 45) C dX12_isWord_45 fX12_17 (by assumption) (by first | rfl | assumption) ?_
                refine z_iload_n (pc := 48) C dX12_isWord_48 3 rfl ?_
                first | refine z_ialdN (pc := 49) C dX12_isWord_49 (by assumption) (by omega) (by decide) ?_ | refine z_ialdI (pc := 49) C dX12_isWord_49 (by assumption) (by omega) (by decide) ?_
                refine z_aload_n (pc := 50) C dX12_isWord_50 1 rfl ?_
                refine z_iload_n (pc := 51) C dX12_isWord_51 3 rfl ?_
                refine z_cJ1 (pc := 52) mJ0_charAt_5068e C [_] hi dX12_isWord_52 lX12_107 mtJ0_charAt_5068e (tJ0_charAt_5068e hi (by omega)) rfl rfl (by decide) (Nat.le_of_ble_eq_true rfl) (Nat.zero_le _) (Nat.zero_le _) ?_
                have e2 := zCh_lt i hi j (by omega)
                have e3 := w3 j (by omega)
                have e4 := n2 j (by omega)
                first | refine z_icmpneN (pc := 55) C 62 dX12_isWord_55 (by decide) (by omega) (by omega) (fun hc55 => ?_) (fun hc55 => ?_) | refine z_icmp_ne (pc := 55) C 62 dX12_isWord_55 (by decide) (fun hc55 => ?_) (fun hc55 => ?_)
                · skip
                  have e9 : false = decide (∀ q, q < j + 1 → B (t.2.1 + q) = zCh i q) := (decide_eq_false (fun z => hc55 ((n2 j (by omega)).trans (z j (by omega))))).symm
                  refine z_iconst (pc := 62) C dX12_isWord_62 (zb false) (by decide) ?_
                  refine z_istore_n (pc := 63) (lv' := [(2, _), (0, _), (1, _), (3, _)]) C dX12_isWord_63 (by decide) rfl ?_
                  first | refine z_iincN (pc := 64) (lv' := [(3, _), (2, _), (0, _), (1, _)]) C 1 dX12_isWord_64 3 rfl (by decide) (by decide) rfl ?_ | refine z_iinc (pc := 64) (lv' := [(3, _), (2, _), (0, _), (1, _)]) C dX12_isWord_64 3 rfl _ rfl (by decide) rfl ?_
                  refine z_goto (pc := 67) C 32 dX12_isWord_67 (by decide) ?_
                  refine z_sub (lv' := [(0, _), (1, _), (2, _), (3, _)]) [2, 3, 1, 0] rfl ?_
                  exact ih (f - 1) (by omega) (j + 1) _ ⟨by omega, e9⟩
                · skip
                  have e9 : true = decide (∀ q, q < j + 1 → B (t.2.1 + q) = zCh i q) := by refine (decide_eq_true (fun q hq => ?_)).symm; rw [he] at hc41; by_cases z : q = j; (subst z; exact (n2 q (by omega)).symm.trans hc55); exact of_decide_eq_true hc41 q (by omega)
                  refine z_iconst (pc := 58) C dX12_isWord_58 (zb true) (by decide) ?_
                  refine z_goto (pc := 59) C 63 dX12_isWord_59 (by decide) ?_
                  refine z_istore_n (pc := 63) (lv' := [(2, _), (0, _), (1, _), (3, _)]) C dX12_isWord_63 (by decide) rfl ?_
                  first | refine z_iincN (pc := 64) (lv' := [(3, _), (2, _), (0, _), (1, _)]) C 1 dX12_isWord_64 3 rfl (by decide) (by decide) rfl ?_ | refine z_iinc (pc := 64) (lv' := [(3, _), (2, _), (0, _), (1, _)]) C dX12_isWord_64 3 rfl _ rfl (by decide) rfl ?_
                  refine z_goto (pc := 67) C 32 dX12_isWord_67 (by decide) ?_
                  refine z_sub (lv' := [(0, _), (1, _), (2, _), (3, _)]) [2, 3, 1, 0] rfl ?_
                  exact ih (f - 1) (by omega) (j + 1) _ ⟨by omega, e9⟩
        exact lp32 (t.2.2 - t.2.1) 0 true ⟨by omega, (decide_eq_true (fun q hq => by omega)).symm⟩
      · skip
        have e5 : sspl B t i = false := decide_eq_false (fun z => hc23 z.2.1.symm)
        refine z_iconst (pc := 26) C dX12_isWord_26 (zb false) (by decide) ?_
        refine z_zret (pc := 27) C dX12_isWord_27 rfl (by first | exact zb_nar _ | rfl) (Nat.zero_le _) (Nat.zero_le _) ⟨?_, ?_, rfl⟩
        · first | (rw [hc4]; rfl) | (rw [e5, Bool.and_false])
        · rfl

set_option maxRecDepth 20000 in
set_option maxHeartbeats 1000000 in
theorem tX12_takesWord {h : ZH} {v : Nat → Int32} {B : Nat → Nat} {n0 i : Nat} {t : Nat × Nat × Nat} (hS : MS h v B n0 t) (hf : v 13 = zb false) (hi : i < 20) : ZQ1 mX12_takesWord 5 [.ref 1063, .ref i] h (fun w hh => w = .int (zb (sspl B t i)) ∧ (∃ v', MS hh v' B n0 (if sspl B t i then sNx B n0 t else t) ∧ rV v v') ∧ rF h hh) := by
  intro n
  have hM := hS.1
  refine z_enter (lv := [(0, _), (1, _)]) (by decide) (Nat.le_of_ble_eq_true rfl) rfl (fun X C => ?_)
  refine z_aload_n (pc := 0) C dX12_takesWord_0 0 rfl ?_
  refine z_aload_n (pc := 1) C dX12_takesWord_1 1 rfl ?_
  refine z_cV1 (pc := 2) mX12_isWord C [_] dX12_takesWord_2 lX12_111 mtX12_isWord (tX12_isWord hS hf hi) (by assumption) rfl rfl (by decide) (Nat.le_of_ble_eq_true rfl) (Nat.zero_le _) (Nat.zero_le _) ?_
  first | refine z_ifneB (pc := 5) C 10 dX12_takesWord_5 (by decide) (fun hc5 => ?_) (fun hc5 => ?_) | refine z_ifneN (pc := 5) C 10 dX12_takesWord_5 (by decide) (by omega) (fun hc5 => ?_) (fun hc5 => ?_) | refine z_if_ne (pc := 5) C 10 dX12_takesWord_5 (by decide) (fun hc5 => ?_) (fun hc5 => ?_)
  · skip
    have e5 : sspl B t i = true := hc5
    have e6 : t.1 = 1 := (of_decide_eq_true e5).1
    refine z_aload_n (pc := 10) C dX12_takesWord_10 0 rfl ?_
    refine z_cV0Q (pc := 11) mX12_goOn C [] dX12_takesWord_11 lX12_115 mtX12_goOn (tX12_goOnQ hS (by rw [e6]; decide)) (by assumption) rfl rfl (by decide) (Nat.le_of_ble_eq_true rfl) (Nat.zero_le _) (Nat.zero_le _) ?_
    rintro h1 ⟨⟨v1, hS1, hV1⟩, F1⟩
    refine z_iconst (pc := 14) C dX12_takesWord_14 (zb true) (by decide) ?_
    refine z_zret (pc := 15) C dX12_takesWord_15 rfl (by first | exact zb_nar _ | rfl) (Nat.zero_le _) (Nat.zero_le _) ⟨_, rfl, ?_, rfl⟩
    rw [e5]; exact ⟨rfl, ⟨v1, hS1, hV1⟩, F1⟩
  · skip
    have e5 : sspl B t i = false := hc5
    refine z_iconst (pc := 8) C dX12_takesWord_8 (zb false) (by decide) ?_
    refine z_zret (pc := 9) C dX12_takesWord_9 rfl (by first | exact zb_nar _ | rfl) (Nat.zero_le _) (Nat.zero_le _) ⟨_, rfl, ?_, rfl⟩
    rw [e5]; exact ⟨rfl, ⟨v, hS, rV.rf v⟩, rF.rf h⟩

/-- failed as it stands: with its fault and place, the rows' shapes kept -/
def MF (h : ZH) (v : Nat → Int32) (f p : Nat) : Prop := h 1063 = some (zO 8 (mfs v)) ∧ v 13 = zb true ∧ v 9 = nI f ∧ v 10 = nI p ∧ ∃ L : Nat → Nat, h 1065 = some (zI 8 L)
def rW (v v' : Nat → Int32) : Prop := (∀ i, i = 0 ∨ i = 2 ∨ i = 11 ∨ i = 14 ∨ 22 ≤ i → v' i = v i) ∧ (v' 13 = zb false → v 13 = zb false ∧ v' 9 = v 9)
theorem rW.rf (v : Nat → Int32) : rW v v := ⟨fun _ _ => rfl, fun z => ⟨z, rfl⟩⟩
theorem rW.tr {a b c : Nat → Int32} (h1 : rW a b) (h2 : rW b c) : rW a c := ⟨fun i hi => (h2.1 i hi).trans (h1.1 i hi), fun z => ⟨(h1.2 (h2.2 z).1).1, (h2.2 z).2.trans (h1.2 (h2.2 z).1).2⟩⟩
theorem rV.w {a b : Nat → Int32} (h : rV a b) : rW a b := ⟨fun i hi => h i (by omega), fun z => ⟨(h 13 (by decide)).symm.trans z, h 9 (by decide)⟩⟩
theorem MX.w (v : Nat → Int32) (f p : Nat) : rW v (MX v f p) := by
  refine ⟨fun i hi => ?_, fun z => by cases (show zb true = zb false from z)⟩
  show upd (upd (upd v 13 (zb true)) 9 (nI f)) 10 (nI p) i = v i
  unfold upd
  rw [if_neg (by omega), if_neg (by omega), if_neg (by omega)]
/-- a reading goes on at a token, or has failed -/
def MO (hh : ZH) (v' : Nat → Int32) (B : Nat → Nat) (n : Nat) (o : (Nat × Nat × Nat) ⊕ (Nat × Nat)) : Prop := match o with
  | .inl t => MS hh v' B n t ∧ v' 13 = zb false
  | .inr e => MF hh v' e.1 e.2
theorem MF.of {h : ZH} {v : Nat → Int32} {B : Nat → Nat} {n : Nat} {t : Nat × Nat × Nat} (hS : MS h v B n t) (f p : Nat) : MF (zup h 1063 (zO 8 (mfs (MX v f p)))) (MX v f p) f p := by
  obtain ⟨-, -, -, -, L, h5, -⟩ := hS
  exact ⟨zup_same _ _ _, rfl, rfl, rfl, L, (zup_ne (by decide)).trans h5⟩
def sMu (B : Nat → Nat) (n : Nat) (t : Nat × Nat × Nat) (i : Nat) : (Nat × Nat × Nat) ⊕ (Nat × Nat) := if sspl B t i then .inl (sNx B n t) else .inr (1, t.2.1)

set_option maxRecDepth 20000 in
set_option maxHeartbeats 1000000 in
theorem tX12_mustN {h : ZH} {v : Nat → Int32} {i : Nat} (hM : h 1063 = some (zO 8 (mfs v))) (hf : v 13 = zb true) : ZD mX12_must 6 [.ref 1063, .ref i] h none h := by
  intro n
  refine z_enter (lv := [(0, _), (1, _)]) (by decide) (Nat.le_of_ble_eq_true rfl) rfl (fun X C => ?_)
  refine z_aload_n (pc := 0) C dX12_must_0 0 rfl ?_
  refine z_getf (pc := 1) C dX12_must_1 fX12_94 (by assumption) (by first | rfl | assumption) ?_
  rw [hf]
  first | refine z_ifneB (pc := 4) C 24 dX12_must_4 (by decide) (fun hc4 => ?_) (fun hc4 => ?_) | refine z_ifneN (pc := 4) C 24 dX12_must_4 (by decide) (by omega) (fun hc4 => ?_) (fun hc4 => ?_) | refine z_if_ne (pc := 4) C 24 dX12_must_4 (by decide) (fun hc4 => ?_) (fun hc4 => ?_)
  · skip
    refine z_vret (pc := 24) C dX12_must_24 rfl (Nat.zero_le _) (Nat.zero_le _) ⟨?_, ?_, rfl⟩
    · rfl
    · rfl
  · cases hc4

set_option maxRecDepth 20000 in
set_option maxHeartbeats 1000000 in
theorem tX12_mustY {h : ZH} {v : Nat → Int32} {B : Nat → Nat} {n0 i : Nat} {t : Nat × Nat × Nat} (hS : MS h v B n0 t) (hf : v 13 = zb false) (hi : i < 20) : ZQ0 mX12_must 6 [.ref 1063, .ref i] h (fun hh => (∃ v', MO hh v' B n0 (sMu B n0 t i) ∧ rW v v') ∧ rF h hh) := by
  intro n
  have hM := hS.1
  refine z_enter (lv := [(0, _), (1, _)]) (by decide) (Nat.le_of_ble_eq_true rfl) rfl (fun X C => ?_)
  refine z_aload_n (pc := 0) C dX12_must_0 0 rfl ?_
  refine z_getf (pc := 1) C dX12_must_1 fX12_94 (by assumption) (by first | rfl | assumption) ?_
  rw [hf]
  first | refine z_ifneB (pc := 4) C 24 dX12_must_4 (by decide) (fun hc4 => ?_) (fun hc4 => ?_) | refine z_ifneN (pc := 4) C 24 dX12_must_4 (by decide) (by omega) (fun hc4 => ?_) (fun hc4 => ?_) | refine z_if_ne (pc := 4) C 24 dX12_must_4 (by decide) (fun hc4 => ?_) (fun hc4 => ?_)
  · cases hc4
  · skip
    refine z_aload_n (pc := 7) C dX12_must_7 0 rfl ?_
    refine z_aload_n (pc := 8) C dX12_must_8 1 rfl ?_
    refine z_cV1Q (pc := 9) mX12_takesWord C [_] dX12_must_9 lX12_118 mtX12_takesWord (tX12_takesWord hS hf hi) (by assumption) rfl rfl (by decide) (Nat.le_of_ble_eq_true rfl) (Nat.zero_le _) (Nat.zero_le _) ?_
    rintro _ h1 ⟨rfl, ⟨v1, hS1, hV1⟩, F1⟩
    first | refine z_ifneB (pc := 12) C 24 dX12_must_12 (by decide) (fun hc12 => ?_) (fun hc12 => ?_) | refine z_ifneN (pc := 12) C 24 dX12_must_12 (by decide) (by omega) (fun hc12 => ?_) (fun hc12 => ?_) | refine z_if_ne (pc := 12) C 24 dX12_must_12 (by decide) (fun hc12 => ?_) (fun hc12 => ?_)
    · skip
      rw [hc12] at hS1
      refine z_vret (pc := 24) C dX12_must_24 rfl (Nat.zero_le _) (Nat.zero_le _) ⟨rfl, ?_, rfl⟩
      unfold sMu; rw [hc12]; first | exact ⟨⟨v1, ⟨hS1, (hV1 13 (by decide)).trans hf⟩, hV1.w⟩, F1⟩ | exact ⟨⟨_, MF.of hS1 _ _, hV1.w.tr (MX.w _ _ _)⟩, F1.tr (rF.up _ _)⟩
    · skip
      rw [hc12] at hS1
      have hS1 : MS h1 v1 B n0 t := hS1
      refine z_aload_n (pc := 15) C dX12_must_15 0 rfl ?_
      refine z_iconst (pc := 16) C dX12_must_16 (nI 1) (by decide) ?_
      refine z_aload_n (pc := 17) C dX12_must_17 0 rfl ?_
      refine z_getf (pc := 18) C dX12_must_18 fX12_75 hS1.1 (by first | rfl | assumption) ?_
      have m2 : v1 4 = nI t.2.1 := by obtain ⟨-, -, -, -, _, -, -, m2, -⟩ := hS1; exact m2
      refine z_top m2 ?_
      refine z_cV0 (pc := 21) mX12_wrong C [_, _] dX12_must_21 lX12_121 mtX12_wrong (tX12_wrongY hS1.1 ((hV1 13 (by decide)).trans hf)) hS1.1 rfl rfl (by decide) (Nat.le_of_ble_eq_true rfl) (Nat.zero_le _) (Nat.zero_le _) ?_
      refine z_vret (pc := 24) C dX12_must_24 rfl (Nat.zero_le _) (Nat.zero_le _) ⟨rfl, ?_, rfl⟩
      unfold sMu; rw [hc12]; first | exact ⟨⟨v1, ⟨hS1, (hV1 13 (by decide)).trans hf⟩, hV1.w⟩, F1⟩ | exact ⟨⟨_, MF.of hS1 _ _, hV1.w.tr (MX.w _ _ _)⟩, F1.tr (rF.up _ _)⟩
