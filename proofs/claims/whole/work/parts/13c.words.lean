theorem tX7_adv {h : ZH} {len n0 : Nat} {B : Nat → Nat} {t : Nat × Nat × Nat} (hT : TpA h len n0 B t) (hk : sTk B n0 t) : ZQ0 mX7_advance 1 [.ref 1002] h (fun hh => TpA hh len n0 B (sNx B n0 t) ∧ ∀ a, a ≠ 1002 → hh a = h a) := by
  obtain ⟨k1, k2, k3, k4, k5, -⟩ := hk
  exact tX7_advance hT.2 hT.1 k3 k4 k5
theorem TpA.on {h hh : ZH} {len n0 : Nat} {B : Nat → Nat} {t : Nat × Nat × Nat} (hT : TpA h len n0 B t) (e : ∀ a, a = 1002 ∨ a = 1003 → hh a = h a) : TpA hh len n0 B t := ⟨(e _ (Or.inr rfl)).trans hT.1, (e _ (Or.inl rfl)).trans hT.2⟩
/-- what a step of the reader leaves, at an outcome -/
def cO (h hh : ZH) (nc s len n : Nat) (B : Nat → Nat) (o : TO) : Prop := match o with
  | .inl t => TpA hh len n B t ∧ ∀ a, a ≠ 1002 → hh a = h a
  | .inr e => hh = zup h 1001 (zO 2 (rdf (nI e.1) (nI e.2) nc s))

set_option maxRecDepth 20000 in
set_option maxHeartbeats 1000000 in
theorem tX4_kindWord {h : ZH} {i : Nat} (hi : i < 4) : ZD mX4_kindWord 0 [.int (nI i)] h (some (.ref (12 + i))) h := by
  intro n
  refine z_enter (lv := [(0, _)]) (by decide) (Nat.le_of_ble_eq_true rfl) rfl (fun X C => ?_)
  refine z_iload_n (pc := 0) C dX4_kindWord_0 0 rfl ?_
  rcases (show i = 0 ∨ i = 1 ∨ i = 2 ∨ i = 3 by omega) with rfl | rfl | rfl | rfl
  · skip
    refine z_tblIn (pc := 1) C 28 dX4_kindWord_1 (by decide) (by decide) rfl (by decide) ?_
    refine z_ldcS (pc := 28) (ix := 240) (i := 12) (tx := "sport") C dX4_kindWord_28 (show (RX4, 240, "sport", 12) ∈ zSR by simp [zSR]) ?_
    refine z_aret (pc := 30) C dX4_kindWord_30 rfl (Nat.zero_le _) (Nat.zero_le _) ⟨?_, ?_, rfl⟩
    · first | rfl | simp_all
    · rfl
  · skip
    refine z_tblIn (pc := 1) C 31 dX4_kindWord_1 (by decide) (by decide) rfl (by decide) ?_
    refine z_ldcS (pc := 31) (ix := 242) (i := 13) (tx := "keeper") C dX4_kindWord_31 (show (RX4, 242, "keeper", 13) ∈ zSR by simp [zSR]) ?_
    refine z_aret (pc := 33) C dX4_kindWord_33 rfl (Nat.zero_le _) (Nat.zero_le _) ⟨?_, ?_, rfl⟩
    · first | rfl | simp_all
    · rfl
  · skip
    refine z_tblIn (pc := 1) C 34 dX4_kindWord_1 (by decide) (by decide) rfl (by decide) ?_
    refine z_ldcS (pc := 34) (ix := 244) (i := 14) (tx := "poacher") C dX4_kindWord_34 (show (RX4, 244, "poacher", 14) ∈ zSR by simp [zSR]) ?_
    refine z_aret (pc := 36) C dX4_kindWord_36 rfl (Nat.zero_le _) (Nat.zero_le _) ⟨?_, ?_, rfl⟩
    · first | rfl | simp_all
    · rfl
  · skip
    refine z_tblOut (pc := 1) C 37 dX4_kindWord_1 (Or.inr (by decide)) (by decide) ?_
    refine z_ldcS (pc := 37) (ix := 246) (i := 15) (tx := "prince") C dX4_kindWord_37 (show (RX4, 246, "prince", 15) ∈ zSR by simp [zSR]) ?_
    refine z_aret (pc := 39) C dX4_kindWord_39 rfl (Nat.zero_le _) (Nat.zero_le _) ⟨?_, ?_, rfl⟩
    · first | rfl | simp_all
    · rfl

set_option maxRecDepth 20000 in
set_option maxHeartbeats 1000000 in
theorem tX4_lineWord {h : ZH} {i : Nat} (hi : i < 8) : ZD mX4_lineWord 0 [.int (nI i)] h (some (.ref i)) h := by
  intro n
  refine z_enter (lv := [(0, _)]) (by decide) (Nat.le_of_ble_eq_true rfl) rfl (fun X C => ?_)
  refine z_iload_n (pc := 0) C dX4_lineWord_0 0 rfl ?_
  rcases (show i = 0 ∨ i = 1 ∨ i = 2 ∨ i = 3 ∨ i = 4 ∨ i = 5 ∨ i = 6 ∨ i = 7 by omega) with rfl | rfl | rfl | rfl | rfl | rfl | rfl | rfl
  · skip
    refine z_tblIn (pc := 1) C 44 dX4_lineWord_1 (by decide) (by decide) rfl (by decide) ?_
    refine z_ldcS (pc := 44) (ix := 224) (i := 0) (tx := "forest") C dX4_lineWord_44 (show (RX4, 224, "forest", 0) ∈ zSR by simp [zSR]) ?_
    refine z_aret (pc := 46) C dX4_lineWord_46 rfl (Nat.zero_le _) (Nat.zero_le _) ⟨?_, ?_, rfl⟩
    · first | rfl | simp_all
    · rfl
  · skip
    refine z_tblIn (pc := 1) C 47 dX4_lineWord_1 (by decide) (by decide) rfl (by decide) ?_
    refine z_ldcS (pc := 47) (ix := 226) (i := 1) (tx := "place") C dX4_lineWord_47 (show (RX4, 226, "place", 1) ∈ zSR by simp [zSR]) ?_
    refine z_aret (pc := 49) C dX4_lineWord_49 rfl (Nat.zero_le _) (Nat.zero_le _) ⟨?_, ?_, rfl⟩
    · first | rfl | simp_all
    · rfl
  · skip
    refine z_tblIn (pc := 1) C 50 dX4_lineWord_1 (by decide) (by decide) rfl (by decide) ?_
    refine z_ldcS (pc := 50) (ix := 228) (i := 2) (tx := "path") C dX4_lineWord_50 (show (RX4, 228, "path", 2) ∈ zSR by simp [zSR]) ?_
    refine z_aret (pc := 52) C dX4_lineWord_52 rfl (Nat.zero_le _) (Nat.zero_le _) ⟨?_, ?_, rfl⟩
    · first | rfl | simp_all
    · rfl
  · skip
    refine z_tblIn (pc := 1) C 53 dX4_lineWord_1 (by decide) (by decide) rfl (by decide) ?_
    refine z_ldcS (pc := 53) (ix := 230) (i := 3) (tx := "man") C dX4_lineWord_53 (show (RX4, 230, "man", 3) ∈ zSR by simp [zSR]) ?_
    refine z_aret (pc := 55) C dX4_lineWord_55 rfl (Nat.zero_le _) (Nat.zero_le _) ⟨?_, ?_, rfl⟩
    · first | rfl | simp_all
    · rfl
  · skip
    refine z_tblIn (pc := 1) C 56 dX4_lineWord_1 (by decide) (by decide) rfl (by decide) ?_
    refine z_ldcS (pc := 56) (ix := 232) (i := 4) (tx := "kill") C dX4_lineWord_56 (show (RX4, 232, "kill", 4) ∈ zSR by simp [zSR]) ?_
    refine z_aret (pc := 58) C dX4_lineWord_58 rfl (Nat.zero_le _) (Nat.zero_le _) ⟨?_, ?_, rfl⟩
    · first | rfl | simp_all
    · rfl
  · skip
    refine z_tblIn (pc := 1) C 59 dX4_lineWord_1 (by decide) (by decide) rfl (by decide) ?_
    refine z_ldcS (pc := 59) (ix := 234) (i := 5) (tx := "stray") C dX4_lineWord_59 (show (RX4, 234, "stray", 5) ∈ zSR by simp [zSR]) ?_
    refine z_aret (pc := 61) C dX4_lineWord_61 rfl (Nat.zero_le _) (Nat.zero_le _) ⟨?_, ?_, rfl⟩
    · first | rfl | simp_all
    · rfl
  · skip
    refine z_tblIn (pc := 1) C 62 dX4_lineWord_1 (by decide) (by decide) rfl (by decide) ?_
    refine z_ldcS (pc := 62) (ix := 236) (i := 6) (tx := "walk") C dX4_lineWord_62 (show (RX4, 236, "walk", 6) ∈ zSR by simp [zSR]) ?_
    refine z_aret (pc := 64) C dX4_lineWord_64 rfl (Nat.zero_le _) (Nat.zero_le _) ⟨?_, ?_, rfl⟩
    · first | rfl | simp_all
    · rfl
  · skip
    refine z_tblOut (pc := 1) C 65 dX4_lineWord_1 (Or.inr (by decide)) (by decide) ?_
    refine z_ldcS (pc := 65) (ix := 238) (i := 7) (tx := "taken") C dX4_lineWord_65 (show (RX4, 238, "taken", 7) ∈ zSR by simp [zSR]) ?_
    refine z_aret (pc := 67) C dX4_lineWord_67 rfl (Nat.zero_le _) (Nat.zero_le _) ⟨?_, ?_, rfl⟩
    · first | rfl | simp_all
    · rfl

set_option maxRecDepth 20000 in
set_option maxHeartbeats 1000000 in
theorem tX4_readWord {h : ZH} {ff fa : Int32} {nc s len n0 : Nat} {B : Nat → Nat} {t : Nat × Nat × Nat} {i : Nat} (h1 : h 1001 = some (zO 2 (rdf ff fa nc s))) (hT : TpA h len n0 B t) (hk : sTk B n0 t) (hi : i < 20) : ZQ1 mX4_readWord 5 [.ref 1001, .ref i] h (fun w hh => w = .int (zb (sspl B t i)) ∧ cO h hh nc s len n0 B (sMu B n0 t i)) := by
  intro n
  have h2 := hT.2
  refine z_enter (lv := [(0, _), (1, _)]) (by decide) (Nat.le_of_ble_eq_true rfl) rfl (fun X C => ?_)
  refine z_aload_n (pc := 0) C dX4_readWord_0 0 rfl ?_
  refine z_getf (pc := 1) C dX4_readWord_1 fX4_12 h1 (by first | rfl | assumption) ?_
  refine z_aload_n (pc := 4) C dX4_readWord_4 1 rfl ?_
  refine z_cV1 (pc := 5) mX7_spells C [_] dX4_readWord_5 lX4_157 mtX7_spells (tX7_spells hi hT hk) h2 rfl rfl (by decide) (Nat.le_of_ble_eq_true rfl) (Nat.zero_le _) (Nat.zero_le _) ?_
  first | refine z_ifneB (pc := 8) C 17 dX4_readWord_8 (by decide) (fun hc8 => ?_) (fun hc8 => ?_) | refine z_ifneN (pc := 8) C 17 dX4_readWord_8 (by decide) (by omega) (fun hc8 => ?_) (fun hc8 => ?_) | refine z_if_ne (pc := 8) C 17 dX4_readWord_8 (by decide) (fun hc8 => ?_) (fun hc8 => ?_)
  · skip
    have e8 : sspl B t i = true := hc8
    refine z_aload_n (pc := 17) C dX4_readWord_17 0 rfl ?_
    refine z_getf (pc := 18) C dX4_readWord_18 fX4_12 h1 (by first | rfl | assumption) ?_
    refine z_cV0Q (pc := 21) mX7_advance C [] dX4_readWord_21 lX4_93 mtX7_advance (tX7_adv hT hk) h2 rfl rfl (by decide) (Nat.le_of_ble_eq_true rfl) (Nat.zero_le _) (Nat.zero_le _) ?_
    rintro h3 ⟨hT3, F3⟩
    refine z_iconst (pc := 24) C dX4_readWord_24 (zb true) (by decide) ?_
    refine z_zret (pc := 25) C dX4_readWord_25 rfl (by first | exact zb_nar _ | rfl) (Nat.zero_le _) (Nat.zero_le _) ⟨_, rfl, ?_, rfl⟩
    unfold sMu; rw [e8]; exact ⟨rfl, hT3, F3⟩
  · skip
    have e8 : sspl B t i = false := hc8
    refine z_aload_n (pc := 11) C dX4_readWord_11 0 rfl ?_
    refine z_iconst (pc := 12) C dX4_readWord_12 (nI 1) (by decide) ?_
    refine z_cV1 (pc := 13) mX4_fail C [_] dX4_readWord_13 lX4_90 mtX4_fail (tX4_fail h1 hT) h1 rfl rfl (by decide) (Nat.le_of_ble_eq_true rfl) (Nat.zero_le _) (Nat.zero_le _) ?_
    refine z_zret (pc := 16) C dX4_readWord_16 rfl (by first | exact zb_nar _ | rfl) (Nat.zero_le _) (Nat.zero_le _) ⟨_, rfl, ?_, rfl⟩
    unfold sMu; rw [e8]; exact ⟨rfl, rfl⟩

def sWv (B : Nat → Nat) (u : Nat) (t : Nat × Nat × Nat) : Int32 := if t.1 = 2 then (if sVal B t ≤ u then nI (sVal B t) else -1) else -1

set_option maxRecDepth 20000 in
set_option maxHeartbeats 1000000 in
theorem tX4_readWhole {h : ZH} {ff fa : Int32} {nc s len n0 : Nat} {B : Nat → Nat} {t : Nat × Nat × Nat} {u : Nat} (h1 : h 1001 = some (zO 2 (rdf ff fa nc s))) (hT : TpA h len n0 B t) (hk : sTk B n0 t) (hu : u < 1000) : ZQ1 mX4_readWhole 2 [.ref 1001, .int (nI u)] h (fun w hh => w = .int (sWv B u t) ∧ cO h hh nc s len n0 B (sWh B n0 u t)) := by
  intro n
  have h2 := hT.2
  have et : t.1 ≤ 4 := hk.1
  refine z_enter (lv := [(0, _), (1, _)]) (by decide) (Nat.le_of_ble_eq_true rfl) rfl (fun X C => ?_)
  refine z_aload_n (pc := 0) C dX4_readWhole_0 0 rfl ?_
  refine z_getf (pc := 1) C dX4_readWhole_1 fX4_12 h1 (by first | rfl | assumption) ?_
  refine z_getf (pc := 4) C dX4_readWhole_4 fX4_87 h2 (by first | rfl | assumption) ?_
  refine z_iconst (pc := 7) C dX4_readWhole_7 (nI 2) (by decide) ?_
  first | refine z_icmpeqN (pc := 8) C 17 dX4_readWhole_8 (by decide) (by omega) (by omega) (fun hc8 => ?_) (fun hc8 => ?_) | refine z_icmp_eq (pc := 8) C 17 dX4_readWhole_8 (by decide) (fun hc8 => ?_) (fun hc8 => ?_)
  · skip
    have hv := sVal_lt hk hc8
    refine z_aload_n (pc := 17) C dX4_readWhole_17 0 rfl ?_
    refine z_getf (pc := 18) C dX4_readWhole_18 fX4_12 h1 (by first | rfl | assumption) ?_
    refine z_getf (pc := 21) C dX4_readWhole_21 fX4_214 h2 (by first | rfl | assumption) ?_
    refine z_top (show _ = nI (sVal B t) from rfl) ?_
    refine z_iload_n (pc := 24) C dX4_readWhole_24 1 rfl ?_
    first | refine z_icmpleN (pc := 25) C 34 dX4_readWhole_25 (by decide) (by omega) (by omega) (fun hc25 => ?_) (fun hc25 => ?_) | refine z_icmp_le (pc := 25) C 34 dX4_readWhole_25 (by decide) (fun hc25 => ?_) (fun hc25 => ?_)
    · skip
      refine z_aload_n (pc := 34) C dX4_readWhole_34 0 rfl ?_
      refine z_getf (pc := 35) C dX4_readWhole_35 fX4_12 h1 (by first | rfl | assumption) ?_
      refine z_getf (pc := 38) C dX4_readWhole_38 fX4_214 h2 (by first | rfl | assumption) ?_
      refine z_top (show _ = nI (sVal B t) from rfl) ?_
      refine z_istore_n (pc := 41) (lv' := [(2, _), (0, _), (1, _)]) C dX4_readWhole_41 (by decide) rfl ?_
      refine z_aload_n (pc := 42) C dX4_readWhole_42 1 rfl ?_
      refine z_getf (pc := 43) C dX4_readWhole_43 fX4_12 h1 (by first | rfl | assumption) ?_
      refine z_cV0Q (pc := 46) mX7_advance C [] dX4_readWhole_46 lX4_93 mtX7_advance (tX7_adv hT hk) h2 rfl rfl (by decide) (Nat.le_of_ble_eq_true rfl) (Nat.zero_le _) (Nat.zero_le _) ?_
      rintro h3 ⟨hT3, F3⟩
      refine z_iload_n (pc := 49) C dX4_readWhole_49 0 rfl ?_
      refine z_iret (pc := 50) C dX4_readWhole_50 rfl (Nat.zero_le _) (Nat.zero_le _) ⟨_, rfl, ?_, rfl⟩
      unfold sWv sWh; rw [if_pos hc8, if_pos hc8, if_pos hc25, if_pos hc25]; exact ⟨rfl, hT3, F3⟩
    · skip
      refine z_aload_n (pc := 28) C dX4_readWhole_28 0 rfl ?_
      refine z_iconst (pc := 29) C dX4_readWhole_29 (nI 4) (by decide) ?_
      refine z_cV1 (pc := 30) mX4_failed C [_] dX4_readWhole_30 lX4_102 mtX4_failed (tX4_failed h1 hT) h1 rfl rfl (by decide) (Nat.le_of_ble_eq_true rfl) (Nat.zero_le _) (Nat.zero_le _) ?_
      refine z_iret (pc := 33) C dX4_readWhole_33 rfl (Nat.zero_le _) (Nat.zero_le _) ⟨_, rfl, ?_, rfl⟩
      unfold sWv sWh; rw [if_pos hc8, if_pos hc8, if_neg (by omega), if_neg (by omega)]; exact ⟨rfl, rfl⟩
  · skip
    refine z_aload_n (pc := 11) C dX4_readWhole_11 0 rfl ?_
    refine z_iconst (pc := 12) C dX4_readWhole_12 (nI 1) (by decide) ?_
    refine z_cV1 (pc := 13) mX4_failed C [_] dX4_readWhole_13 lX4_102 mtX4_failed (tX4_failed h1 hT) h1 rfl rfl (by decide) (Nat.le_of_ble_eq_true rfl) (Nat.zero_le _) (Nat.zero_le _) ?_
    refine z_iret (pc := 16) C dX4_readWhole_16 rfl (Nat.zero_le _) (Nat.zero_le _) ⟨_, rfl, ?_, rfl⟩
    unfold sWv sWh; rw [if_neg hc8, if_neg hc8]; exact ⟨rfl, rfl⟩

def sKd1 (B : Nat → Nat) (t : Nat × Nat × Nat) : Option Nat := sfst (fun i => sspl B t (12 + i)) 4 0
theorem sKd1_eq (B : Nat → Nat) (t : Nat × Nat × Nat) : sKd1 B t = sKd B (.inl t) := by
  unfold sKd1 sKd
  simp only [sfst]
  rfl

set_option maxRecDepth 20000 in
set_option maxHeartbeats 1000000 in
theorem tX4_kindOfWord {h : ZH} {ff fa : Int32} {nc s len n0 : Nat} {B : Nat → Nat} {t : Nat × Nat × Nat} (h1 : h 1001 = some (zO 2 (rdf ff fa nc s))) (hT : TpA h len n0 B t) (hk : sTk B n0 t) : ZD mX4_kindOfWord 5 [.ref 1001] h (some (.int (zm (sKd1 B t)))) h := by
  intro n
  have h2 := hT.2
  refine z_enter (lv := [(0, _)]) (by decide) (Nat.le_of_ble_eq_true rfl) rfl (fun X C => ?_)
  refine z_iconst (pc := 0) C dX4_kindOfWord_0 (nI 0) (by decide) ?_
  refine z_istore_n (pc := 1) (lv' := [(1, _), (0, _)]) C dX4_kindOfWord_1 (by decide) rfl ?_
  refine z_sub (lv' := [(0, _), (1, _)]) [1, 0] rfl ?_
  have lp2 : ∀ (f : Nat) (x : Nat), (x + f = 4 ∧ sKd1 B t = sfst (fun i => sspl B t (12 + i)) f x) → Zc X mX4_kindOfWord (zEnd X (fun r hh n' => r = (some (.int (zm (sKd1 B t)))) ∧ hh = h ∧ n' = n) 0 0) 2 [(0, .ref 1001), (1, .int (nI x))] [] h n 0 0 := by
    intro f
    induction f using Nat.strongRecOn with
    | _ f ih =>
      intro x hk1
      obtain ⟨hk1, he1⟩ := hk1
      refine z_iload_n (pc := 2) C dX4_kindOfWord_2 1 rfl ?_
      refine z_iconst (pc := 3) C dX4_kindOfWord_3 (nI 4) (by decide) ?_
      first | refine z_icmpgeN (pc := 4) C 29 dX4_kindOfWord_4 (by decide) (by omega) (by omega) (fun hc4 => ?_) (fun hc4 => ?_) | refine z_icmp_ge (pc := 4) C 29 dX4_kindOfWord_4 (by decide) (fun hc4 => ?_) (fun hc4 => ?_)
      · skip
        refine z_iconst (pc := 29) C dX4_kindOfWord_29 (zm none) (by decide) ?_
        refine z_iret (pc := 30) C dX4_kindOfWord_30 rfl (Nat.zero_le _) (Nat.zero_le _) ⟨?_, ?_, rfl⟩
        · rw [he1, show f = 0 by omega]; rfl
        · rfl
      · skip
        refine z_aload_n (pc := 7) C dX4_kindOfWord_7 0 rfl ?_
        refine z_getf (pc := 8) C dX4_kindOfWord_8 fX4_12 h1 (by first | rfl | assumption) ?_
        refine z_iload_n (pc := 11) C dX4_kindOfWord_11 1 rfl ?_
        refine z_cS1 (pc := 12) mX4_kindWord C [_] dX4_kindOfWord_12 lX4_221 mtX4_kindWord (tX4_kindWord (by omega)) rfl rfl (by decide) (Nat.le_of_ble_eq_true rfl) (Nat.zero_le _) (Nat.zero_le _) ?_
        refine z_cV1 (pc := 15) mX7_spells C [_] dX4_kindOfWord_15 lX4_157 mtX7_spells (tX7_spells (i := 12 + x) (by omega) hT hk) h2 rfl rfl (by decide) (Nat.le_of_ble_eq_true rfl) (Nat.zero_le _) (Nat.zero_le _) ?_
        first | refine z_ifeqB (pc := 18) C 23 dX4_kindOfWord_18 (by decide) (fun hc18 => ?_) (fun hc18 => ?_) | refine z_ifeqN (pc := 18) C 23 dX4_kindOfWord_18 (by decide) (by omega) (fun hc18 => ?_) (fun hc18 => ?_) | refine z_if_eq (pc := 18) C 23 dX4_kindOfWord_18 (by decide) (fun hc18 => ?_) (fun hc18 => ?_)
        · skip
          first | refine z_iincN (pc := 23) (lv' := [(1, _), (0, _)]) C 1 dX4_kindOfWord_23 1 rfl (by decide) (by decide) rfl ?_ | refine z_iinc (pc := 23) (lv' := [(1, _), (0, _)]) C dX4_kindOfWord_23 1 rfl _ rfl (by decide) rfl ?_
          refine z_goto (pc := 26) C 2 dX4_kindOfWord_26 (by decide) ?_
          refine z_sub (lv' := [(0, _), (1, _)]) [1, 0] rfl ?_
          exact ih (f - 1) (by omega) (x + 1) ⟨by omega, by rw [he1]; obtain ⟨f, rfl⟩ : ∃ y, f = y + 1 := ⟨f - 1, by omega⟩; rw [sfst, if_neg (by rw [show sspl B t (12 + x) = false from hc18]; decide)]; rfl⟩
        · skip
          refine z_iload_n (pc := 21) C dX4_kindOfWord_21 1 rfl ?_
          refine z_iret (pc := 22) C dX4_kindOfWord_22 rfl (Nat.zero_le _) (Nat.zero_le _) ⟨?_, ?_, rfl⟩
          · rw [he1]; obtain ⟨f, rfl⟩ : ∃ y, f = y + 1 := ⟨f - 1, by omega⟩; rw [sfst, if_pos (show sspl B t (12 + x) = true from hc18)]; rfl
          · rfl
  exact lp2 4 0 ⟨rfl, rfl⟩

def cNw (h hh : ZH) (ff fa : Int32) (c so nu : Nat → Nat) (nc s len n q k : Nat) (R B : Nat → Nat) (t : Nat × Nat × Nat) : Prop := match sNw R B n t with
  | .inl t' => TpA hh len n B t' ∧ NT hh R (nup c nc (wCd B t)) (nup so nc q) (nup nu nc k) ∧ hh 1001 = some (zO 2 (rdf ff fa (nc + 1) s)) ∧ ∀ a, a < 1001 ∨ 1006 < a → hh a = h a
  | .inr e => hh = zup h 1001 (zO 2 (rdf (nI e.1) (nI e.2) nc s))

set_option maxRecDepth 20000 in
set_option maxHeartbeats 1000000 in
theorem tX4_readNewName {h : ZH} {ff fa : Int32} {nc s len n0 : Nat} {B : Nat → Nat} {t : Nat × Nat × Nat} {R c so nu ix : Nat → Nat} {q k : Nat} (h1 : h 1001 = some (zO 2 (rdf ff fa nc s))) (hT : TpA h len n0 B t) (hN4 : NT h R c so nu) (hNT : NTp R c so nu ix nc) (hNm : rNm R) (hn : nc ≤ 28) (hk : sTk B n0 t) (hn2 : nc < 28) : ZQ1 mX4_readNewName 3 [.ref 1001, .int (nI q), .int (nI k)] h (fun w hh => w = .int (zb (!oF (sNw R B n0 t))) ∧ cNw h hh ff fa c so nu nc s len n0 q k R B t) := by
  intro n
  have h2 := hT.2
  have hS1 := fun hw => sEn_ok hNT hNm hk hw
  have et : t.1 ≤ 4 := hk.1
  refine z_enter (lv := [(0, _), (1, _), (2, _)]) (by decide) (Nat.le_of_ble_eq_true rfl) rfl (fun X C => ?_)
  refine z_aload_n (pc := 0) C dX4_readNewName_0 0 rfl ?_
  refine z_cV1 (pc := 1) mX4_entryOfWord C [] dX4_readNewName_1 lX4_99 mtX4_entryOfWord (tX4_entryOfWord h1 hT hN4.1 hn hk (hNT.c63 hNm)) h1 rfl rfl (by decide) (Nat.le_of_ble_eq_true rfl) (Nat.zero_le _) (Nat.zero_le _) ?_
  rcases hE : sEn c nc B t with _ | i
  · skip
    first | refine z_top (show zm (some i) = nI i from rfl) ?_ | skip
    try have hi0 := sEn_lt hE
    refine z_istore_n (pc := 4) (lv' := [(3, _), (0, _), (1, _), (2, _)]) C dX4_readNewName_4 (by decide) rfl ?_
    refine z_aload_n (pc := 5) C dX4_readNewName_5 1 rfl ?_
    refine z_getf (pc := 6) C dX4_readNewName_6 fX4_12 h1 (by first | rfl | assumption) ?_
    refine z_getf (pc := 9) C dX4_readNewName_9 fX4_87 h2 (by first | rfl | assumption) ?_
    refine z_iconst (pc := 12) C dX4_readNewName_12 (nI 1) (by decide) ?_
    first | refine z_icmpneN (pc := 13) C 26 dX4_readNewName_13 (by decide) (by omega) (by omega) (fun hc13 => ?_) (fun hc13 => ?_) | refine z_icmp_ne (pc := 13) C 26 dX4_readNewName_13 (by decide) (fun hc13 => ?_) (fun hc13 => ?_)
    · skip
      have eN : sNw R B n0 t = .inr (1, t.2.1) := by unfold sNw; rw [if_neg (by unfold sIn; rw [decide_eq_false hc13]; simp)]
      refine z_aload_n (pc := 26) C dX4_readNewName_26 1 rfl ?_
      refine z_iconst (pc := 27) C dX4_readNewName_27 (nI 1) (by decide) ?_
      refine z_cV1 (pc := 28) mX4_fail C [_] dX4_readNewName_28 lX4_90 mtX4_fail (tX4_fail h1 hT) h1 rfl rfl (by decide) (Nat.le_of_ble_eq_true rfl) (Nat.zero_le _) (Nat.zero_le _) ?_
      refine z_zret (pc := 31) C dX4_readNewName_31 rfl (by first | exact zb_nar _ | rfl) (Nat.zero_le _) (Nat.zero_le _) ⟨_, rfl, ?_, rfl⟩
      unfold cNw; rw [eN]; exact ⟨rfl, rfl⟩
    · skip
      obtain ⟨S1, S2, S3⟩ := hS1 hc13
      refine z_iload_n (pc := 16) C dX4_readNewName_16 0 rfl ?_
      first | refine z_ifltO (pc := 17) C 32 dX4_readNewName_17 (by decide) (by assumption) (fun hc17 => ?_) (fun hc17 => ?_) | refine z_ifltN (pc := 17) C 32 dX4_readNewName_17 (by decide) (by omega) (fun hc17 => ?_) (fun hc17 => ?_) | refine z_if_lt (pc := 17) C 32 dX4_readNewName_17 (by decide) (fun hc17 => ?_) (fun hc17 => ?_)
      · skip
        refine z_iload_n (pc := 32) C dX4_readNewName_32 0 rfl ?_
        first | refine z_ifgeO (pc := 33) C 45 dX4_readNewName_33 (by decide) (by assumption) (fun hc33 => ?_) (fun hc33 => ?_) | refine z_ifgeN (pc := 33) C 45 dX4_readNewName_33 (by decide) (by omega) (fun hc33 => ?_) (fun hc33 => ?_) | refine z_if_ge (pc := 33) C 45 dX4_readNewName_33 (by decide) (fun hc33 => ?_) (fun hc33 => ?_)
        · exact absurd hc33 (by decide)
        · skip
          obtain ⟨j4, j5⟩ := S2 hE
          have eN : sNw R B n0 t = .inl (sNx B n0 t) := by unfold sNw; rw [if_pos j4, if_pos j5]
          refine z_aload_n (pc := 36) C dX4_readNewName_36 1 rfl ?_
          refine z_getf (pc := 37) C dX4_readNewName_37 fX4_63 h1 (by first | rfl | assumption) ?_
          refine z_bipush (pc := 40) C dX4_readNewName_40 (nI 28) (by decide) ?_
          first | refine z_icmpltN (pc := 42) C 51 dX4_readNewName_42 (by decide) (by omega) (by omega) (fun hc42 => ?_) (fun hc42 => ?_) | refine z_icmp_lt (pc := 42) C 51 dX4_readNewName_42 (by decide) (fun hc42 => ?_) (fun hc42 => ?_)
          · skip
            refine z_aload_n (pc := 51) C dX4_readNewName_51 1 rfl ?_
            refine z_getf (pc := 52) C dX4_readNewName_52 fX4_18 h1 (by first | rfl | assumption) ?_
            refine z_aload_n (pc := 55) C dX4_readNewName_55 1 rfl ?_
            refine z_getf (pc := 56) C dX4_readNewName_56 fX4_63 h1 (by first | rfl | assumption) ?_
            refine z_aload_n (pc := 59) C dX4_readNewName_59 1 rfl ?_
            refine z_getf (pc := 60) C dX4_readNewName_60 fX4_12 h1 (by first | rfl | assumption) ?_
            refine z_getf (pc := 63) C dX4_readNewName_63 fX4_217 h2 (by first | rfl | assumption) ?_
            refine z_topl (show _ = lN (wCd B t) from rfl) ?_
            refine z_lastN (pc := 66) C dX4_readNewName_66 hN4.1 (by omega) (by decide) ?_
            refine z_hp (show _ = zup h 1004 (zL 28 (fun i => lN (nup c nc (wCd B t) i))) from by rw [nup_lN]) ?_
            have g1 := (zup_ne (h := h) (a := 1004) (b := 1001) (c := zL 28 (fun i => lN (nup c nc (wCd B t) i))) (by decide)).trans h1
            have g5 := (zup_ne (h := h) (a := 1004) (b := 1005) (c := zL 28 (fun i => lN (nup c nc (wCd B t) i))) (by decide)).trans hN4.2.1
            generalize eg : zup h 1004 (zL 28 (fun i => lN (nup c nc (wCd B t) i))) = g at g1 g5
            refine z_aload_n (pc := 67) C dX4_readNewName_67 1 rfl ?_
            refine z_getf (pc := 68) C dX4_readNewName_68 fX4_22 g1 (by first | rfl | assumption) ?_
            refine z_aload_n (pc := 71) C dX4_readNewName_71 1 rfl ?_
            refine z_getf (pc := 72) C dX4_readNewName_72 fX4_63 g1 (by first | rfl | assumption) ?_
            refine z_iload_n (pc := 75) C dX4_readNewName_75 2 rfl ?_
            first | refine z_iastN (pc := 76) C dX4_readNewName_76 g5 (by omega) (by decide) ?_ | refine z_iastI (pc := 76) C dX4_readNewName_76 g5 (by omega) (by decide) ?_
            have k1 := (zup_ne (h := g) (a := 1005) (b := 1001) (c := zI 28 (nup so nc q)) (by decide)).trans g1
            have k6 : zup g 1005 (zI 28 (nup so nc q)) 1006 = some (zI 28 nu) := (zup_ne (by decide)).trans (by rw [← eg]; exact (zup_ne (by decide)).trans hN4.2.2)
            generalize ek : zup g 1005 (zI 28 (nup so nc q)) = kk at k1 k6
            refine z_aload_n (pc := 77) C dX4_readNewName_77 1 rfl ?_
            refine z_getf (pc := 78) C dX4_readNewName_78 fX4_26 k1 (by first | rfl | assumption) ?_
            refine z_aload_n (pc := 81) C dX4_readNewName_81 1 rfl ?_
            refine z_getf (pc := 82) C dX4_readNewName_82 fX4_63 k1 (by first | rfl | assumption) ?_
            refine z_iload_n (pc := 85) C dX4_readNewName_85 3 rfl ?_
            first | refine z_iastN (pc := 86) C dX4_readNewName_86 k6 (by omega) (by decide) ?_ | refine z_iastI (pc := 86) C dX4_readNewName_86 k6 (by omega) (by decide) ?_
            have l1 := (zup_ne (h := kk) (a := 1006) (b := 1001) (c := zI 28 (nup nu nc k)) (by decide)).trans k1
            generalize el : zup kk 1006 (zI 28 (nup nu nc k)) = ll at l1
            refine z_aload_n (pc := 87) C dX4_readNewName_87 1 rfl ?_
            refine z_dup (pc := 88) C dX4_readNewName_88 rfl ?_
            refine z_getf (pc := 89) C dX4_readNewName_89 fX4_63 l1 (by first | rfl | assumption) ?_
            refine z_iconst (pc := 92) C dX4_readNewName_92 (nI 1) (by decide) ?_
            first | refine z_iaddN (pc := 93) C dX4_readNewName_93 ?_ | refine z_iadd (pc := 93) C dX4_readNewName_93 ?_
            refine z_putf (pc := 94) (fs' := [_, _, _, _, _, _, _, _]) C dX4_readNewName_94 gX4_63 l1 (fun _ => ⟨rfl, rfl⟩) (by exact Nat.le_of_ble_eq_true rfl) (by rfl) ?_
            generalize em : zup ll 1001 (zO 2 _) = mm
            have m1 : mm 1001 = some (zO 2 (rdf ff fa (nc + 1) s)) := by rw [← em]; exact zup_same _ _ _
            have Gm : ∀ a, a < 1001 ∨ 1006 < a ∨ a = 1002 ∨ a = 1003 → mm a = h a := fun a q => by rw [← em, zup_ne (by omega), ← el, zup_ne (by omega), ← ek, zup_ne (by omega), ← eg, zup_ne (by omega)]
            have hT4 : TpA mm len n0 B t := hT.on (fun a q => Gm a (by omega))
            have m2 := hT4.2
            have mN : NT mm R (nup c nc (wCd B t)) (nup so nc q) (nup nu nc k) := ⟨by rw [← em, zup_ne (by decide), ← el, zup_ne (by decide), ← ek, zup_ne (by decide), ← eg]; exact zup_same _ _ _, by rw [← em, zup_ne (by decide), ← el, zup_ne (by decide), ← ek]; exact zup_same _ _ _, by rw [← em, zup_ne (by decide), ← el]; exact zup_same _ _ _⟩
            refine z_aload_n (pc := 97) C dX4_readNewName_97 1 rfl ?_
            refine z_getf (pc := 98) C dX4_readNewName_98 fX4_12 m1 (by first | rfl | assumption) ?_
            refine z_cV0Q (pc := 101) mX7_advance C [] dX4_readNewName_101 lX4_93 mtX7_advance (tX7_adv hT4 hk) m2 rfl rfl (by decide) (Nat.le_of_ble_eq_true rfl) (Nat.zero_le _) (Nat.zero_le _) ?_
            rintro h9 ⟨hT9, F9⟩
            refine z_iconst (pc := 104) C dX4_readNewName_104 (zb true) (by decide) ?_
            refine z_zret (pc := 105) C dX4_readNewName_105 rfl (by first | exact zb_nar _ | rfl) (Nat.zero_le _) (Nat.zero_le _) ⟨_, rfl, ?_, rfl⟩
            unfold cNw; rw [eN]; exact ⟨rfl, hT9, ⟨(F9 _ (by decide)).trans mN.1, (F9 _ (by decide)).trans mN.2.1, (F9 _ (by decide)).trans mN.2.2⟩, (F9 _ (by decide)).trans m1, fun a q => (F9 a (by omega)).trans (Gm a (by omega))⟩
          · omega
      · exact absurd (by decide) hc17
  · skip
    first | refine z_top (show zm (some i) = nI i from rfl) ?_ | skip
    try have hi0 := sEn_lt hE
    refine z_istore_n (pc := 4) (lv' := [(3, _), (0, _), (1, _), (2, _)]) C dX4_readNewName_4 (by decide) rfl ?_
    refine z_aload_n (pc := 5) C dX4_readNewName_5 1 rfl ?_
    refine z_getf (pc := 6) C dX4_readNewName_6 fX4_12 h1 (by first | rfl | assumption) ?_
    refine z_getf (pc := 9) C dX4_readNewName_9 fX4_87 h2 (by first | rfl | assumption) ?_
    refine z_iconst (pc := 12) C dX4_readNewName_12 (nI 1) (by decide) ?_
    first | refine z_icmpneN (pc := 13) C 26 dX4_readNewName_13 (by decide) (by omega) (by omega) (fun hc13 => ?_) (fun hc13 => ?_) | refine z_icmp_ne (pc := 13) C 26 dX4_readNewName_13 (by decide) (fun hc13 => ?_) (fun hc13 => ?_)
    · skip
      have eN : sNw R B n0 t = .inr (1, t.2.1) := by unfold sNw; rw [if_neg (by unfold sIn; rw [decide_eq_false hc13]; simp)]
      refine z_aload_n (pc := 26) C dX4_readNewName_26 1 rfl ?_
      refine z_iconst (pc := 27) C dX4_readNewName_27 (nI 1) (by decide) ?_
      refine z_cV1 (pc := 28) mX4_fail C [_] dX4_readNewName_28 lX4_90 mtX4_fail (tX4_fail h1 hT) h1 rfl rfl (by decide) (Nat.le_of_ble_eq_true rfl) (Nat.zero_le _) (Nat.zero_le _) ?_
      refine z_zret (pc := 31) C dX4_readNewName_31 rfl (by first | exact zb_nar _ | rfl) (Nat.zero_le _) (Nat.zero_le _) ⟨_, rfl, ?_, rfl⟩
      unfold cNw; rw [eN]; exact ⟨rfl, rfl⟩
    · skip
      obtain ⟨S1, S2, S3⟩ := hS1 hc13
      refine z_iload_n (pc := 16) C dX4_readNewName_16 0 rfl ?_
      first | refine z_ifltO (pc := 17) C 32 dX4_readNewName_17 (by decide) (by assumption) (fun hc17 => ?_) (fun hc17 => ?_) | refine z_ifltN (pc := 17) C 32 dX4_readNewName_17 (by decide) (by omega) (fun hc17 => ?_) (fun hc17 => ?_) | refine z_if_lt (pc := 17) C 32 dX4_readNewName_17 (by decide) (fun hc17 => ?_) (fun hc17 => ?_)
      · exact hc17.elim
      · skip
        refine z_iload_n (pc := 20) C dX4_readNewName_20 0 rfl ?_
        refine z_bipush (pc := 21) C dX4_readNewName_21 (nI 8) (by decide) ?_
        first | refine z_icmpgeN (pc := 23) C 32 dX4_readNewName_23 (by decide) (by omega) (by omega) (fun hc23 => ?_) (fun hc23 => ?_) | refine z_icmp_ge (pc := 23) C 32 dX4_readNewName_23 (by decide) (fun hc23 => ?_) (fun hc23 => ?_)
        · skip
          obtain ⟨j4, j5⟩ := (S1 i hE).2.2 (by omega)
          have eN : sNw R B n0 t = .inr (3, t.2.1) := by unfold sNw; rw [if_pos j4, if_neg (by rw [j5]; simp)]
          refine z_iload_n (pc := 32) C dX4_readNewName_32 0 rfl ?_
          first | refine z_ifgeO (pc := 33) C 45 dX4_readNewName_33 (by decide) (by assumption) (fun hc33 => ?_) (fun hc33 => ?_) | refine z_ifgeN (pc := 33) C 45 dX4_readNewName_33 (by decide) (by omega) (fun hc33 => ?_) (fun hc33 => ?_) | refine z_if_ge (pc := 33) C 45 dX4_readNewName_33 (by decide) (fun hc33 => ?_) (fun hc33 => ?_)
          · skip
            refine z_aload_n (pc := 45) C dX4_readNewName_45 1 rfl ?_
            refine z_iconst (pc := 46) C dX4_readNewName_46 (nI 3) (by decide) ?_
            refine z_cV1 (pc := 47) mX4_fail C [_] dX4_readNewName_47 lX4_90 mtX4_fail (tX4_fail h1 hT) h1 rfl rfl (by decide) (Nat.le_of_ble_eq_true rfl) (Nat.zero_le _) (Nat.zero_le _) ?_
            refine z_zret (pc := 50) C dX4_readNewName_50 rfl (by first | exact zb_nar _ | rfl) (Nat.zero_le _) (Nat.zero_le _) ⟨_, rfl, ?_, rfl⟩
            unfold cNw; rw [eN]; exact ⟨rfl, rfl⟩
          · exact hc33.elim
        · skip
          have eN : sNw R B n0 t = .inr (1, t.2.1) := by unfold sNw; rw [if_neg (by unfold sIn; rw [kw_ky.mpr ⟨i, by omega, (S1 i hE).2.1 (by omega)⟩]; simp)]
          refine z_aload_n (pc := 26) C dX4_readNewName_26 1 rfl ?_
          refine z_iconst (pc := 27) C dX4_readNewName_27 (nI 1) (by decide) ?_
          refine z_cV1 (pc := 28) mX4_fail C [_] dX4_readNewName_28 lX4_90 mtX4_fail (tX4_fail h1 hT) h1 rfl rfl (by decide) (Nat.le_of_ble_eq_true rfl) (Nat.zero_le _) (Nat.zero_le _) ?_
          refine z_zret (pc := 31) C dX4_readNewName_31 rfl (by first | exact zb_nar _ | rfl) (Nat.zero_le _) (Nat.zero_le _) ⟨_, rfl, ?_, rfl⟩
          unfold cNw; rw [eN]; exact ⟨rfl, rfl⟩
