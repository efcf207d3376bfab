theorem z_ext {X : ZX} {M : ZM} {Q : State → Prop} {pc : Nat} {lv : List (Nat × Value)} {st : List Value} {h : ZH} {n cs sl : Nat} {N a : Nat} {f g : Nat → Nat} (ha : h a = some (zI N f)) (e : ∀ i, i < N → f i = g i) (K : Zc X M Q pc lv st (zup h a (zI N g)) n cs sl) : Zc X M Q pc lv st h n cs sl := by
  obtain ⟨p, l, e0, R, s, m, args, below, meth, c, G⟩ := X
  intro H ls locs hh hS hl
  refine K H ls locs ⟨hh.1, hh.2.1, fun b c hb => ?_⟩ hS hl
  by_cases q : b = a
  · subst q
    rw [zup_same] at hb
    cases hb
    obtain ⟨h1, h2, h3⟩ := hh.2.2 b _ ha
    refine ⟨h1, h2, ?_⟩
    have h4 : H[G.2.2.1 b]? = some (arrV (G.2.1 0) N (fun j => .int (nI (f j)))) := h3
    show H[G.2.2.1 b]? = some (arrV (G.2.1 0) N (fun j => .int (nI (g j))))
    rw [h4]
    unfold arrV
    congr 3
    funext j
    show Value.int (nI (f j.val)) = Value.int (nI (g j.val))
    rw [e j.val j.isLt]
  · rw [zup_ne q] at hb
    exact hh.2.2 b c hb
def zer : Nat → Nat := fun _ => 0
def sRK (B : Nat → Nat) (n : Nat) : Nat → TO × (Nat → Nat) × (Nat → Nat) → TO × (Nat → Nat) × (Nat → Nat)
  | 0, l => l
  | f + 1, l => match l.1 with
    | .inr _ => l
    | .inl t => if t.1 = 3 then sRK B n f (lLn l.2.1 l.2.2 B n (sNx B n t)) else l
def sRd0 (B : Nat → Nat) (n : Nat) : TO × (Nat → Nat) × (Nat → Nat) := sRK B n 901 (lLn zer zer B n (stok B n 0))
def sEnd (l : TO × (Nat → Nat) × (Nat → Nat)) : TO := oB l.1 (fun t => if t.1 = 0 then (if l.2.1 8 = 0 ∨ l.2.1 1 = 0 then .inr (6, t.2.1) else .inl t) else .inr (1, t.2.1))
/-- the reading of n bytes -/
def sRd (B : Nat → Nat) (n : Nat) : TO × (Nat → Nat) × (Nat → Nat) := (sEnd (sRd0 B n), (sRd0 B n).2)
theorem sRK_r {B : Nat → Nat} {n f : Nat} {l : TO × (Nat → Nat) × (Nat → Nat)} (h : oF l.1 = true) : sRK B n f l = l := by
  obtain ⟨o, R, S⟩ := l
  cases o with
  | inl t => cases h
  | inr e => cases f <;> rfl
theorem sRK_e {B : Nat → Nat} {n f : Nat} {t : Nat × Nat × Nat} {R S : Nat → Nat} (h : t.1 ≠ 3) : sRK B n f (.inl t, R, S) = (.inl t, R, S) := by
  cases f with
  | zero => rfl
  | succ f => exact if_neg h
theorem sRK_s {B : Nat → Nat} {n f : Nat} {t : Nat × Nat × Nat} {R S : Nat → Nat} (h : t.1 = 3) : sRK B n (f + 1) (.inl t, R, S) = sRK B n f (lLn R S B n (sNx B n t)) := if_pos h
theorem RX_0 : RX zer zer := by
  refine ⟨⟨fun j hj => (by decide : 0 < 2147483648), by decide, fun p hp => (by decide : 0 < 128), fun m hm => (by decide : 0 < 7), fun k hk => (by decide : 0 < 4)⟩, ⟨by decide, by decide, by decide, by decide, by decide, fun p hp => absurd hp (Nat.not_lt_zero p), fun p hp => absurd hp (Nat.not_lt_zero p), fun p hp => absurd hp (Nat.not_lt_zero p), fun p hp => absurd hp (Nat.not_lt_zero p)⟩, ⟨fun p hp => absurd hp (Nat.not_lt_zero p), fun p hp => absurd hp (Nat.not_lt_zero p), by decide⟩, by decide, fun _ => ⟨rfl, rfl, rfl, rfl, rfl, rfl, rfl⟩, ⟨fun x hx => ⟨fun z => absurd z (Nat.not_lt_zero 0), fun z => ?_⟩, fun x hx => ⟨Nat.zero_le 8, fun j hj => absurd hj (Nat.not_lt_zero j)⟩⟩, by decide, rfl, fun _ _ _ => rfl⟩
  unfold rTo zer at z
  omega
def mRd (h hh : ZH) (v : Nat → Int32) (B : Nat → Nat) (n : Nat) (w : Value) : Prop := ∃ v', hh 1063 = some (zO 8 (mfs v')) ∧ v' 0 = 0 ∧ v' 2 = 0 ∧ (∀ i, 23 < i → v' i = v i) ∧ (∃ L : Nat → Nat, hh 1065 = some (zI 8 L)) ∧ (∃ R1 : Nat → Nat, hh 1067 = some (zI 241 R1)) ∧ (∃ S1 : Nat → Nat, hh 1069 = some (zI 40 S1)) ∧ (∀ a, a < 1063 ∨ a = 1064 ∨ 1070 < a → hh a = h a) ∧ match sEnd (sRd0 B n) with
  | .inr e => w = .int (-1) ∧ v' 11 = nI 4 ∧ v' 9 = nI e.1 ∧ v' 10 = nI e.2 ∧ v' 14 = v 14 ∧ v' 22 = v 22 ∧ v' 23 = v 23 ∧ hh 1066 = h 1066 ∧ hh 1068 = h 1068 ∧ hh 1070 = h 1070
  | .inl _ => w = .int (nI ((sRd0 B n).2.1 1)) ∧ v' 11 = 0 ∧ v' 9 = 0 ∧ v' 14 = zb true ∧ v' 22 = 0 ∧ v' 23 = 0 ∧ hh 1066 = some (zI 241 (sRd0 B n).2.1) ∧ hh 1068 = some (zI 40 (sRd0 B n).2.2) ∧ hh 1070 = some (zI 40 (sRd0 B n).2.2)
theorem LQ.tr2 {h h1 hh : ZH} {v v1 : Nat → Int32} {B : Nat → Nat} {n : Nat} {l : TO × (Nat → Nat) × (Nat → Nat)} (hV : rW v v1) (hF : ∀ a, a ≠ 1063 → a ≠ 1065 → a ≠ 1067 → a ≠ 1069 → h1 a = h a) (hL : LQ h1 hh v1 B n l) : LQ h hh v B n l := by
  obtain ⟨⟨v', a, b⟩, c, d⟩ := hL
  exact ⟨⟨v', a, hV.tr b⟩, c, fun a q1 q2 q3 q4 => (d a q1 q2 q3 q4).trans (hF a q1 q2 q3 q4)⟩
def mV5 (v : Nat → Int32) (n : Nat) : Nat → Int32 := upd (upd (upd (upd (upd (upd (upd v 0 0) 11 0) 2 (nI 0)) 9 (nI 0)) 13 (zb false)) 3 (nI n)) 5 (nI 0)
theorem mRd.no {h hz : ZH} {v vz : Nat → Int32} {B : Nat → Nat} {n : Nat} {e : Nat × Nat} {R1 S1 : Nat → Nat} (hO : MO hz vz B n (.inr e)) (hV : rW (mV5 v n) vz) (hR : hz 1067 = some (zI 241 R1)) (hS : hz 1069 = some (zI 40 S1)) (hF : ∀ a, a ≠ 1063 → a ≠ 1065 → a ≠ 1067 → a ≠ 1069 → hz a = h a) (hE : sEnd (sRd0 B n) = .inr e) : mRd h (zup hz 1063 (zO 8 (mfs (upd vz 11 (nI 4))))) v B n (.int (-1)) := by
  obtain ⟨a1, a2, a3, a4, L, a5⟩ := hO
  refine ⟨upd vz 11 (nI 4), zup_same _ _ _, hV.1 0 (by decide), hV.1 2 (by decide), fun i hi => ?_, ⟨L, (zup_ne (by decide)).trans a5⟩, ⟨R1, (zup_ne (by decide)).trans hR⟩, ⟨S1, (zup_ne (by decide)).trans hS⟩, fun a ha => (zup_ne (by omega)).trans (hF a (by omega) (by omega) (by omega) (by omega)), ?_⟩
  · have z := hV.1 i (by omega)
    show upd vz 11 (nI 4) i = v i
    unfold upd
    rw [if_neg (by omega), z]
    unfold mV5 upd
    rw [if_neg (by omega), if_neg (by omega), if_neg (by omega), if_neg (by omega), if_neg (by omega), if_neg (by omega), if_neg (by omega)]
  · rw [hE]
    exact ⟨rfl, rfl, a3, a4, hV.1 14 (by decide), hV.1 22 (by decide), hV.1 23 (by decide), (zup_ne (by decide)).trans (hF _ (by decide) (by decide) (by decide) (by decide)), (zup_ne (by decide)).trans (hF _ (by decide) (by decide) (by decide) (by decide)), (zup_ne (by decide)).trans (hF _ (by decide) (by decide) (by decide) (by decide))⟩
theorem mRd.yes {h h8 k3 hh : ZH} {v v8 : Nat → Int32} {B R S : Nat → Nat} {n : Nat} {t : Nat × Nat × Nat} {L : Nat → Nat} (hV : rW (mV5 v n) v8) (h13 : v8 13 = zb false) (h5 : h8 1065 = some (zI 8 L)) (hR : h8 1067 = some (zI 241 R)) (hS : h8 1069 = some (zI 40 S)) (hF : ∀ a, a ≠ 1063 → a ≠ 1065 → a ≠ 1067 → a ≠ 1069 → h8 a = h a) (hE : sEnd (sRd0 B n) = .inl t) (e0 : sRd0 B n = (.inl t, R, S)) (k6 : k3 1066 = some (zI 241 R)) (k8 : k3 1068 = some (zI 40 S)) (k0 : k3 1070 = some (zI 40 S)) (hK : ∀ a, a ≠ 1063 → a ≠ 1066 → a ≠ 1068 → a ≠ 1070 → k3 a = h8 a) (hH : hh 1063 = some (zO 8 (mfs (upd (upd (upd v8 14 (zb true)) 22 (nI 0)) 23 (nI 0))))) (hG : ∀ a, a ≠ 1063 → hh a = k3 a) : mRd h hh v B n (.int (nI (R 1))) := by
  refine ⟨_, hH, hV.1 0 (by decide), hV.1 2 (by decide), fun i hi => ?_, ⟨L, (hG _ (by decide)).trans ((hK _ (by decide) (by decide) (by decide) (by decide)).trans h5)⟩, ⟨R, (hG _ (by decide)).trans ((hK _ (by decide) (by decide) (by decide) (by decide)).trans hR)⟩, ⟨S, (hG _ (by decide)).trans ((hK _ (by decide) (by decide) (by decide) (by decide)).trans hS)⟩, fun a ha => (hG a (by omega)).trans ((hK a (by omega) (by omega) (by omega) (by omega)).trans (hF a (by omega) (by omega) (by omega) (by omega))), ?_⟩
  · have z := hV.1 i (by omega)
    show upd (upd (upd v8 14 (zb true)) 22 (nI 0)) 23 (nI 0) i = v i
    unfold upd
    rw [if_neg (by omega), if_neg (by omega), if_neg (by omega), z]
    unfold mV5 upd
    rw [if_neg (by omega), if_neg (by omega), if_neg (by omega), if_neg (by omega), if_neg (by omega), if_neg (by omega), if_neg (by omega)]
  · rw [hE, e0]
    exact ⟨rfl, hV.1 11 (by decide), (hV.2 h13).2, rfl, rfl, rfl, (hG _ (by decide)).trans k6, (hG _ (by decide)).trans k8, (hG _ (by decide)).trans k0⟩

set_option maxRecDepth 20000 in
set_option maxHeartbeats 1000000 in
theorem tX12_forestN {h : ZH} {v : Nat → Int32} {x : Int32} (hM : h 1063 = some (zO 8 (mfs v))) (hx : decide (nI 0 ≤ x ∧ x ≤ v 2) = false) : ZQ1 mX12_forest 12 [.ref 1063, .int x] h (fun w hh => w = .int (-1) ∧ hh 1063 = some (zO 8 (mfs (mv v 2))) ∧ ∀ a, a ≠ 1063 → hh a = h a) := by
  intro n
  refine z_enter (lv := [(0, _), (1, _)]) (by decide) (Nat.le_of_ble_eq_true rfl) rfl (fun X C => ?_)
  refine z_aload_n (pc := 0) C dX12_forest_0 0 rfl ?_
  refine z_cV0 (pc := 1) mX12_good C [] dX12_forest_1 lX12_167 mtX12_good (tX12_good hM) hM rfl rfl (by decide) (Nat.le_of_ble_eq_true rfl) (Nat.zero_le _) (Nat.zero_le _) ?_
  refine z_iload_n (pc := 4) C dX12_forest_4 1 rfl ?_
  refine z_iconst (pc := 5) C dX12_forest_5 (nI 0) (by decide) ?_
  refine z_aload_n (pc := 6) C dX12_forest_6 0 rfl ?_
  refine z_getf (pc := 7) C dX12_forest_7 fX12_62 (zup_same _ _ _) (by first | rfl | assumption) ?_
  refine z_cS1 (pc := 10) mX12_in C [_, _, _] dX12_forest_10 lX12_146 mtX12_in tX12_in rfl rfl (by decide) (Nat.le_of_ble_eq_true rfl) (Nat.zero_le _) (Nat.zero_le _) ?_
  rw [show decide (nI 0 ≤ x ∧ x ≤ upd (upd v 0 0) 11 0 2) = false from hx]
  first | refine z_ifneB (pc := 13) C 22 dX12_forest_13 (by decide) (fun hc13 => ?_) (fun hc13 => ?_) | refine z_ifneN (pc := 13) C 22 dX12_forest_13 (by decide) (by omega) (fun hc13 => ?_) (fun hc13 => ?_) | refine z_if_ne (pc := 13) C 22 dX12_forest_13 (by decide) (fun hc13 => ?_) (fun hc13 => ?_)
  · cases hc13
  · skip
    refine z_aload_n (pc := 16) C dX12_forest_16 0 rfl ?_
    refine z_iconst (pc := 17) C dX12_forest_17 (nI 2) (by decide) ?_
    refine z_cV1 (pc := 18) mX12_no C [_] dX12_forest_18 lX12_170 mtX12_no (tX12_no (zup_same _ _ _)) (zup_same _ _ _) rfl rfl (by decide) (Nat.le_of_ble_eq_true rfl) (Nat.zero_le _) (Nat.zero_le _) ?_
    refine z_iret (pc := 21) C dX12_forest_21 rfl (Nat.zero_le _) (Nat.zero_le _) ⟨_, rfl, ?_, rfl⟩
    exact ⟨rfl, by rw [zup_same]; unfold mv; rw [upd_upd]; rfl, fun a q => (zup_ne q).trans (zup_ne q)⟩

set_option maxRecDepth 20000 in
set_option maxHeartbeats 1000000 in
theorem tX12_forestY {h : ZH} {v : Nat → Int32} {B L0 R0 R1 S0 S1 S2 : Nat → Nat} {n0 c0 : Nat} (hM : h 1063 = some (zO 8 (mfs v))) (h64 : h 1064 = some (zI 900 B)) (h65 : h 1065 = some (zI 8 L0)) (h66 : h 1066 = some (zI 241 R0)) (h67 : h 1067 = some (zI 241 R1)) (h68 : h 1068 = some (zI 40 S0)) (h69 : h 1069 = some (zI 40 S1)) (h70 : h 1070 = some (zI 40 S2)) (hv2 : v 2 = nI c0) (hc0 : c0 ≤ 900) (hn0 : n0 ≤ c0) (hB : ∀ j, j < c0 → B j < 256) : ZQ1 mX12_forest 12 [.ref 1063, .int (nI n0)] h (fun w hh => mRd h hh v B n0 w) := by
  intro n
  refine z_enter (lv := [(0, _), (1, _)]) (by decide) (Nat.le_of_ble_eq_true rfl) rfl (fun X C => ?_)
  refine z_aload_n (pc := 0) C dX12_forest_0 0 rfl ?_
  refine z_cV0 (pc := 1) mX12_good C [] dX12_forest_1 lX12_167 mtX12_good (tX12_good hM) hM rfl rfl (by decide) (Nat.le_of_ble_eq_true rfl) (Nat.zero_le _) (Nat.zero_le _) ?_
  refine z_iload_n (pc := 4) C dX12_forest_4 1 rfl ?_
  refine z_iconst (pc := 5) C dX12_forest_5 (nI 0) (by decide) ?_
  refine z_aload_n (pc := 6) C dX12_forest_6 0 rfl ?_
  refine z_getf (pc := 7) C dX12_forest_7 fX12_62 (zup_same _ _ _) (by first | rfl | assumption) ?_
  refine z_top (show _ = nI c0 from hv2) ?_
  refine z_cS1 (pc := 10) mX12_in C [_, _, _] dX12_forest_10 lX12_146 mtX12_in tX12_in rfl rfl (by decide) (Nat.le_of_ble_eq_true rfl) (Nat.zero_le _) (Nat.zero_le _) ?_
  rw [show decide (nI 0 ≤ nI n0 ∧ nI n0 ≤ nI c0) = true from decide_eq_true ⟨(nI_leI (by omega) (by omega)).mpr (by omega), (nI_leI (by omega) (by omega)).mpr (by omega)⟩]
  first | refine z_ifneB (pc := 13) C 22 dX12_forest_13 (by decide) (fun hc13 => ?_) (fun hc13 => ?_) | refine z_ifneN (pc := 13) C 22 dX12_forest_13 (by decide) (by omega) (fun hc13 => ?_) (fun hc13 => ?_) | refine z_if_ne (pc := 13) C 22 dX12_forest_13 (by decide) (fun hc13 => ?_) (fun hc13 => ?_)
  · skip
    refine z_aload_n (pc := 22) C dX12_forest_22 0 rfl ?_
    refine z_iconst (pc := 23) C dX12_forest_23 (nI 0) (by decide) ?_
    refine z_putf (pc := 24) (fs' := mfs (upd _ 2 _)) C dX12_forest_24 gX12_62 (zup_same _ _ _) (fun _ => ⟨rfl, rfl⟩) (by exact Nat.le_of_ble_eq_true rfl) (mfs_set _ 2 _ (by decide)) ?_
    refine z_aload_n (pc := 27) C dX12_forest_27 0 rfl ?_
    refine z_iconst (pc := 28) C dX12_forest_28 (nI 0) (by decide) ?_
    refine z_putf (pc := 29) (fs' := mfs (upd _ 9 _)) C dX12_forest_29 gX12_98 (zup_same _ _ _) (fun _ => ⟨rfl, rfl⟩) (by exact Nat.le_of_ble_eq_true rfl) (mfs_set _ 9 _ (by decide)) ?_
    refine z_aload_n (pc := 32) C dX12_forest_32 0 rfl ?_
    refine z_iconst (pc := 33) C dX12_forest_33 (zb false) (by decide) ?_
    refine z_putf (pc := 34) (fs' := mfs (upd _ 13 _)) C dX12_forest_34 gX12_94 (zup_same _ _ _) (fun _ => ⟨zb_nar _, zb_fit _⟩) (by exact Nat.le_of_ble_eq_true rfl) (mfs_set _ 13 _ (by decide)) ?_
    generalize eh2 : zup _ 1063 (zO 8 (mfs (upd (upd (upd (upd (upd v 0 0) 11 0) 2 (nI 0)) 9 (nI 0)) 13 (zb false)))) = h2
    have hM2 : h2 1063 = some (zO 8 (mfs (upd (upd (upd (upd (upd v 0 0) 11 0) 2 (nI 0)) 9 (nI 0)) 13 (zb false)))) := by rw [← eh2]; exact zup_same _ _ _
    have G2 : ∀ a, a ≠ 1063 → h2 a = h a := fun a q => by rw [← eh2]; simp only [zup_ne q]
    refine z_iconst (pc := 37) C dX12_forest_37 (nI 0) (by decide) ?_
    refine z_istore_n (pc := 38) (lv' := [(2, _), (0, _), (1, _)]) C dX12_forest_38 (by decide) rfl ?_
    refine z_sub (lv' := [(0, _), (1, _), (2, _)]) [1, 2, 0] rfl ?_
    have lp39 : ∀ (f : Nat) (j : Nat) (h3 : ZH), (j + f = 241 ∧ h3 1067 = some (zI 241 (nfl R1 0 j 0)) ∧ ∀ a, a ≠ 1067 → h3 a = h2 a) → Zc X mX12_forest (zEnd X (fun r hh n' => ∃ w, r = some w ∧ (mRd h hh v B n0 w) ∧ n' = n) 0 0) 39 [(0, .ref 1063), (1, .int (nI n0)), (2, .int (nI j))] [] h3 n 0 0 := by
      intro f
      induction f using Nat.strongRecOn with
      | _ f ih =>
        intro j h3 hk3
        obtain ⟨hk3, q3, G3⟩ := hk3
        have hM3 := (G3 1063 (by decide)).trans hM2
        refine z_iload_n (pc := 39) C dX12_forest_39 2 rfl ?_
        refine z_sipush (pc := 40) C dX12_forest_40 (nI 241) (by decide) ?_
        first | refine z_icmpgeN (pc := 43) C 59 dX12_forest_43 (by decide) (by omega) (by omega) (fun hc43 => ?_) (fun hc43 => ?_) | refine z_icmp_ge (pc := 43) C 59 dX12_forest_43 (by decide) (fun hc43 => ?_) (fun hc43 => ?_)
        · skip
          refine z_iconst (pc := 59) C dX12_forest_59 (nI 0) (by decide) ?_
          refine z_istore_n (pc := 60) (lv' := [(2, _), (0, _), (1, _)]) C dX12_forest_60 (by decide) rfl ?_
          refine z_sub (lv' := [(0, _), (1, _), (2, _)]) [1, 2, 0] rfl ?_
          have lp61 : ∀ (f2 : Nat) (i : Nat) (h4 : ZH), (i + f2 = 40 ∧ h4 1069 = some (zI 40 (nfl S1 0 i 0)) ∧ ∀ a, a ≠ 1069 → h4 a = h3 a) → Zc X mX12_forest (zEnd X (fun r hh n' => ∃ w, r = some w ∧ (mRd h hh v B n0 w) ∧ n' = n) 0 0) 61 [(0, .ref 1063), (1, .int (nI n0)), (2, .int (nI i))] [] h4 n 0 0 := by
            intro f2
            induction f2 using Nat.strongRecOn with
            | _ f2 ih2 =>
              intro i h4 hk4
              obtain ⟨hk4, q4, G4⟩ := hk4
              have hM4 := (G4 1063 (by decide)).trans hM3
              refine z_iload_n (pc := 61) C dX12_forest_61 2 rfl ?_
              refine z_bipush (pc := 62) C dX12_forest_62 (nI 40) (by decide) ?_
              first | refine z_icmpgeN (pc := 64) C 80 dX12_forest_64 (by decide) (by omega) (by omega) (fun hc64 => ?_) (fun hc64 => ?_) | refine z_icmp_ge (pc := 64) C 80 dX12_forest_64 (by decide) (fun hc64 => ?_) (fun hc64 => ?_)
              · skip
                refine z_aload_n (pc := 80) C dX12_forest_80 0 rfl ?_
                refine z_iload_n (pc := 81) C dX12_forest_81 1 rfl ?_
                refine z_putf (pc := 82) (fs' := mfs (upd _ 3 _)) C dX12_forest_82 gX12_65 hM4 (fun _ => ⟨rfl, rfl⟩) (by exact Nat.le_of_ble_eq_true rfl) (mfs_set _ 3 _ (by decide)) ?_
                refine z_aload_n (pc := 85) C dX12_forest_85 0 rfl ?_
                refine z_iconst (pc := 86) C dX12_forest_86 (nI 0) (by decide) ?_
                refine z_putf (pc := 87) (fs' := mfs (upd _ 5 _)) C dX12_forest_87 gX12_68 (zup_same _ _ _) (fun _ => ⟨rfl, rfl⟩) (by exact Nat.le_of_ble_eq_true rfl) (mfs_set _ 5 _ (by decide)) ?_
                generalize eh5 : zup _ 1063 (zO 8 (mfs (upd (upd (upd (upd (upd (upd (upd v 0 0) 11 0) 2 (nI 0)) 9 (nI 0)) 13 (zb false)) 3 (nI n0)) 5 (nI 0)))) = h5
                have hM5 : h5 1063 = some (zO 8 (mfs (upd (upd (upd (upd (upd (upd (upd v 0 0) 11 0) 2 (nI 0)) 9 (nI 0)) 13 (zb false)) 3 (nI n0)) 5 (nI 0)))) := by rw [← eh5]; exact zup_same _ _ _
                have G5 : ∀ a, a ≠ 1063 → h5 a = h4 a := fun a q => by rw [← eh5]; simp only [zup_ne q]
                refine z_ext (a := 1067) (N := 241) (g := zer) ((G5 _ (by decide)).trans ((G4 _ (by decide)).trans q3)) (fun i hi => if_pos (by omega)) ?_
                refine z_ext (a := 1069) (N := 40) (g := zer) ((zup_ne (by decide)).trans ((G5 _ (by decide)).trans q4)) (fun i hi => if_pos (by omega)) ?_
                generalize eh6 : zup (zup h5 1067 (zI 241 zer)) 1069 (zI 40 zer) = h6
                have hM6 : h6 1063 = some (zO 8 (mfs (upd (upd (upd (upd (upd (upd (upd v 0 0) 11 0) 2 (nI 0)) 9 (nI 0)) 13 (zb false)) 3 (nI n0)) 5 (nI 0)))) := by rw [← eh6]; exact hM5
                have hR6 : h6 1067 = some (zI 241 zer) := by rw [← eh6]; rfl
                have hS6 : h6 1069 = some (zI 40 zer) := by rw [← eh6]; rfl
                have G6 : ∀ a, a ≠ 1063 → a ≠ 1067 → a ≠ 1069 → h6 a = h a := fun a q1 q2 q3 => by rw [← eh6, zup_ne q3, zup_ne q2, G5 a q1, G4 a q3, G3 a q2, G2 a q1]
                refine z_aload_n (pc := 90) C dX12_forest_90 0 rfl ?_
                refine z_cV0Q (pc := 91) mX12_goOn C [] dX12_forest_91 lX12_115 mtX12_goOn (tX12_goOn (k := 0) (L := L0) hM6 rfl ((G6 _ (by decide) (by decide) (by decide)).trans h64) ((G6 _ (by decide) (by decide) (by decide)).trans h65) rfl (by omega) (by omega) (fun j hj => hB j (by omega))) hM6 rfl rfl (by decide) (Nat.le_of_ble_eq_true rfl) (Nat.zero_le _) (Nat.zero_le _) ?_
                rintro h7 ⟨⟨v7, hS7, hV7⟩, F7⟩
                have hf7 : v7 13 = zb false := hV7 13 (by decide)
                have hk7 := hS7.2.2.2.1
                have hM7 := hS7.1
                have hR7 := (F7 1067 (by decide) (by decide)).trans hR6
                have hT7 := (F7 1069 (by decide) (by decide)).trans hS6
                refine z_aload_n (pc := 94) C dX12_forest_94 0 rfl ?_
                refine z_cV0Q (pc := 95) mX12_readLine C [] dX12_forest_95 lX12_173 mtX12_readLine (tX12_readLine hS7 hf7 hR7 hT7 RX_0.1 (by decide)) hM7 rfl rfl (by decide) (Nat.le_of_ble_eq_true rfl) (Nat.zero_le _) (Nat.zero_le _) ?_
                rintro h7b hL
                refine z_sub (lv' := [(0, _), (1, _)]) [0, 1] rfl ?_
                have lp98 : ∀ (f3 : Nat) (h8 : ZH) (o : TO) (R S : Nat → Nat), (LQ h7 h8 v7 B n0 (o, R, S) ∧ sRd0 B n0 = sRK B n0 f3 (o, R, S) ∧ ∀ t, o = .inl t → RX R S ∧ n0 + 1 ≤ t.2.1 + f3) → Zc X mX12_forest (zEnd X (fun r hh n' => ∃ w, r = some w ∧ (mRd h hh v B n0 w) ∧ n' = n) 0 0) 98 [(0, .ref 1063), (1, .int (nI n0))] [] h8 n 0 0 := by
                  intro f3
                  induction f3 using Nat.strongRecOn with
                  | _ f3 ih3 =>
                    intro h8 o R S hk8
                    obtain ⟨⟨⟨v8, hO8, hV8⟩, ⟨R8, S8, hR8, hS8, eRS⟩, F8⟩, eK, hK⟩ := hk8
                    have hM8 := hO8.m
                    have f8 := hO8.f
                    refine z_aload_n (pc := 98) C dX12_forest_98 0 rfl ?_
                    refine z_getf (pc := 99) C dX12_forest_99 fX12_94 hM8 (by first | rfl | assumption) ?_
                    rw [f8]
                    first | refine z_ifneB (pc := 102) C 125 dX12_forest_102 (by decide) (fun hc102 => ?_) (fun hc102 => ?_) | refine z_ifneN (pc := 102) C 125 dX12_forest_102 (by decide) (by omega) (fun hc102 => ?_) (fun hc102 => ?_) | refine z_if_ne (pc := 102) C 125 dX12_forest_102 (by decide) (fun hc102 => ?_) (fun hc102 => ?_)
                    · skip
                      obtain ⟨e, rfl⟩ := oF_t hc102
                      have hMz := hM8
                      have e0 : sRd0 B n0 = (.inr e, R, S) := eK.trans (sRK_r rfl)
                      have eE : sEnd (sRd0 B n0) = .inr e := by rw [e0]; rfl
                      refine z_aload_n (pc := 125) C dX12_forest_125 0 rfl ?_
                      refine z_getf (pc := 126) C dX12_forest_126 fX12_94 hM8 (by first | rfl | assumption) ?_
                      rw [f8]
                      first | refine z_ifneB (pc := 129) C 148 dX12_forest_129 (by decide) (fun hc129 => ?_) (fun hc129 => ?_) | refine z_ifneN (pc := 129) C 148 dX12_forest_129 (by decide) (by omega) (fun hc129 => ?_) (fun hc129 => ?_) | refine z_if_ne (pc := 129) C 148 dX12_forest_129 (by decide) (fun hc129 => ?_) (fun hc129 => ?_)
                      · skip
                        refine z_aload_n (pc := 148) C dX12_forest_148 0 rfl ?_
                        refine z_getf (pc := 149) C dX12_forest_149 fX12_94 (by first | exact hMz | exact hM8) (by first | rfl | assumption) ?_
                        first | rw [fa] | rw [f8]
                        first | refine z_ifneB (pc := 152) C 184 dX12_forest_152 (by decide) (fun hc152 => ?_) (fun hc152 => ?_) | refine z_ifneN (pc := 152) C 184 dX12_forest_152 (by decide) (by omega) (fun hc152 => ?_) (fun hc152 => ?_) | refine z_if_ne (pc := 152) C 184 dX12_forest_152 (by decide) (fun hc152 => ?_) (fun hc152 => ?_)
                        · skip
                          refine z_aload_n (pc := 184) C dX12_forest_184 0 rfl ?_
                          refine z_getf (pc := 185) C dX12_forest_185 fX12_94 hMz (by first | rfl | assumption) ?_
                          first | rw [fb] | rw [fa] | rw [f8]
                          first | refine z_ifeqB (pc := 188) C 197 dX12_forest_188 (by decide) (fun hc188 => ?_) (fun hc188 => ?_) | refine z_ifeqN (pc := 188) C 197 dX12_forest_188 (by decide) (by omega) (fun hc188 => ?_) (fun hc188 => ?_) | refine z_if_eq (pc := 188) C 197 dX12_forest_188 (by decide) (fun hc188 => ?_) (fun hc188 => ?_)
                          · rw [hc102] at hc188; cases hc188
                          · skip
                            refine z_aload_n (pc := 191) C dX12_forest_191 0 rfl ?_
                            refine z_iconst (pc := 192) C dX12_forest_192 (nI 4) (by decide) ?_
                            refine z_cV1 (pc := 193) mX12_no C [_] dX12_forest_193 lX12_170 mtX12_no (tX12_no hMz) hMz rfl rfl (by decide) (Nat.le_of_ble_eq_true rfl) (Nat.zero_le _) (Nat.zero_le _) ?_
                            refine z_iret (pc := 196) C dX12_forest_196 rfl (Nat.zero_le _) (Nat.zero_le _) ⟨_, rfl, ?_, rfl⟩
                            first | exact mRd.no hOb ((hV7.w.tr hV8).tr hVb) ((Fb 1067 (by decide) (by decide)).trans hR8) ((Fb 1069 (by decide) (by decide)).trans hS8) (fun a q1 q2 q3 q4 => (Fb a q1 q2).trans ((F8 a q1 q2 q3 q4).trans ((F7 a q1 q2).trans (G6 a q1 q3 q4)))) eE | exact mRd.no hOa ((hV7.w.tr hV8).tr hVa) ((Fa 1067 (by decide) (by decide)).trans hR8) ((Fa 1069 (by decide) (by decide)).trans hS8) (fun a q1 q2 q3 q4 => (Fa a q1 q2).trans ((F8 a q1 q2 q3 q4).trans ((F7 a q1 q2).trans (G6 a q1 q3 q4)))) eE | exact mRd.no hO8 (hV7.w.tr hV8) hR8 hS8 (fun a q1 q2 q3 q4 => (F8 a q1 q2 q3 q4).trans ((F7 a q1 q2).trans (G6 a q1 q3 q4))) eE
                        · rw [hc102] at hc152; cases hc152
                      · rw [hc102] at hc129; cases hc129
                    · skip
                      obtain ⟨t, rfl⟩ := oF_f hc102
                      obtain ⟨hX, hn⟩ := hK t rfl
                      obtain ⟨rfl, rfl⟩ : R = R8 ∧ S = S8 := ⟨(eRS rfl).1.symm, (eRS rfl).2.symm⟩
                      obtain ⟨-, -, -, hk8, L8, h58, m1, m2, m3, m4, m5⟩ := id hO8.1
                      have em := mtk_le t.1
                      refine z_aload_n (pc := 105) C dX12_forest_105 0 rfl ?_
                      refine z_getf (pc := 106) C dX12_forest_106 fX12_84 hM8 (by first | rfl | assumption) ?_
                      refine z_top m1 ?_
                      refine z_bipush (pc := 109) C dX12_forest_109 (nI 59) (by decide) ?_
                      first | refine z_icmpneN (pc := 111) C 125 dX12_forest_111 (by decide) (by omega) (by omega) (fun hc111 => ?_) (fun hc111 => ?_) | refine z_icmp_ne (pc := 111) C 125 dX12_forest_111 (by decide) (fun hc111 => ?_) (fun hc111 => ?_)
                      · skip
                        have e0 : sRd0 B n0 = (.inl t, R, S) := eK.trans (sRK_e (fun z => hc111 (mtk_59.mpr z)))
                        have i8 := hX.1.2.1.2.2.2.2
                        have i1 := hX.1.2.1.1
                        refine z_aload_n (pc := 125) C dX12_forest_125 0 rfl ?_
                        refine z_getf (pc := 126) C dX12_forest_126 fX12_94 hM8 (by first | rfl | assumption) ?_
                        rw [f8]
                        first | refine z_ifneB (pc := 129) C 148 dX12_forest_129 (by decide) (fun hc129 => ?_) (fun hc129 => ?_) | refine z_ifneN (pc := 129) C 148 dX12_forest_129 (by decide) (by omega) (fun hc129 => ?_) (fun hc129 => ?_) | refine z_if_ne (pc := 129) C 148 dX12_forest_129 (by decide) (fun hc129 => ?_) (fun hc129 => ?_)
                        · cases hc129
                        · skip
                          refine z_aload_n (pc := 132) C dX12_forest_132 0 rfl ?_
                          refine z_getf (pc := 133) C dX12_forest_133 fX12_84 hM8 (by first | rfl | assumption) ?_
                          refine z_top m1 ?_
                          first | refine z_ifeqB (pc := 136) C 148 dX12_forest_136 (by decide) (fun hc136 => ?_) (fun hc136 => ?_) | refine z_ifeqN (pc := 136) C 148 dX12_forest_136 (by decide) (by omega) (fun hc136 => ?_) (fun hc136 => ?_) | refine z_if_eq (pc := 136) C 148 dX12_forest_136 (by decide) (fun hc136 => ?_) (fun hc136 => ?_)
                          · skip
                            refine z_aload_n (pc := 148) C dX12_forest_148 0 rfl ?_
                            refine z_getf (pc := 149) C dX12_forest_149 fX12_94 (by first | exact hMz | exact hM8) (by first | rfl | assumption) ?_
                            first | rw [fa] | rw [f8]
                            first | refine z_ifneB (pc := 152) C 184 dX12_forest_152 (by decide) (fun hc152 => ?_) (fun hc152 => ?_) | refine z_ifneN (pc := 152) C 184 dX12_forest_152 (by decide) (by omega) (fun hc152 => ?_) (fun hc152 => ?_) | refine z_if_ne (pc := 152) C 184 dX12_forest_152 (by decide) (fun hc152 => ?_) (fun hc152 => ?_)
                            · cases hc152
                            · skip
                              refine z_aload_n (pc := 155) C dX12_forest_155 0 rfl ?_
                              refine z_getf (pc := 156) C dX12_forest_156 fX12_23 hM8 (by first | rfl | assumption) ?_
                              refine z_bipush (pc := 159) C dX12_forest_159 (nI 8) (by decide) ?_
                              first | refine z_ialdN (pc := 161) C dX12_forest_161 hR8 (by omega) (by decide) ?_ | refine z_ialdI (pc := 161) C dX12_forest_161 hR8 (by omega) (by decide) ?_
                              first | refine z_ifeqB (pc := 162) C 174 dX12_forest_162 (by decide) (fun hc162 => ?_) (fun hc162 => ?_) | refine z_ifeqN (pc := 162) C 174 dX12_forest_162 (by decide) (by omega) (fun hc162 => ?_) (fun hc162 => ?_) | refine z_if_eq (pc := 162) C 174 dX12_forest_162 (by decide) (fun hc162 => ?_) (fun hc162 => ?_)
                              · skip
                                refine z_aload_n (pc := 174) C dX12_forest_174 0 rfl ?_
                                refine z_bipush (pc := 175) C dX12_forest_175 (nI 6) (by decide) ?_
                                refine z_aload_n (pc := 177) C dX12_forest_177 0 rfl ?_
                                refine z_getf (pc := 178) C dX12_forest_178 fX12_75 hM8 (by first | rfl | assumption) ?_
                                refine z_top m2 ?_
                                refine z_cV0Q (pc := 181) mX12_wrong C [_, _] dX12_forest_181 lX12_121 mtX12_wrong (tX12_wrongO (f := 6) hO8 (fun t9 ht9 => by cases ht9; rfl)) hM8 rfl rfl (by decide) (Nat.le_of_ble_eq_true rfl) (Nat.zero_le _) (Nat.zero_le _) ?_
                                rintro hb ⟨⟨vb, hOb, hVb⟩, Fb⟩
                                have hMz := hOb.m
                                have fb := hOb.f
                                have eE : sEnd (sRd0 B n0) = .inr (6, t.2.1) := by rw [e0]; exact (if_pos (mtk_0.mp hc136)).trans (if_pos (by first | exact Or.inl hc162 | exact Or.inr hc171))
                                refine z_aload_n (pc := 184) C dX12_forest_184 0 rfl ?_
                                refine z_getf (pc := 185) C dX12_forest_185 fX12_94 hMz (by first | rfl | assumption) ?_
                                first | rw [fb] | rw [fa] | rw [f8]
                                first | refine z_ifeqB (pc := 188) C 197 dX12_forest_188 (by decide) (fun hc188 => ?_) (fun hc188 => ?_) | refine z_ifeqN (pc := 188) C 197 dX12_forest_188 (by decide) (by omega) (fun hc188 => ?_) (fun hc188 => ?_) | refine z_if_eq (pc := 188) C 197 dX12_forest_188 (by decide) (fun hc188 => ?_) (fun hc188 => ?_)
                                · cases hc188
                                · skip
                                  refine z_aload_n (pc := 191) C dX12_forest_191 0 rfl ?_
                                  refine z_iconst (pc := 192) C dX12_forest_192 (nI 4) (by decide) ?_
                                  refine z_cV1 (pc := 193) mX12_no C [_] dX12_forest_193 lX12_170 mtX12_no (tX12_no hMz) hMz rfl rfl (by decide) (Nat.le_of_ble_eq_true rfl) (Nat.zero_le _) (Nat.zero_le _) ?_
                                  refine z_iret (pc := 196) C dX12_forest_196 rfl (Nat.zero_le _) (Nat.zero_le _) ⟨_, rfl, ?_, rfl⟩
                                  first | exact mRd.no hOb ((hV7.w.tr hV8).tr hVb) ((Fb 1067 (by decide) (by decide)).trans hR8) ((Fb 1069 (by decide) (by decide)).trans hS8) (fun a q1 q2 q3 q4 => (Fb a q1 q2).trans ((F8 a q1 q2 q3 q4).trans ((F7 a q1 q2).trans (G6 a q1 q3 q4)))) eE | exact mRd.no hOa ((hV7.w.tr hV8).tr hVa) ((Fa 1067 (by decide) (by decide)).trans hR8) ((Fa 1069 (by decide) (by decide)).trans hS8) (fun a q1 q2 q3 q4 => (Fa a q1 q2).trans ((F8 a q1 q2 q3 q4).trans ((F7 a q1 q2).trans (G6 a q1 q3 q4)))) eE | exact mRd.no hO8 (hV7.w.tr hV8) hR8 hS8 (fun a q1 q2 q3 q4 => (F8 a q1 q2 q3 q4).trans ((F7 a q1 q2).trans (G6 a q1 q3 q4))) eE
                              · skip
                                refine z_aload_n (pc := 165) C dX12_forest_165 0 rfl ?_
                                refine z_getf (pc := 166) C dX12_forest_166 fX12_23 hM8 (by first | rfl | assumption) ?_
                                refine z_iconst (pc := 169) C dX12_forest_169 (nI 1) (by decide) ?_
                                first | refine z_ialdN (pc := 170) C dX12_forest_170 hR8 (by omega) (by decide) ?_ | refine z_ialdI (pc := 170) C dX12_forest_170 hR8 (by omega) (by decide) ?_
                                first | refine z_ifneB (pc := 171) C 184 dX12_forest_171 (by decide) (fun hc171 => ?_) (fun hc171 => ?_) | refine z_ifneN (pc := 171) C 184 dX12_forest_171 (by decide) (by omega) (fun hc171 => ?_) (fun hc171 => ?_) | refine z_if_ne (pc := 171) C 184 dX12_forest_171 (by decide) (fun hc171 => ?_) (fun hc171 => ?_)
                                · skip
                                  have hMz := hM8
                                  have h66c := (F8 1066 (by decide) (by decide) (by decide) (by decide)).trans ((F7 1066 (by decide) (by decide)).trans ((G6 1066 (by decide) (by decide) (by decide)).trans h66))
                                  have h68c := (F8 1068 (by decide) (by decide) (by decide) (by decide)).trans ((F7 1068 (by decide) (by decide)).trans ((G6 1068 (by decide) (by decide) (by decide)).trans h68))
                                  have h70c := (F8 1070 (by decide) (by decide) (by decide) (by decide)).trans ((F7 1070 (by decide) (by decide)).trans ((G6 1070 (by decide) (by decide) (by decide)).trans h70))
                                  have eE : sEnd (sRd0 B n0) = .inl t := by rw [e0]; exact (if_pos (mtk_0.mp hc136)).trans (if_neg (show ¬ (R 8 = 0 ∨ R 1 = 0) from by omega))
                                  refine z_aload_n (pc := 184) C dX12_forest_184 0 rfl ?_
                                  refine z_getf (pc := 185) C dX12_forest_185 fX12_94 hMz (by first | rfl | assumption) ?_
                                  first | rw [fb] | rw [fa] | rw [f8]
                                  first | refine z_ifeqB (pc := 188) C 197 dX12_forest_188 (by decide) (fun hc188 => ?_) (fun hc188 => ?_) | refine z_ifeqN (pc := 188) C 197 dX12_forest_188 (by decide) (by omega) (fun hc188 => ?_) (fun hc188 => ?_) | refine z_if_eq (pc := 188) C 197 dX12_forest_188 (by decide) (fun hc188 => ?_) (fun hc188 => ?_)
                                  · skip
                                    refine z_aload_n (pc := 197) C dX12_forest_197 0 rfl ?_
                                    refine z_getf (pc := 198) C dX12_forest_198 fX12_23 hM8 (by first | rfl | assumption) ?_
                                    refine z_iconst (pc := 201) C dX12_forest_201 (nI 0) (by decide) ?_
                                    refine z_aload_n (pc := 202) C dX12_forest_202 0 rfl ?_
                                    refine z_getf (pc := 203) C dX12_forest_203 fX12_20 hM8 (by first | rfl | assumption) ?_
                                    refine z_iconst (pc := 206) C dX12_forest_206 (nI 0) (by decide) ?_
                                    refine z_sipush (pc := 207) C dX12_forest_207 (nI 241) (by decide) ?_
                                    refine z_cS0 (pc := 210) mX12_copy C [_, _, _, _, _] dX12_forest_210 lX12_176 mtX12_copy (tX12_copy hR8 h66c (by decide) (by decide) (by decide) (by decide) (by decide)) rfl rfl (by decide) (Nat.le_of_ble_eq_true rfl) (Nat.zero_le _) (Nat.zero_le _) ?_
                                    refine z_ext (a := 1066) (N := 241) (g := R) (zup_same _ _ _) (fun i hi => ncpy_00 _ _ hi) ?_
                                    rw [zup_zup]
                                    generalize ek1 : zup h8 1066 (zI 241 R) = k1
                                    have Gk1 : ∀ a, a ≠ 1066 → k1 a = h8 a := fun a q => by rw [← ek1]; exact zup_ne q
                                    have hMk1 := (Gk1 1063 (by decide)).trans hM8
                                    have h66k1 : k1 1066 = some (zI 241 R) := by rw [← ek1]; exact zup_same _ _ _
                                    have hSk1 := (Gk1 1069 (by decide)).trans hS8
                                    have h68k1 := (Gk1 1068 (by decide)).trans h68c
                                    refine z_aload_n (pc := 213) C dX12_forest_213 0 rfl ?_
                                    refine z_getf (pc := 214) C dX12_forest_214 fX12_29 hMk1 (by first | rfl | assumption) ?_
                                    refine z_iconst (pc := 217) C dX12_forest_217 (nI 0) (by decide) ?_
                                    refine z_aload_n (pc := 218) C dX12_forest_218 0 rfl ?_
                                    refine z_getf (pc := 219) C dX12_forest_219 fX12_26 hMk1 (by first | rfl | assumption) ?_
                                    refine z_iconst (pc := 222) C dX12_forest_222 (nI 0) (by decide) ?_
                                    refine z_bipush (pc := 223) C dX12_forest_223 (nI 40) (by decide) ?_
                                    refine z_cS0 (pc := 225) mX12_copy C [_, _, _, _, _] dX12_forest_225 lX12_176 mtX12_copy (tX12_copy hSk1 h68k1 (by decide) (by decide) (by decide) (by decide) (by decide)) rfl rfl (by decide) (Nat.le_of_ble_eq_true rfl) (Nat.zero_le _) (Nat.zero_le _) ?_
                                    refine z_ext (a := 1068) (N := 40) (g := S) (zup_same _ _ _) (fun i hi => ncpy_00 _ _ hi) ?_
                                    rw [zup_zup]
                                    generalize ek2 : zup k1 1068 (zI 40 S) = k2
                                    have Gk2 : ∀ a, a ≠ 1068 → k2 a = k1 a := fun a q => by rw [← ek2]; exact zup_ne q
                                    have hMk2 := (Gk2 1063 (by decide)).trans hMk1
                                    have h68k2 : k2 1068 = some (zI 40 S) := by rw [← ek2]; exact zup_same _ _ _
                                    have hSk2 := (Gk2 1069 (by decide)).trans hSk1
                                    have h70k2 := (Gk2 1070 (by decide)).trans ((Gk1 1070 (by decide)).trans h70c)
                                    refine z_aload_n (pc := 228) C dX12_forest_228 0 rfl ?_
                                    refine z_getf (pc := 229) C dX12_forest_229 fX12_29 hMk2 (by first | rfl | assumption) ?_
                                    refine z_iconst (pc := 232) C dX12_forest_232 (nI 0) (by decide) ?_
                                    refine z_aload_n (pc := 233) C dX12_forest_233 0 rfl ?_
                                    refine z_getf (pc := 234) C dX12_forest_234 fX12_32 hMk2 (by first | rfl | assumption) ?_
                                    refine z_iconst (pc := 237) C dX12_forest_237 (nI 0) (by decide) ?_
                                    refine z_bipush (pc := 238) C dX12_forest_238 (nI 40) (by decide) ?_
                                    refine z_cS0 (pc := 240) mX12_copy C [_, _, _, _, _] dX12_forest_240 lX12_176 mtX12_copy (tX12_copy hSk2 h70k2 (by decide) (by decide) (by decide) (by decide) (by decide)) rfl rfl (by decide) (Nat.le_of_ble_eq_true rfl) (Nat.zero_le _) (Nat.zero_le _) ?_
                                    refine z_ext (a := 1070) (N := 40) (g := S) (zup_same _ _ _) (fun i hi => ncpy_00 _ _ hi) ?_
                                    rw [zup_zup]
                                    generalize ek3 : zup k2 1070 (zI 40 S) = k3
                                    have Gk3 : ∀ a, a ≠ 1070 → k3 a = k2 a := fun a q => by rw [← ek3]; exact zup_ne q
                                    have hMk3 := (Gk3 1063 (by decide)).trans hMk2
                                    have h70k3 : k3 1070 = some (zI 40 S) := by rw [← ek3]; exact zup_same _ _ _
                                    have h68k := (Gk3 1068 (by decide)).trans h68k2
                                    have h66k := (Gk3 1066 (by decide)).trans ((Gk2 1066 (by decide)).trans h66k1)
                                    refine z_aload_n (pc := 243) C dX12_forest_243 0 rfl ?_
                                    refine z_iconst (pc := 244) C dX12_forest_244 (zb true) (by decide) ?_
                                    refine z_putf (pc := 245) (fs' := mfs (upd _ 14 _)) C dX12_forest_245 gX12_180 hMk3 (fun _ => ⟨zb_nar _, zb_fit _⟩) (by exact Nat.le_of_ble_eq_true rfl) (mfs_set _ 14 _ (by decide)) ?_
                                    refine z_aload_n (pc := 248) C dX12_forest_248 0 rfl ?_
                                    refine z_iconst (pc := 249) C dX12_forest_249 (nI 0) (by decide) ?_
                                    refine z_putf (pc := 250) (fs' := mfs (upd _ 22 _)) C dX12_forest_250 gX12_183 (zup_same _ _ _) (fun _ => ⟨rfl, rfl⟩) (by exact Nat.le_of_ble_eq_true rfl) (mfs_set _ 22 _ (by decide)) ?_
                                    refine z_aload_n (pc := 253) C dX12_forest_253 0 rfl ?_
                                    refine z_iconst (pc := 254) C dX12_forest_254 (nI 0) (by decide) ?_
                                    refine z_putf (pc := 255) (fs' := mfs (upd _ 23 _)) C dX12_forest_255 gX12_186 (zup_same _ _ _) (fun _ => ⟨rfl, rfl⟩) (by exact Nat.le_of_ble_eq_true rfl) (mfs_set _ 23 _ (by decide)) ?_
                                    refine z_aload_n (pc := 258) C dX12_forest_258 0 rfl ?_
                                    refine z_getf (pc := 259) C dX12_forest_259 fX12_20 (zup_same _ _ _) (by first | rfl | assumption) ?_
                                    refine z_iconst (pc := 262) C dX12_forest_262 (nI 1) (by decide) ?_
                                    first | refine z_ialdN (pc := 263) C dX12_forest_263 ((zup_ne (by decide)).trans ((zup_ne (by decide)).trans ((zup_ne (by decide)).trans h66k))) (by omega) (by decide) ?_ | refine z_ialdI (pc := 263) C dX12_forest_263 ((zup_ne (by decide)).trans ((zup_ne (by decide)).trans ((zup_ne (by decide)).trans h66k))) (by omega) (by decide) ?_
                                    refine z_iret (pc := 264) C dX12_forest_264 rfl (Nat.zero_le _) (Nat.zero_le _) ⟨_, rfl, ?_, rfl⟩
                                    exact mRd.yes (hV7.w.tr hV8) hO8.2 h58 hR8 hS8 (fun a q1 q2 q3 q4 => (F8 a q1 q2 q3 q4).trans ((F7 a q1 q2).trans (G6 a q1 q3 q4))) eE e0 h66k h68k h70k3 (fun a q1 q2 q3 q4 => (Gk3 a q4).trans ((Gk2 a q3).trans (Gk1 a q2))) (zup_same _ _ _) (fun a q => (zup_ne q).trans ((zup_ne q).trans (zup_ne q)))
                                  · cases hc188
                                · skip
                                  refine z_aload_n (pc := 174) C dX12_forest_174 0 rfl ?_
                                  refine z_bipush (pc := 175) C dX12_forest_175 (nI 6) (by decide) ?_
                                  refine z_aload_n (pc := 177) C dX12_forest_177 0 rfl ?_
                                  refine z_getf (pc := 178) C dX12_forest_178 fX12_75 hM8 (by first | rfl | assumption) ?_
                                  refine z_top m2 ?_
                                  refine z_cV0Q (pc := 181) mX12_wrong C [_, _] dX12_forest_181 lX12_121 mtX12_wrong (tX12_wrongO (f := 6) hO8 (fun t9 ht9 => by cases ht9; rfl)) hM8 rfl rfl (by decide) (Nat.le_of_ble_eq_true rfl) (Nat.zero_le _) (Nat.zero_le _) ?_
                                  rintro hb ⟨⟨vb, hOb, hVb⟩, Fb⟩
                                  have hMz := hOb.m
                                  have fb := hOb.f
                                  have eE : sEnd (sRd0 B n0) = .inr (6, t.2.1) := by rw [e0]; exact (if_pos (mtk_0.mp hc136)).trans (if_pos (by first | exact Or.inl hc162 | exact Or.inr hc171))
                                  refine z_aload_n (pc := 184) C dX12_forest_184 0 rfl ?_
                                  refine z_getf (pc := 185) C dX12_forest_185 fX12_94 hMz (by first | rfl | assumption) ?_
                                  first | rw [fb] | rw [fa] | rw [f8]
                                  first | refine z_ifeqB (pc := 188) C 197 dX12_forest_188 (by decide) (fun hc188 => ?_) (fun hc188 => ?_) | refine z_ifeqN (pc := 188) C 197 dX12_forest_188 (by decide) (by omega) (fun hc188 => ?_) (fun hc188 => ?_) | refine z_if_eq (pc := 188) C 197 dX12_forest_188 (by decide) (fun hc188 => ?_) (fun hc188 => ?_)
                                  · cases hc188
                                  · skip
                                    refine z_aload_n (pc := 191) C dX12_forest_191 0 rfl ?_
                                    refine z_iconst (pc := 192) C dX12_forest_192 (nI 4) (by decide) ?_
                                    refine z_cV1 (pc := 193) mX12_no C [_] dX12_forest_193 lX12_170 mtX12_no (tX12_no hMz) hMz rfl rfl (by decide) (Nat.le_of_ble_eq_true rfl) (Nat.zero_le _) (Nat.zero_le _) ?_
                                    refine z_iret (pc := 196) C dX12_forest_196 rfl (Nat.zero_le _) (Nat.zero_le _) ⟨_, rfl, ?_, rfl⟩
                                    first | exact mRd.no hOb ((hV7.w.tr hV8).tr hVb) ((Fb 1067 (by decide) (by decide)).trans hR8) ((Fb 1069 (by decide) (by decide)).trans hS8) (fun a q1 q2 q3 q4 => (Fb a q1 q2).trans ((F8 a q1 q2 q3 q4).trans ((F7 a q1 q2).trans (G6 a q1 q3 q4)))) eE | exact mRd.no hOa ((hV7.w.tr hV8).tr hVa) ((Fa 1067 (by decide) (by decide)).trans hR8) ((Fa 1069 (by decide) (by decide)).trans hS8) (fun a q1 q2 q3 q4 => (Fa a q1 q2).trans ((F8 a q1 q2 q3 q4).trans ((F7 a q1 q2).trans (G6 a q1 q3 q4)))) eE | exact mRd.no hO8 (hV7.w.tr hV8) hR8 hS8 (fun a q1 q2 q3 q4 => (F8 a q1 q2 q3 q4).trans ((F7 a q1 q2).trans (G6 a q1 q3 q4))) eE
                          · skip
                            refine z_aload_n (pc := 139) C dX12_forest_139 0 rfl ?_
                            refine z_iconst (pc := 140) C dX12_forest_140 (nI 1) (by decide) ?_
                            refine z_aload_n (pc := 141) C dX12_forest_141 0 rfl ?_
                            refine z_getf (pc := 142) C dX12_forest_142 fX12_75 hM8 (by first | rfl | assumption) ?_
                            refine z_top m2 ?_
                            refine z_cV0Q (pc := 145) mX12_wrong C [_, _] dX12_forest_145 lX12_121 mtX12_wrong (tX12_wrongO (f := 1) hO8 (fun t9 ht9 => by cases ht9; rfl)) hM8 rfl rfl (by decide) (Nat.le_of_ble_eq_true rfl) (Nat.zero_le _) (Nat.zero_le _) ?_
                            rintro ha ⟨⟨va, hOa, hVa⟩, Fa⟩
                            have hMz := hOa.m
                            have fa := hOa.f
                            have eE : sEnd (sRd0 B n0) = .inr (1, t.2.1) := by rw [e0]; exact if_neg (fun z => by have := mtk_0.mpr z; omega)
                            refine z_aload_n (pc := 148) C dX12_forest_148 0 rfl ?_
                            refine z_getf (pc := 149) C dX12_forest_149 fX12_94 (by first | exact hMz | exact hM8) (by first | rfl | assumption) ?_
                            first | rw [fa] | rw [f8]
                            first | refine z_ifneB (pc := 152) C 184 dX12_forest_152 (by decide) (fun hc152 => ?_) (fun hc152 => ?_) | refine z_ifneN (pc := 152) C 184 dX12_forest_152 (by decide) (by omega) (fun hc152 => ?_) (fun hc152 => ?_) | refine z_if_ne (pc := 152) C 184 dX12_forest_152 (by decide) (fun hc152 => ?_) (fun hc152 => ?_)
                            · skip
                              refine z_aload_n (pc := 184) C dX12_forest_184 0 rfl ?_
                              refine z_getf (pc := 185) C dX12_forest_185 fX12_94 hMz (by first | rfl | assumption) ?_
                              first | rw [fb] | rw [fa] | rw [f8]
                              first | refine z_ifeqB (pc := 188) C 197 dX12_forest_188 (by decide) (fun hc188 => ?_) (fun hc188 => ?_) | refine z_ifeqN (pc := 188) C 197 dX12_forest_188 (by decide) (by omega) (fun hc188 => ?_) (fun hc188 => ?_) | refine z_if_eq (pc := 188) C 197 dX12_forest_188 (by decide) (fun hc188 => ?_) (fun hc188 => ?_)
                              · cases hc188
                              · skip
                                refine z_aload_n (pc := 191) C dX12_forest_191 0 rfl ?_
                                refine z_iconst (pc := 192) C dX12_forest_192 (nI 4) (by decide) ?_
                                refine z_cV1 (pc := 193) mX12_no C [_] dX12_forest_193 lX12_170 mtX12_no (tX12_no hMz) hMz rfl rfl (by decide) (Nat.le_of_ble_eq_true rfl) (Nat.zero_le _) (Nat.zero_le _) ?_
                                refine z_iret (pc := 196) C dX12_forest_196 rfl (Nat.zero_le _) (Nat.zero_le _) ⟨_, rfl, ?_, rfl⟩
                                first | exact mRd.no hOb ((hV7.w.tr hV8).tr hVb) ((Fb 1067 (by decide) (by decide)).trans hR8) ((Fb 1069 (by decide) (by decide)).trans hS8) (fun a q1 q2 q3 q4 => (Fb a q1 q2).trans ((F8 a q1 q2 q3 q4).trans ((F7 a q1 q2).trans (G6 a q1 q3 q4)))) eE | exact mRd.no hOa ((hV7.w.tr hV8).tr hVa) ((Fa 1067 (by decide) (by decide)).trans hR8) ((Fa 1069 (by decide) (by decide)).trans hS8) (fun a q1 q2 q3 q4 => (Fa a q1 q2).trans ((F8 a q1 q2 q3 q4).trans ((F7 a q1 q2).trans (G6 a q1 q3 q4)))) eE | exact mRd.no hO8 (hV7.w.tr hV8) hR8 hS8 (fun a q1 q2 q3 q4 => (F8 a q1 q2 q3 q4).trans ((F7 a q1 q2).trans (G6 a q1 q3 q4))) eE
                            · cases hc152
                      · skip
                        have e3 := mtk_59.mp hc111
                        obtain ⟨y1, y2, y3, y4, y5, y6, y7, y8, y9⟩ := id hk8
                        have y10 := y9 e3
                        refine z_aload_n (pc := 114) C dX12_forest_114 0 rfl ?_
                        refine z_cV0Q (pc := 115) mX12_goOn C [] dX12_forest_115 lX12_115 mtX12_goOn (tX12_goOnQ hO8.1 (by rw [e3]; decide)) hM8 rfl rfl (by decide) (Nat.le_of_ble_eq_true rfl) (Nat.zero_le _) (Nat.zero_le _) ?_
                        rintro h9 ⟨⟨v9, hS9, hV9⟩, F9⟩
                        have hf9 : v9 13 = zb false := (hV9 13 (by decide)).trans hO8.2
                        have hk9 := hS9.2.2.2.1
                        have hM9 := hS9.1
                        have hR9 := (F9 1067 (by decide) (by decide)).trans hR8
                        have hT9 := (F9 1069 (by decide) (by decide)).trans hS8
                        have n9 := (sNx_ok hk8).2
                        refine z_aload_n (pc := 118) C dX12_forest_118 0 rfl ?_
                        refine z_cV0Q (pc := 119) mX12_readLine C [] dX12_forest_119 lX12_173 mtX12_readLine (tX12_readLine hS9 hf9 hR9 hT9 hX.1 ⟨hX.1.1 2 (by decide), hX.1.1 6 (by decide), hX.1.1 7 (by decide)⟩) hM9 rfl rfl (by decide) (Nat.le_of_ble_eq_true rfl) (Nat.zero_le _) (Nat.zero_le _) ?_
                        rintro h10 hL9
                        refine z_goto (pc := 122) C 98 dX12_forest_122 (by decide) ?_
                        exact ih3 (f3 - 1) (by omega) h10 (lLn R S B n0 (sNx B n0 t)).1 (lLn R S B n0 (sNx B n0 t)).2.1 (lLn R S B n0 (sNx B n0 t)).2.2 ⟨LQ.tr2 (hV8.tr hV9.w) (fun a q1 q2 q3 q4 => (F9 a q1 q2).trans (F8 a q1 q2 q3 q4)) hL9, by obtain ⟨f3, rfl⟩ : ∃ y, f3 = y + 1 := ⟨f3 - 1, by omega⟩; rw [eK, sRK_s e3]; rfl, fun t9 ht9 => by have z := oG_ln (R := R) (S := S) hk9 t9 ht9; exact ⟨RX_ln hX hk9 (oF_fe ht9), by omega⟩⟩
                exact lp98 901 h7b (lLn zer zer B n0 (stok B n0 0)).1 (lLn zer zer B n0 (stok B n0 0)).2.1 (lLn zer zer B n0 (stok B n0 0)).2.2 ⟨hL, rfl, fun t ht => ⟨RX_ln RX_0 hk7 (oF_fe ht), by omega⟩⟩
              · skip
                refine z_aload_n (pc := 67) C dX12_forest_67 0 rfl ?_
                refine z_getf (pc := 68) C dX12_forest_68 fX12_29 hM4 (by first | rfl | assumption) ?_
                refine z_iload_n (pc := 71) C dX12_forest_71 2 rfl ?_
                refine z_iconst (pc := 72) C dX12_forest_72 (nI 0) (by decide) ?_
                first | refine z_iastN (pc := 73) C dX12_forest_73 q4 (by omega) (by decide) ?_ | refine z_iastI (pc := 73) C dX12_forest_73 q4 (by omega) (by decide) ?_
                first | refine z_iincN (pc := 74) (lv' := [(2, _), (0, _), (1, _)]) C 1 dX12_forest_74 2 rfl (by decide) (by decide) rfl ?_ | refine z_iinc (pc := 74) (lv' := [(2, _), (0, _), (1, _)]) C dX12_forest_74 2 rfl _ rfl (by decide) rfl ?_
                refine z_goto (pc := 77) C 61 dX12_forest_77 (by decide) ?_
                refine z_sub (lv' := [(0, _), (1, _), (2, _)]) [1, 2, 0] rfl ?_
                exact ih2 (f2 - 1) (by omega) (i + 1) _ ⟨by omega, by rw [← nfl_s, Nat.zero_add]; exact zup_same _ _ _, fun a q => (zup_ne q).trans (G4 a q)⟩
          exact lp61 40 0 h3 ⟨rfl, by rw [nfl_0]; exact (G3 _ (by decide)).trans ((G2 _ (by decide)).trans h69), fun _ _ => rfl⟩
        · skip
          refine z_aload_n (pc := 46) C dX12_forest_46 0 rfl ?_
          refine z_getf (pc := 47) C dX12_forest_47 fX12_23 hM3 (by first | rfl | assumption) ?_
          refine z_iload_n (pc := 50) C dX12_forest_50 2 rfl ?_
          refine z_iconst (pc := 51) C dX12_forest_51 (nI 0) (by decide) ?_
          first | refine z_iastN (pc := 52) C dX12_forest_52 q3 (by omega) (by decide) ?_ | refine z_iastI (pc := 52) C dX12_forest_52 q3 (by omega) (by decide) ?_
          first | refine z_iincN (pc := 53) (lv' := [(2, _), (0, _), (1, _)]) C 1 dX12_forest_53 2 rfl (by decide) (by decide) rfl ?_ | refine z_iinc (pc := 53) (lv' := [(2, _), (0, _), (1, _)]) C dX12_forest_53 2 rfl _ rfl (by decide) rfl ?_
          refine z_goto (pc := 56) C 39 dX12_forest_56 (by decide) ?_
          refine z_sub (lv' := [(0, _), (1, _), (2, _)]) [1, 2, 0] rfl ?_
          exact ih (f - 1) (by omega) (j + 1) _ ⟨by omega, by rw [← nfl_s, Nat.zero_add]; exact zup_same _ _ _, fun a q => (zup_ne q).trans (G3 a q)⟩
    exact lp39 241 0 h2 ⟨rfl, by rw [nfl_0]; exact (G2 _ (by decide)).trans h67, fun _ _ => rfl⟩
  · cases hc13
