/-- what led's row owes -/
def LedRow (X : ZX) (nm : String) (Q : State → Prop) : Prop := ∀ (h : ZH) (n cs ss : Nat) (i : Int32) (lv : List (Nat × Value)) (st sl sr t ds dl dr dt ic len un la : Nat) (tb fa pl : Int32) (B R S F I U f1 f2 f3 : Nat → Nat) (v : Nat → Int32) (b : Bool), InvP h st sl sr t ds dl dr dt ic len un la tb fa pl B R S F I U f1 f2 f3 v b → cs + 1 ≤ 601024 → ss + 6 ≤ 7293034 → 
  (∀ (x : Bool) (h' : ZH) (n' : Nat), InvP h' st sl sr t ds dl dr dt ic len un la tb fa pl B R S F I U f1 f2 f3 v b → (match aLed R S i with | some k => x = false ∧ ∃ f : Nat → Int64, h' 1078 = some (zL 1 f) ∧ f 0 = (nI k).toInt64 | none => x = true) → Zc X (mLw nm) Q 1937 lv [.int (zb x)] h' n' (cs + 1) (ss + 6)) → Zc X (mLw nm) Q 1934 lv [.ref 1078, .int i, .ref 1000] h n cs ss

theorem lw_c51 {X : ZX} {nm : String} {Q : State → Prop} {h : ZH} {n cs sl L i : Nat} {xs : Nat → Int32} (C : zOk X (mLw nm) 20 601024 7293034) (SX : zScr X L xs) (hL : L ≤ 3072) (hi : i + 6 ≤ L) (h1 : cs + 1 ≤ 601024) (h2 : sl + 6 ≤ 7293034) (hI : Inv h) (hLed : LedRow X nm Q) (K : ∀ hh n', Inv hh → Zc X (mLw nm) Q 2020 (lvL i) [] hh n' (cs + 1) (sl + 6)) : Zc X (mLw nm) Q 1926 (lvL i) [] h n cs sl := by
  obtain ⟨st, sl9, sr, t, ds, dl, dr, dt, ic, len, un, la, tb, fa, pl, B, R, S, F, I, U, f1, f2, f3, v, b, hI⟩ := hI
  refine z_aload_n (pc := 1926) C dL_law_1926 1 rfl ?_
  refine z_aload_n (pc := 1927) C dL_law_1927 0 rfl ?_
  refine z_iload (pc := 1928) C dL_law_1928 4 rfl ?_
  refine z_iconst (pc := 1930) C dL_law_1930 (nI 1) (by decide) ?_
  refine z_iaddN (pc := 1931) C dL_law_1931 ?_
  refine z_sld (pc := 1932) C SX dL_law_1932 (by omega) (by omega) ?_
  refine z_aload_n (pc := 1933) C dL_law_1933 3 rfl ?_
  refine hLed _ _ _ _ _ _ _ _ _ _ _ _ _ _ _ _ _ _ _ _ _ _ _ _ _ _ _ _ _ _ _ _ hI h1 h2 (fun x hx nx hIx hres => ?_)
  have hI0 := hIx
  obtain ⟨i0, -, -, -, -, -, i6, i7, -, -, i10, i11, i12, ⟨fo, i13⟩, i14, i15⟩ := hIx
  obtain ⟨hb, hR, hS, hF, -⟩ := i15
  refine z_istore (pc := 1937) (lv' := [(5, _), (0, _), (1, _), (2, _), (3, _), (4, _)]) C dL_law_1937 (show 5 < 7 by decide) rfl ?_
  refine z_aload_n (pc := 1939) C dL_law_1939 3 rfl ?_
  refine z_aload_n (pc := 1940) C dL_law_1940 1 rfl ?_
  refine z_iload (pc := 1941) C dL_law_1941 5 rfl ?_
  refine z_iconst (pc := 1943) C dL_law_1943 (nI 1) (by decide) ?_
  refine z_iaddN (pc := 1944) C dL_law_1944 ?_
  refine z_sld (pc := 1945) C SX dL_law_1945 (by omega) (by omega) ?_
  refine z_cV1 (pc := 1946) mX12_led C [_] dL_law_1946 lL_238 mtX12_led (tX12_led i10 i11.2.2.1 i11.2.2.2.2.2.2.1 hR hS i14.2.2.2.1 hb) i10 rfl rfl (by decide) (Nat.le_of_ble_eq_true rfl) h1 h2 ?_
  refine z_istore (pc := 1949) (lv' := [(6, _), (5, _), (0, _), (1, _), (2, _), (3, _), (4, _)]) C dL_law_1949 (show 6 < 7 by decide) rfl ?_
  refine z_aload_n (pc := 1951) C dL_law_1951 4 rfl ?_
  refine z_cV1 (pc := 1952) mX12_thrown C [] dL_law_1952 lL_239 mtX12_thrown (tX12_thrown (zup_same _ _ _)) (zup_same _ _ _) rfl rfl (by decide) (Nat.le_of_ble_eq_true rfl) h1 h2 ?_
  refine z_iload (pc := 1955) C dL_law_1955 1 rfl ?_
  have fin : ∀ y : Int32, Inv (zup hx 1063 (zO 8 (mfs (upd v 0 y)))) := fun y => ⟨_, _, _, _, _, _, _, _, _, _, _, _, _, _, _, _, _, _, _, _, _, _, _, _, _, _, hI0.core (v2 := upd v 0 y) ((zup_ne (by decide)).trans i0) (i6.fr (zup_ne (by decide)) (zup_ne (by decide)) (zup_ne (by decide)) (zup_ne (by decide))) (by obtain ⟨-, g, hg⟩ := i7; exact ⟨g, (zup_ne (by decide)).trans hg⟩) (zup_same _ _ _) (i12.on (fun a q1 q2 => zup_ne (by omega))) (fun a q1 q2 q3 q4 q5 q6 q7 q8 => zup_ne q7) ⟨rfl, rfl, rfl, i14.2.2.1, rfl, rfl, rfl⟩ (fun q => q)⟩
  rcases hA : aLed R S (xs (i + 1)) with _ | k
  · rw [hA] at hres
    obtain rfl := hres
    refine z_icmp_eq (pc := 1957) C 1962 dL_law_1957 (by decide) (fun _ => ?_) (fun q => absurd rfl q)
    refine z_iload (pc := 1962) C dL_law_1962 1 rfl ?_
    refine z_if_ne (pc := 1964) C 1979 dL_law_1964 (by decide) (fun _ => ?_) (fun q => absurd q (by decide))
    refine z_goto (pc := 1979) C 2020 dL_law_1979 (by decide) ?_
    refine z_sub (lv' := lvL i) [2, 3, 4, 5, 6] rfl ?_
    exact K _ _ (fin _)
  · rw [hA] at hres
    obtain ⟨rfl, f, hf, hf0⟩ := hres
    refine z_icmp_eq (pc := 1957) C 1962 dL_law_1957 (by decide) (fun _ => ?_) (fun q => absurd rfl q)
    refine z_iload (pc := 1962) C dL_law_1962 1 rfl ?_
    refine z_if_ne (pc := 1964) C 1979 dL_law_1964 (by decide) (fun q => absurd rfl q) (fun _ => ?_)
    refine z_aload_n (pc := 1967) C dL_law_1967 5 rfl ?_
    refine z_iconst (pc := 1968) C dL_law_1968 (nI 0) (by decide) ?_
    refine z_laldN (pc := 1969) C dL_law_1969 ((zup_ne (by decide)).trans hf) (by decide) (by decide) ?_
    refine z_iload (pc := 1970) C dL_law_1970 0 rfl ?_
    refine z_i2l (pc := 1972) C dL_law_1972 ?_
    refine z_lcmp (pc := 1973) C dL_law_1973 ?_
    refine z_top (y := 0) (by rw [hf0]; exact lg_cmp_self _) ?_
    refine z_if_eq (pc := 1974) C 1979 dL_law_1974 (by decide) (fun _ => ?_) (fun q => absurd rfl q)
    refine z_goto (pc := 1979) C 2020 dL_law_1979 (by decide) ?_
    refine z_sub (lv' := lvL i) [2, 3, 4, 5, 6] rfl ?_
    exact K _ _ (fin _)

theorem and63 (x : Int32) : ∃ k, k < 64 ∧ x &&& nI 63 = nI k := by
  refine ⟨(x &&& nI 63).toBitVec.toNat, ?_, ?_⟩
  · have e : (x &&& nI 63).toBitVec = x.toBitVec &&& 63#32 := rfl
    rw [e, BitVec.toNat_and]
    exact Nat.lt_of_le_of_lt Nat.and_le_right (by decide)
  · apply Int32.toBitVec_inj.mp
    show _ = BitVec.ofNat 32 _
    rw [BitVec.ofNat_toNat, BitVec.setWidth_eq]
set_option maxHeartbeats 4000000 in
theorem lw_loop {X : ZX} {nm : String} {Q : State → Prop} {L : Nat} {xs : Nat → Int32} (C : zOk X (mLw nm) 20 601024 7293034) (SX : zScr X L xs) (hL : L ≤ 3072) (hL6 : 6 ≤ L) (hLed : LedRow X nm Q) (hEnd : ∀ (h : ZH) (n cs sl i : Nat), cs ≤ 601024 → sl ≤ 7293034 → Zc X (mLw nm) Q 2026 (lvL i) [] h n cs sl) : ∀ (f i n cs sl : Nat) (h : ZH), i + f = L → cs + f ≤ 600000 → sl + 6 * f ≤ 7000000 → Inv h → Zc X (mLw nm) Q 23 (lvL i) [] h n cs sl := by
  intro f
  induction f using Nat.strongRecOn with
  | _ f ih =>
  intro i n cs sl h hf hc hs hI
  refine z_iload (pc := 23) C dL_law_23 4 rfl ?_
  refine z_aload_n (pc := 25) C dL_law_25 0 rfl ?_
  refine z_slen (pc := 26) C SX dL_law_26 ?_
  refine z_bipush (pc := 27) C dL_law_27 (nI 6) (by decide) ?_
  refine z_isubN (pc := 29) C dL_law_29 hL6 ?_
  refine z_icmpgtN (pc := 30) C 2026 dL_law_30 (by decide) (by omega) (by omega) (fun hg => ?_) (fun hg => ?_)
  · exact hEnd _ _ _ _ _ (by omega) (by omega)
  have back : ∀ (hh : ZH) (n' cs' sl' : Nat), Inv hh → cs' ≤ cs + 1 → sl' ≤ sl + 6 → Zc X (mLw nm) Q 2020 (lvL i) [] hh n' cs' sl' := by
    intro hh n' cs' sl' hh2 q1 q2
    refine z_iincN (pc := 2020) (lv' := [(4, _), (0, _), (1, _), (2, _), (3, _)]) C 6 dL_law_2020 4 rfl (by decide) (show 4 < 7 by decide) rfl ?_
    refine z_goto (pc := 2023) C 23 dL_law_2023 (by decide) ?_
    refine z_sub (lv' := lvL (i + 6)) [1, 2, 3, 4, 0] rfl ?_
    exact ih (f - 6) (by omega) (i + 6) n' cs' sl' hh (by omega) (by omega) (by omega) hh2
  refine z_aload_n (pc := 33) C dL_law_33 0 rfl ?_
  refine z_iload (pc := 34) C dL_law_34 4 rfl ?_
  refine z_sld (pc := 36) C SX dL_law_36 (by omega) (by omega) ?_
  refine z_bipush (pc := 37) C dL_law_37 (nI 63) (by decide) ?_
  refine z_iand (pc := 39) C dL_law_39 ?_
  obtain ⟨k, hk, ek⟩ := and63 (xs i)
  refine z_top ek ?_
  obtain rfl | rfl | rfl | rfl | rfl | rfl | rfl | rfl | rfl | rfl | rfl | rfl | rfl | rfl | rfl | rfl | rfl | rfl | rfl | rfl | rfl | rfl | rfl | rfl | rfl | rfl | rfl | rfl | rfl | rfl | rfl | rfl | rfl | rfl | rfl | rfl | rfl | rfl | rfl | rfl | rfl | rfl | rfl | rfl | rfl | rfl | rfl | rfl | rfl | rfl | rfl | rfl | rfl | rfl | rfl | rfl | rfl | rfl | rfl | rfl | rfl | rfl | rfl | rfl : k = 0 ∨ k = 1 ∨ k = 2 ∨ k = 3 ∨ k = 4 ∨ k = 5 ∨ k = 6 ∨ k = 7 ∨ k = 8 ∨ k = 9 ∨ k = 10 ∨ k = 11 ∨ k = 12 ∨ k = 13 ∨ k = 14 ∨ k = 15 ∨ k = 16 ∨ k = 17 ∨ k = 18 ∨ k = 19 ∨ k = 20 ∨ k = 21 ∨ k = 22 ∨ k = 23 ∨ k = 24 ∨ k = 25 ∨ k = 26 ∨ k = 27 ∨ k = 28 ∨ k = 29 ∨ k = 30 ∨ k = 31 ∨ k = 32 ∨ k = 33 ∨ k = 34 ∨ k = 35 ∨ k = 36 ∨ k = 37 ∨ k = 38 ∨ k = 39 ∨ k = 40 ∨ k = 41 ∨ k = 42 ∨ k = 43 ∨ k = 44 ∨ k = 45 ∨ k = 46 ∨ k = 47 ∨ k = 48 ∨ k = 49 ∨ k = 50 ∨ k = 51 ∨ k = 52 ∨ k = 53 ∨ k = 54 ∨ k = 55 ∨ k = 56 ∨ k = 57 ∨ k = 58 ∨ k = 59 ∨ k = 60 ∨ k = 61 ∨ k = 62 ∨ k = 63 := by omega
  · refine z_tblIn (pc := 40) C 272 dL_law_40 (by decide) (by decide) rfl (by decide) ?_
    exact lw_c0 C SX hL (by omega) (by omega) (by omega) hI (fun hh hh2 => back hh _ _ _ hh2 (by omega) (by omega))
  · refine z_tblIn (pc := 40) C 345 dL_law_40 (by decide) (by decide) rfl (by decide) ?_
    exact lw_c1 C SX hL (by omega) (by omega) (by omega) hI (fun hh hh2 => back hh _ _ _ hh2 (by omega) (by omega))
  · refine z_tblIn (pc := 40) C 370 dL_law_40 (by decide) (by decide) rfl (by decide) ?_
    exact lw_c2 C SX hL (by omega) (by omega) (by omega) hI (fun hh hh2 => back hh _ _ _ hh2 (by omega) (by omega))
  · refine z_tblIn (pc := 40) C 383 dL_law_40 (by decide) (by decide) rfl (by decide) ?_
    exact lw_c3 C SX hL (by omega) (by omega) (by omega) hI (fun hh hh2 => back hh _ _ _ hh2 (by omega) (by omega))
  · refine z_tblIn (pc := 40) C 396 dL_law_40 (by decide) (by decide) rfl (by decide) ?_
    exact lw_c4 C SX hL (by omega) (by omega) (by omega) hI (fun hh hh2 => back hh _ _ _ hh2 (by omega) (by omega))
  · refine z_tblIn (pc := 40) C 433 dL_law_40 (by decide) (by decide) rfl (by decide) ?_
    exact lw_c5 C SX hL (by omega) (by omega) (by omega) hI (fun hh hh2 => back hh _ _ _ hh2 (by omega) (by omega))
  · refine z_tblIn (pc := 40) C 470 dL_law_40 (by decide) (by decide) rfl (by decide) ?_
    exact lw_c6 C SX hL (by omega) (by omega) (by omega) hI (fun hh hh2 => back hh _ _ _ hh2 (by omega) (by omega))
  · refine z_tblIn (pc := 40) C 507 dL_law_40 (by decide) (by decide) rfl (by decide) ?_
    exact lw_c7 C SX hL (by omega) (by omega) (by omega) hI (fun hh hh2 => back hh _ _ _ hh2 (by omega) (by omega))
  · refine z_tblIn (pc := 40) C 544 dL_law_40 (by decide) (by decide) rfl (by decide) ?_
    exact lw_c8 C SX hL (by omega) (by omega) (by omega) hI (fun hh hh2 => back hh _ _ _ hh2 (by omega) (by omega))
  · refine z_tblIn (pc := 40) C 557 dL_law_40 (by decide) (by decide) rfl (by decide) ?_
    exact lw_c9 C SX hL (by omega) (by omega) (by omega) hI (fun hh hh2 => back hh _ _ _ hh2 (by omega) (by omega))
  · refine z_tblIn (pc := 40) C 570 dL_law_40 (by decide) (by decide) rfl (by decide) ?_
    exact lw_c10 C SX hL (by omega) (by omega) (by omega) hI (fun hh hh2 => back hh _ _ _ hh2 (by omega) (by omega))
  · refine z_tblIn (pc := 40) C 595 dL_law_40 (by decide) (by decide) rfl (by decide) ?_
    exact lw_c11 C SX hL (by omega) (by omega) (by omega) hI (fun hh hh2 => back hh _ _ _ hh2 (by omega) (by omega))
  · refine z_tblIn (pc := 40) C 608 dL_law_40 (by decide) (by decide) rfl (by decide) ?_
    exact lw_c12 C SX hL (by omega) (by omega) (by omega) hI (fun hh hh2 => back hh _ _ _ hh2 (by omega) (by omega))
  · refine z_tblIn (pc := 40) C 645 dL_law_40 (by decide) (by decide) rfl (by decide) ?_
    exact lw_c13 C SX hL (by omega) (by omega) (by omega) hI (fun hh hh2 => back hh _ _ _ hh2 (by omega) (by omega))
  · refine z_tblIn (pc := 40) C 682 dL_law_40 (by decide) (by decide) rfl (by decide) ?_
    exact lw_c14 C SX hL (by omega) (by omega) (by omega) hI (fun hh hh2 => back hh _ _ _ hh2 (by omega) (by omega))
  · refine z_tblIn (pc := 40) C 719 dL_law_40 (by decide) (by decide) rfl (by decide) ?_
    exact lw_c15 C SX hL (by omega) (by omega) (by omega) hI (fun hh hh2 => back hh _ _ _ hh2 (by omega) (by omega))
  · refine z_tblIn (pc := 40) C 744 dL_law_40 (by decide) (by decide) rfl (by decide) ?_
    exact lw_c16 C SX hL (by omega) (by omega) (by omega) hI (fun hh hh2 => back hh _ _ _ hh2 (by omega) (by omega))
  · refine z_tblIn (pc := 40) C 781 dL_law_40 (by decide) (by decide) rfl (by decide) ?_
    exact lw_c17 C SX hL (by omega) (by omega) (by omega) hI (fun hh hh2 => back hh _ _ _ hh2 (by omega) (by omega))
  · refine z_tblIn (pc := 40) C 794 dL_law_40 (by decide) (by decide) rfl (by decide) ?_
    exact lw_c18 C SX hL (by omega) (by omega) (by omega) hI (fun hh hh2 => back hh _ _ _ hh2 (by omega) (by omega))
  · refine z_tblIn (pc := 40) C 807 dL_law_40 (by decide) (by decide) rfl (by decide) ?_
    exact lw_c19 C SX hL (by omega) (by omega) (by omega) hI (fun hh hh2 => back hh _ _ _ hh2 (by omega) (by omega))
  · refine z_tblIn (pc := 40) C 856 dL_law_40 (by decide) (by decide) rfl (by decide) ?_
    exact lw_c20 C SX hL (by omega) (by omega) (by omega) hI (fun hh hh2 => back hh _ _ _ hh2 (by omega) (by omega))
  · refine z_tblIn (pc := 40) C 893 dL_law_40 (by decide) (by decide) rfl (by decide) ?_
    exact lw_c21 C SX hL (by omega) (by omega) (by omega) hI (fun hh hh2 => back hh _ _ _ hh2 (by omega) (by omega))
  · refine z_tblIn (pc := 40) C 930 dL_law_40 (by decide) (by decide) rfl (by decide) ?_
    exact lw_c22 C SX hL (by omega) (by omega) (by omega) hI (fun hh hh2 => back hh _ _ _ hh2 (by omega) (by omega))
  · refine z_tblIn (pc := 40) C 967 dL_law_40 (by decide) (by decide) rfl (by decide) ?_
    exact lw_c23 C SX hL (by omega) (by omega) (by omega) hI (fun hh hh2 => back hh _ _ _ hh2 (by omega) (by omega))
  · refine z_tblIn (pc := 40) C 992 dL_law_40 (by decide) (by decide) rfl (by decide) ?_
    exact lw_c24 C SX hL (by omega) (by omega) (by omega) hI (fun hh hh2 => back hh _ _ _ hh2 (by omega) (by omega))
  · refine z_tblIn (pc := 40) C 1005 dL_law_40 (by decide) (by decide) rfl (by decide) ?_
    exact lw_c25 C SX hL (by omega) (by omega) (by omega) hI (fun hh hh2 => back hh _ _ _ hh2 (by omega) (by omega))
  · refine z_tblIn (pc := 40) C 1030 dL_law_40 (by decide) (by decide) rfl (by decide) ?_
    exact lw_c26 C SX hL (by omega) (by omega) (by omega) hI (fun hh hh2 => back hh _ _ _ hh2 (by omega) (by omega))
  · refine z_tblIn (pc := 40) C 1055 dL_law_40 (by decide) (by decide) rfl (by decide) ?_
    exact lw_c27 C SX hL (by omega) (by omega) (by omega) hI (fun hh hh2 => back hh _ _ _ hh2 (by omega) (by omega))
  · refine z_tblIn (pc := 40) C 1092 dL_law_40 (by decide) (by decide) rfl (by decide) ?_
    exact lw_c28 C SX hL (by omega) (by omega) (by omega) hI (fun hh hh2 => back hh _ _ _ hh2 (by omega) (by omega))
  · refine z_tblIn (pc := 40) C 1105 dL_law_40 (by decide) (by decide) rfl (by decide) ?_
    exact lw_c29 C SX hL (by omega) (by omega) (by omega) hI (fun hh hh2 => back hh _ _ _ hh2 (by omega) (by omega))
  · refine z_tblIn (pc := 40) C 1118 dL_law_40 (by decide) (by decide) rfl (by decide) ?_
    exact lw_c30 C SX hL (by omega) (by omega) (by omega) hI (fun hh hh2 => back hh _ _ _ hh2 (by omega) (by omega))
  · refine z_tblIn (pc := 40) C 1143 dL_law_40 (by decide) (by decide) rfl (by decide) ?_
    exact lw_c31 C SX hL (by omega) (by omega) (by omega) hI (fun hh hh2 => back hh _ _ _ hh2 (by omega) (by omega))
  · refine z_tblIn (pc := 40) C 1180 dL_law_40 (by decide) (by decide) rfl (by decide) ?_
    exact lw_c32 C SX hL (by omega) (by omega) (by omega) hI (fun hh hh2 => back hh _ _ _ hh2 (by omega) (by omega))
  · refine z_tblIn (pc := 40) C 1205 dL_law_40 (by decide) (by decide) rfl (by decide) ?_
    exact lw_c33 C SX hL (by omega) (by omega) (by omega) hI (fun hh hh2 => back hh _ _ _ hh2 (by omega) (by omega))
  · refine z_tblIn (pc := 40) C 1230 dL_law_40 (by decide) (by decide) rfl (by decide) ?_
    exact lw_c34 C SX hL (by omega) (by omega) (by omega) hI (fun hh hh2 => back hh _ _ _ hh2 (by omega) (by omega))
  · refine z_tblIn (pc := 40) C 1255 dL_law_40 (by decide) (by decide) rfl (by decide) ?_
    exact lw_c35 C SX hL (by omega) (by omega) (by omega) hI (fun hh hh2 => back hh _ _ _ hh2 (by omega) (by omega))
  · refine z_tblIn (pc := 40) C 1280 dL_law_40 (by decide) (by decide) rfl (by decide) ?_
    exact lw_c36 C SX hL (by omega) (by omega) (by omega) hI (fun hh hh2 => back hh _ _ _ hh2 (by omega) (by omega))
  · refine z_tblIn (pc := 40) C 1389 dL_law_40 (by decide) (by decide) rfl (by decide) ?_
    exact lw_c37 C SX hL (by omega) (by omega) (by omega) hI (fun hh hh2 => back hh _ _ _ hh2 (by omega) (by omega))
  · refine z_tblIn (pc := 40) C 1414 dL_law_40 (by decide) (by decide) rfl (by decide) ?_
    exact lw_c38 C SX hL (by omega) (by omega) (by omega) hI (fun hh hh2 => back hh _ _ _ hh2 (by omega) (by omega))
  · refine z_tblIn (pc := 40) C 1439 dL_law_40 (by decide) (by decide) rfl (by decide) ?_
    exact lw_c39 C SX hL (by omega) (by omega) (by omega) hI (fun hh hh2 => back hh _ _ _ hh2 (by omega) (by omega))
  · refine z_tblIn (pc := 40) C 1505 dL_law_40 (by decide) (by decide) rfl (by decide) ?_
    exact lw_c40 C SX hL (by omega) (by omega) (by omega) hI (fun hh hh2 => back hh _ _ _ hh2 (by omega) (by omega))
  · refine z_tblIn (pc := 40) C 1559 dL_law_40 (by decide) (by decide) rfl (by decide) ?_
    exact lw_c41 C SX hL (by omega) (by omega) (by omega) hI (fun hh hh2 => back hh _ _ _ hh2 (by omega) (by omega))
  · refine z_tblIn (pc := 40) C 1613 dL_law_40 (by decide) (by decide) rfl (by decide) ?_
    exact lw_c42 C SX hL (by omega) (by omega) (by omega) hI (fun hh hh2 => back hh _ _ _ hh2 (by omega) (by omega))
  · refine z_tblIn (pc := 40) C 1662 dL_law_40 (by decide) (by decide) rfl (by decide) ?_
    exact lw_c43 C SX hL (by omega) (by omega) (by omega) hI (fun hh hh2 => back hh _ _ _ hh2 (by omega) (by omega))
  · refine z_tblIn (pc := 40) C 1711 dL_law_40 (by decide) (by decide) rfl (by decide) ?_
    exact lw_c44 C SX hL (by omega) (by omega) (by omega) hI (fun hh hh2 => back hh _ _ _ hh2 (by omega) (by omega))
  · refine z_tblIn (pc := 40) C 1748 dL_law_40 (by decide) (by decide) rfl (by decide) ?_
    exact lw_c45 C SX hL (by omega) (by omega) (by omega) hI (fun hh hh2 => back hh _ _ _ hh2 (by omega) (by omega))
  · refine z_tblIn (pc := 40) C 1785 dL_law_40 (by decide) (by decide) rfl (by decide) ?_
    exact lw_c46 C SX hL (by omega) (by omega) (by omega) hI (fun hh hh2 => back hh _ _ _ hh2 (by omega) (by omega))
  · refine z_tblIn (pc := 40) C 1822 dL_law_40 (by decide) (by decide) rfl (by decide) ?_
    exact lw_c47 C SX hL (by omega) (by omega) (by omega) hI (fun hh hh2 => back hh _ _ _ hh2 (by omega) (by omega))
  · refine z_tblIn (pc := 40) C 1875 dL_law_40 (by decide) (by decide) rfl (by decide) ?_
    exact lw_c48 C SX hL (by omega) (by omega) (by omega) hI (fun hh hh2 => back hh _ _ _ hh2 (by omega) (by omega))
  · refine z_tblIn (pc := 40) C 1888 dL_law_40 (by decide) (by decide) rfl (by decide) ?_
    exact lw_c49 C SX hL (by omega) (by omega) (by omega) hI (fun hh hh2 => back hh _ _ _ hh2 (by omega) (by omega))
  · refine z_tblIn (pc := 40) C 1901 dL_law_40 (by decide) (by decide) rfl (by decide) ?_
    exact lw_c50 C SX hL (by omega) (by omega) (by omega) hI (fun hh hh2 => back hh _ _ _ hh2 (by omega) (by omega))
  · refine z_tblIn (pc := 40) C 1926 dL_law_40 (by decide) (by decide) rfl (by decide) ?_
    exact lw_c51 C SX hL (by omega) (by omega) (by omega) hI hLed (fun hh n' hh2 => back hh n' _ _ hh2 (by omega) (by omega))
  · refine z_tblIn (pc := 40) C 1982 dL_law_40 (by decide) (by decide) rfl (by decide) ?_
    exact lw_c52 C SX hL (by omega) (by omega) (by omega) hI (fun hh hh2 => back hh _ _ _ hh2 (by omega) (by omega))
  · refine z_tblIn (pc := 40) C 2007 dL_law_40 (by decide) (by decide) rfl (by decide) ?_
    exact lw_c53 C SX hL (by omega) (by omega) (by omega) hI (fun hh hh2 => back hh _ _ _ hh2 (by omega) (by omega))
  · refine z_tblOut (pc := 40) C 2020 dL_law_40 (by decide) (by decide) ?_
    exact back _ _ _ _ hI (by omega) (by omega)
  · refine z_tblOut (pc := 40) C 2020 dL_law_40 (by decide) (by decide) ?_
    exact back _ _ _ _ hI (by omega) (by omega)
  · refine z_tblOut (pc := 40) C 2020 dL_law_40 (by decide) (by decide) ?_
    exact back _ _ _ _ hI (by omega) (by omega)
  · refine z_tblOut (pc := 40) C 2020 dL_law_40 (by decide) (by decide) ?_
    exact back _ _ _ _ hI (by omega) (by omega)
  · refine z_tblOut (pc := 40) C 2020 dL_law_40 (by decide) (by decide) ?_
    exact back _ _ _ _ hI (by omega) (by omega)
  · refine z_tblOut (pc := 40) C 2020 dL_law_40 (by decide) (by decide) ?_
    exact back _ _ _ _ hI (by omega) (by omega)
  · refine z_tblOut (pc := 40) C 2020 dL_law_40 (by decide) (by decide) ?_
    exact back _ _ _ _ hI (by omega) (by omega)
  · refine z_tblOut (pc := 40) C 2020 dL_law_40 (by decide) (by decide) ?_
    exact back _ _ _ _ hI (by omega) (by omega)
  · refine z_tblOut (pc := 40) C 2020 dL_law_40 (by decide) (by decide) ?_
    exact back _ _ _ _ hI (by omega) (by omega)
  · refine z_tblOut (pc := 40) C 2020 dL_law_40 (by decide) (by decide) ?_
    exact back _ _ _ _ hI (by omega) (by omega)
