theorem ZD.pr {M : ZM} {d : Nat} {as : List Value} {h h' : ZH} {w : Value} (hm : ZD M d as h (some w) h') : ZQ1 M d as h (fun w2 h2 => w2 = w ∧ h2 = h') := hm.q1 ⟨rfl, rfl⟩
theorem Scn.eq {h : ZH} {s le tr t : Nat} {R S S2 : Nat → Nat} (hC : Scn h s le tr t R S) (e : eqS R S S2) : Scn h s le tr t R S2 := by
  obtain ⟨hT, fl, ft, a, b, c, d, f⟩ := hC
  obtain ⟨e1, e2, e3, e4⟩ := e
  exact ⟨hT, fl, ft, by rw [← e3, ← e4]; exact a, b, c, fun k hk => (d k hk).trans (e1 k hk), fun j hj => (f j hj).trans (e2 j hj)⟩
theorem eqS_of {R S S2 : Nat → Nat} (hR : wfR R) (e : ∀ j, j < 40 → S j = S2 j) : eqS R S S2 := by
  have w3 := hR.2.1
  have w4 := hR.2.2.1
  exact ⟨fun k hk => e _ (by omega), fun j hj => e _ (by omega), e _ (by decide), e _ (by decide)⟩
theorem sInv_st {S : Nat → Nat} {m p : Nat} (hm : m < 4) : sInv 0 m (S (8 * m + 7)) (sst S m p) = S := by
  funext j
  show nup (sgb (sst S m p) m (S (8 * m + 7))) 39 (sst S m p 39 - 1) j = S j
  by_cases q : j = 39
  · subst q
    rw [nup_same, show sst S m p 39 = S 39 + 1 from nup_same _ _ _]
    rfl
  · rw [nup_ne q]
    have e := congrFun (sgb_sgo S m p) j
    rw [← e]
    unfold sgb
    split
    · exact nup_ne (by omega)
    · split
      · rfl
      · exact nup_ne q
theorem sInv_tk {S : Nat → Nat} {k m : Nat} : sInv 1 k (S (32 + k)) (nup S (32 + k) m) = S := by
  funext j
  show nup (nup S (32 + k) m) (32 + k) (S (32 + k)) j = S j
  by_cases q : j = 32 + k
  · subst q; rw [nup_same]
  · rw [nup_ne q, nup_ne q]
theorem sInv_li {S : Nat → Nat} {p : Nat} : sInv 2 p 0 (nup S 38 (S 38 ^^^ 1 <<< p)) = S := by
  funext j
  show nup (nup S 38 (S 38 ^^^ 1 <<< p)) 38 (nup S 38 (S 38 ^^^ 1 <<< p) 38 ^^^ 1 <<< p) j = S j
  by_cases q : j = 38
  · subst q; rw [nup_same, nup_same, Nat.xor_assoc, Nat.xor_self, Nat.xor_zero]
  · rw [nup_ne q, nup_ne q]
theorem eqS_rf (R S : Nat → Nat) : eqS R S S := ⟨fun _ _ => rfl, fun _ _ => rfl, rfl, rfl⟩
theorem InvP.acts {h h2 : ZH} {st sl sr t ds dl dr dt ic len un la : Nat} {tb fa pl : Int32} {B R S F I U f1 f2 f3 : Nat → Nat} {v : Nat → Int32} {b : Bool} {S2 U2 g1 g2 g3 : Nat → Nat} {un2 la2 : Nat} {v2 : Nat → Int32} (hI : InvP h st sl sr t ds dl dr dt ic len un la tb fa pl B R S F I U f1 f2 f3 v b) (k0 : h2 1000 = some (zO 7 (kfs st (nI ic) 0 fa pl))) (kS : Scn h2 1051 1052 1053 t R S2) (kT : Trs h2) (kP : Pst h2 un2 la2 g1 g2 g3) (m0 : h2 1063 = some (zO 8 (mfs v2))) (mS : h2 1070 = some (zI 40 S2)) (mU : h2 1071 = some (zI 640 U2)) (mj : mJ h2) (fr : ∀ a, 1000 < a → a ≠ 1019 → a ≠ 1020 → a ≠ 1030 → a ≠ 1031 → (a < 1034 ∨ 1037 < a) → (a < 1051 ∨ 1053 < a) → a ≠ 1063 → a ≠ 1070 → a ≠ 1071 → (a < 1073 ∨ 1077 < a) → h2 a = h a) (e : v2 2 = v 2 ∧ v2 9 = v 9 ∧ v2 11 = 0 ∧ v2 14 = v 14 ∧ v2 22 = nI un2 ∧ v2 23 = v 23) (wS : wfS R S2) (u16 : un2 ≤ 16 ∧ la2 < 16) (ch : Chn R S2 U2 un2 la2 g1 g2 g3) (hbt : b = true) : Inv h2 := by
  obtain ⟨-, ⟨kd, ke, kn⟩, i2, i3, i4, -, -, i7, -, i9, -, i11, -, ⟨fo, i13⟩, i14, i15⟩ := hI
  obtain ⟨y1, y2, y3, y4, y5, y6, y7⟩ := i14
  obtain ⟨e1, e2, e4, e5, e6, e7⟩ := e
  obtain ⟨hb, hR, hS, hF, hlen, ⟨hu, hl, hc⟩, hIm, hch, hz⟩ := i15
  have D := kd
  have D2 := ke
  unfold DOK at D D2
  have fr1 : ∀ a, drA st a → h2 a = h a := fun a q => by unfold drA at q; exact fr a (by omega) (by omega) (by omega) (by omega) (by omega) (by omega) (by omega) (by omega) (by omega) (by omega) (by omega)
  have fr2 : ∀ a, drA ds a → h2 a = h a := fun a q => by unfold drA at q; exact fr a (by omega) (by omega) (by omega) (by omega) (by omega) (by omega) (by omega) (by omega) (by omega) (by omega) (by omega)
  have fr0 : ∀ a, 1001 ≤ a → a ≤ 1006 → h2 a = h a := fun a q1 q2 => fr a (by omega) (by omega) (by omega) (by omega) (by omega) (by omega) (by omega) (by omega) (by omega) (by omega) (by omega)
  have fr3 : ∀ a, (1031 < a ∧ a < 1034) ∨ (1037 < a ∧ a < 1051) ∨ (1053 < a ∧ a < 1063) ∨ (1063 < a ∧ a < 1070) ∨ a = 1072 ∨ a = 1078 → h2 a = h a := fun a q => fr a (by omega) (by omega) (by omega) (by omega) (by omega) (by omega) (by omega) (by omega) (by omega) (by omega) (by omega)
  obtain ⟨j1, ⟨j2, j3⟩, j4, ⟨j5, j6⟩, j7, ⟨j8, j9⟩, j10, j11, j12⟩ := i11
  exact ⟨_, _, _, _, _, _, _, _, _, _, _, _, _, _, _, _, _, _, _, _, _, _, _, _, _, _, k0, ⟨kd, ke, kn⟩, i2.fr fr0, i3.on ke fr2, i4.dr kd fr1, kS, kT, i7.fr (fr3 _ (by decide)) (fr3 _ (by decide)), kP, i9.fr kd (fr3 _ (by decide)) (fun a q1 q2 => fr3 a (by omega)) hc fr1, m0, ⟨(fr3 _ (by decide)).trans j1, ⟨j2, (fr3 _ (by decide)).trans j3⟩, (fr3 _ (by decide)).trans j4, ⟨j5, (fr3 _ (by decide)).trans j6⟩, (fr3 _ (by decide)).trans j7, ⟨j8, (fr3 _ (by decide)).trans j9⟩, mS, mU, (fr3 _ (by decide)).trans j12⟩, mj, ⟨fo, (fr3 _ (by decide)).trans i13⟩, ⟨e1.trans y1, e2.trans y2, e4, e5.trans y4, e6, e7.trans y6, fun q => absurd q n40⟩, hb, hR, wS, hF, hlen, ⟨u16.1, u16.2, hc⟩, hIm, ch, fun q => by rw [hbt] at q; cases q⟩
theorem wfB_t {b : Bool} {R : Nat → Nat} (hb : wfB b R) (h : 0 < R 1) : b = true := by rw [hb.1]; exact decide_eq_true h
theorem pr_step {h : ZH} {st sl sr t ds dl dr dt ic len un la : Nat} {tb fa pl : Int32} {B R S F I U f1 f2 f3 : Nat → Nat} {v : Nat → Int32} {b : Bool} {x y : Int32} (hI : InvP h st sl sr t ds dl dr dt ic len un la tb fa pl B R S F I U f1 f2 f3 v b) : Pr isI mX11_step mX12_step 5 6 [.int x, .int y] h := by
  have hI0 := hI
  have hq := hI.tq
  obtain ⟨i0, ⟨kd, ke, kn⟩, i2, i3, i4, i5, i6, i7, i8, i9, i10, i11, i12, ⟨fo, i13⟩, i14, i15⟩ := hI
  obtain ⟨y1, y2, y3, y4, y5, y6, y7⟩ := i14
  obtain ⟨hb, hR, hS, hF, ⟨hlen, hB0⟩, ⟨hu, hl, hc⟩, hIm, hch, hz⟩ := i15
  by_cases hn : aStOk R S x y = true
  case neg =>
    have hn : aStOk R S x y = false := by cases q : aStOk R S x y with | true => exact absurd q hn | false => rfl
    exact Pr.read hI0 ⟨_, rfl⟩ ((tX11_stepN i0 i5 hR hS hn).kq i6 i7) (fun h1 a b c d e => (tX12_stepN a b c hR hS y4 hb hn).mq e) (aStep4 _ _ _ _)
  case pos =>
    have w1 := hR.1
    have w3 := hR.2.1
    unfold aStOk at hn
    rw [Bool.and_eq_true, Bool.and_eq_true] at hn
    obtain ⟨⟨hn1, hn2⟩, hy⟩ := hn
    obtain ⟨m, hm, rfl⟩ := zlt_of (by omega) hn1
    obtain ⟨p, hp, rfl⟩ := zlt_of (by omega) hn2
    rw [pn_nI (by omega), pn_nI (by omega)] at hy
    obtain ⟨hT, fl, ft, s0, s1, s2, rl, rt⟩ := id i5
    obtain ⟨⟨x1, x2, q0⟩, t0, la0, sp0, fl0, ft0, q1, q2, q3⟩ := id i6
    obtain ⟨hA, Z1, C1, FA⟩ := tX5_becomeX (h := h) (s := 1020) (le := 1030) (tr := 1031) hR i6.2 i5 ⟨by decide, by decide, by decide⟩ (by omega)
    have c := tX11_stepY i0 hT s0 s1 s2 rl rt hR hS q0 q1 Z1 C1 FA i8 hu hl hq hm hp hy
    refine Pr.of c.pr i10 ?_
    rintro _ h1 ⟨rfl, e1⟩
    have K : ∀ a, 1000 < a → a ≠ 1020 → a ≠ 1030 → a ≠ 1031 → (a < 1034 ∨ 1037 < a) → a ≠ 1051 → a ≠ 1053 → h1 a = h a := fun a z0 z1 z2 z3 z4 z5 z6 => by rw [e1, zup_ne (by omega), zup_ne z5, zup_ne z6, pkH_ne _ _ _ _ _ _ z4]; exact FA a z1 z2 z3
    have K2 : ∀ a, 1063 ≤ a → h1 a = h a := fun a q => K a (by omega) (by omega) (by omega) (by omega) (by omega) (by omega) (by omega)
    have KA : ∀ a, a = 1020 ∨ a = 1030 ∨ a = 1031 → h1 a = hA a := fun a q => by rw [e1, zup_ne (by omega), zup_ne (by omega), zup_ne (by omega), pkH_ne _ _ _ _ _ _ (by omega)]
    have k0 : h1 1000 = some (zO 7 (kfs st (nI ic) 0 fa pl)) := by rw [e1]; exact zup_same _ _ _
    have k51 : h1 1051 = some (zO 3 [.ref t, .ref 1052, .int (nI (S 38)), .int (nI (S 39 + 1)), .ref 1053]) := by rw [e1, zup_ne (by decide)]; exact zup_same _ _ _
    have k53 : h1 1053 = some (zI 32 (sgo ft m p)) := by rw [e1, zup_ne (by decide), zup_ne (by decide)]; exact zup_same _ _ _
    have kP := (pkH_pst hA (min (un + 1) 16) ((la + 1) % 16) (nup f1 ((la + 1) % 16) 0) (nup f2 ((la + 1) % 16) m) (nup f3 ((la + 1) % 16) (S (8 * m + 7)))).fr (hh := h1) (fun a z1 z2 => by rw [e1, zup_ne (by omega), zup_ne (by omega), zup_ne (by omega)])
    have kT : Trs h1 := ⟨⟨x1, x2, (K 1019 (by decide) (by decide) (by decide) (by decide) (by decide) (by decide) (by decide)).trans q0⟩, C1.shp.fr (KA _ (by decide)) (KA _ (by decide)) (KA _ (by decide))⟩
    have kS : Scn h1 1051 1052 1053 t R (sst S m p) := by
      refine ⟨hT.fr (fun a z1 z2 => K a (by omega) (by omega) (by omega) (by omega) (by omega) (by omega) (by omega)), fl, sgo ft m p, ?_, ?_, k53, ?_, ?_⟩
      · rw [k51, show sst S m p 39 = S 39 + 1 from nup_same _ _ _, sst_lt (by omega), sgo_k (by omega) (by omega)]
      · exact (K 1052 (by decide) (by decide) (by decide) (by decide) (by decide) (by decide) (by decide)).trans s1
      · intro k hk; have w4 := hR.2.2.1; rw [sst_lt (by omega), sgo_k (by omega) (by omega)]; exact rl k hk
      · intro j hj; rw [sst_lt (by omega)]; exact sgo_congr hm rt j hj
    obtain ⟨j1, j2, j4, j5, j7, j8, j10, j11, j12⟩ := id i11
    obtain ⟨⟨T, hT73⟩, mj2⟩ := i12.on (hh := h1) (fun a z1 z2 => K2 a (by omega))
    have md := tX12_stepY (h := h1) ((K2 _ (by decide)).trans i10) ((K2 _ (by decide)).trans j4) ((K2 _ (by decide)).trans j10) hR hS y4 hb ((K2 _ (by decide)).trans j11) y5 hu hT73 hm hp hy
    refine ⟨K2 _ (by decide), ⟨_, rfl⟩, md.pr.mono ?_⟩
    rintro _ h2 ⟨rfl, e2⟩
    have M : ∀ a, a ≠ 1063 → a ≠ 1070 → a ≠ 1071 → a ≠ 1073 → h2 a = h1 a := fun a z1 z2 z3 z4 => by rw [e2, zup_ne z2, zup_ne z4, zup_ne z1, zup_ne z3, zup_ne z1]
    have M2 : ∀ a, a < 1063 → h2 a = h1 a := fun a q => M a (by omega) (by omega) (by omega) (by omega)
    refine ⟨rfl, hI0.acts (v2 := upd (mv v 0) 22 (nI (min (un + 1) 16))) ((M2 _ (by decide)).trans k0) (kS.fr (M2 _ (by decide)) (M2 _ (by decide)) (M2 _ (by decide)) (fun a z1 z2 => M2 a (by omega))) (kT.fr (M2 _ (by decide)) (M2 _ (by decide)) (M2 _ (by decide)) (M2 _ (by decide))) (kP.fr (fun a z1 z2 => M2 a (by omega))) ?_ ?_ ?_ ?_ (fun a z0 z1 z2 z3 z4 z5 z6 z7 z8 z9 z10 => (M a z7 z8 z9 (by omega)).trans (K a z0 z2 z3 z4 z5 (by omega) (by omega))) ⟨rfl, rfl, rfl, rfl, rfl, rfl⟩ (wfS_st hR hS hm hp) ⟨by omega, by omega⟩ (hch.act hR hS hu hl (Or.inl ⟨rfl, hm, by rw [show sst S m p 39 = S 39 + 1 from nup_same _ _ _]; omega⟩) (by rw [sInv_st (by omega)]; exact eqS_rf R S)) (wfB_t hb (by omega))⟩
    · rw [e2, zup_ne (by decide), zup_ne (by decide)]; exact zup_same _ _ _
    · rw [e2]; exact zup_same _ _ _
    · rw [e2, zup_ne (by decide), zup_ne (by decide), zup_ne (by decide)]; exact zup_same _ _ _
    · obtain ⟨⟨b1, b⟩, ⟨c1, c⟩, ⟨d1, d⟩, ⟨g1, g⟩⟩ := mj2
      exact ⟨⟨_, by rw [e2, zup_ne (by decide)]; exact zup_same _ _ _⟩, ⟨b1, (M _ (by decide) (by decide) (by decide) (by decide)).trans b⟩, ⟨c1, (M _ (by decide) (by decide) (by decide) (by decide)).trans c⟩, ⟨d1, (M _ (by decide) (by decide) (by decide) (by decide)).trans d⟩, ⟨g1, (M _ (by decide) (by decide) (by decide) (by decide)).trans g⟩⟩
theorem pr_take {h : ZH} {st sl sr t ds dl dr dt ic len un la : Nat} {tb fa pl : Int32} {B R S F I U f1 f2 f3 : Nat → Nat} {v : Nat → Int32} {b : Bool} {x y : Int32} (hI : InvP h st sl sr t ds dl dr dt ic len un la tb fa pl B R S F I U f1 f2 f3 v b) : Pr isI mX11_take mX12_take 5 6 [.int x, .int y] h := by
  have hI0 := hI
  have hq := hI.tq
  obtain ⟨i0, ⟨kd, ke, kn⟩, i2, i3, i4, i5, i6, i7, i8, i9, i10, i11, i12, ⟨fo, i13⟩, i14, i15⟩ := hI
  obtain ⟨y1, y2, y3, y4, y5, y6, y7⟩ := i14
  obtain ⟨hb, hR, hS, hF, ⟨hlen, hB0⟩, ⟨hu, hl, hc⟩, hIm, hch, hz⟩ := i15
  by_cases hn : aTkOk R S x y = true
  case neg =>
    have hn : aTkOk R S x y = false := by cases q : aTkOk R S x y with | true => exact absurd q hn | false => rfl
    exact Pr.read hI0 ⟨_, rfl⟩ ((tX11_takeN i0 i5 hR hS hn).kq i6 i7) (fun h1 a b c d e => (tX12_takeN a b c hR hS y4 hb hn).mq e) (aTake4 _ _ _ _)
  case pos =>
    have w1 := hR.1
    have w3 := hR.2.1
    have w4 := hR.2.2.1
    unfold aTkOk at hn
    rw [Bool.and_eq_true, Bool.and_eq_true] at hn
    obtain ⟨⟨hn1, hn2⟩, hy⟩ := hn
    obtain ⟨k, hk, rfl⟩ := zlt_of (by omega) hn1
    obtain ⟨m, hm, rfl⟩ := zlt_of (by omega) hn2
    rw [pn_nI (by omega), pn_nI (by omega)] at hy
    have hy := of_decide_eq_true hy
    obtain ⟨hT, fl, ft, s0, s1, s2, rl, rt⟩ := id i5
    have c := tX11_takeY i0 hT s0 s1 s2 rl rt hR hS i8 hu hl hq hk hm hy
    refine Pr.of c.pr i10 ?_
    rintro _ h1 ⟨rfl, e1⟩
    have K : ∀ a, 1000 < a → (a < 1034 ∨ 1037 < a) → a ≠ 1052 → h1 a = h a := fun a z0 z4 z5 => by rw [e1, zup_ne (by omega), zup_ne z5, pkH_ne _ _ _ _ _ _ z4]
    have K2 : ∀ a, 1063 ≤ a → h1 a = h a := fun a q => K a (by omega) (by omega) (by omega)
    have k0 : h1 1000 = some (zO 7 (kfs st (nI ic) 0 fa pl)) := by rw [e1]; exact zup_same _ _ _
    have k52 : h1 1052 = some (zI 6 (nup fl k m)) := by rw [e1, zup_ne (by decide)]; exact zup_same _ _ _
    have kP := (pkH_pst h (min (un + 1) 16) ((la + 1) % 16) (nup f1 ((la + 1) % 16) 1) (nup f2 ((la + 1) % 16) k) (nup f3 ((la + 1) % 16) (S (32 + k)))).fr (hh := h1) (fun a z1 z2 => by rw [e1, zup_ne (by omega), zup_ne (by omega)])
    have kT : Trs h1 := i6.fr (K _ (by decide) (by decide) (by decide)) (K _ (by decide) (by decide) (by decide)) (K _ (by decide) (by decide) (by decide)) (K _ (by decide) (by decide) (by decide))
    have kS : Scn h1 1051 1052 1053 t R (nup S (32 + k) m) := by
      refine ⟨hT.fr (fun a z1 z2 => K a (by omega) (by omega) (by omega)), nup fl k m, ft, ?_, k52, ?_, ?_, ?_⟩
      · rw [nup_ne (by omega), nup_ne (by omega)]; exact (K 1051 (by decide) (by decide) (by decide)).trans s0
      · exact (K 1053 (by decide) (by decide) (by decide)).trans s2
      · intro q hq
        by_cases z : q = k
        · subst z; rw [nup_same, nup_same]
        · rw [nup_ne z, nup_ne (by omega)]; exact rl q hq
      · intro j hj; rw [nup_ne (by omega)]; exact rt j hj
    obtain ⟨j1, j2, j4, j5, j7, j8, j10, j11, j12⟩ := id i11
    have md := tX12_takeY (h := h1) ((K2 _ (by decide)).trans i10) ((K2 _ (by decide)).trans j4) ((K2 _ (by decide)).trans j10) hR hS y4 hb ((K2 _ (by decide)).trans j11) y5 hu hk hm hy
    refine ⟨K2 _ (by decide), ⟨_, rfl⟩, md.pr.mono ?_⟩
    rintro _ h2 ⟨rfl, e2⟩
    have M : ∀ a, a ≠ 1063 → a ≠ 1070 → a ≠ 1071 → h2 a = h1 a := fun a z1 z2 z3 => by rw [e2, zup_ne z2, zup_ne z1, zup_ne z3, zup_ne z1]
    have M2 : ∀ a, a < 1063 → h2 a = h1 a := fun a q => M a (by omega) (by omega) (by omega)
    refine ⟨rfl, hI0.acts (v2 := upd (mv v 0) 22 (nI (min (un + 1) 16))) ((M2 _ (by decide)).trans k0) (kS.fr (M2 _ (by decide)) (M2 _ (by decide)) (M2 _ (by decide)) (fun a z1 z2 => M2 a (by omega))) (kT.fr (M2 _ (by decide)) (M2 _ (by decide)) (M2 _ (by decide)) (M2 _ (by decide))) (kP.fr (fun a z1 z2 => M2 a (by omega))) ?_ ?_ ?_ (i12.on (fun a z1 z2 => (M a (by omega) (by omega) (by omega)).trans (K2 a (by omega)))) (fun a z0 z1 z2 z3 z4 z5 z6 z7 z8 z9 z10 => (M a z7 z8 z9).trans (K a z0 z5 (by omega))) ⟨rfl, rfl, rfl, rfl, rfl, rfl⟩ (wfS_tk hR hS hk hm) ⟨by omega, by omega⟩ (hch.act hR hS hu hl (Or.inr (Or.inl ⟨rfl, hk⟩)) (by rw [sInv_tk]; exact eqS_rf R S)) (wfB_t hb (by
      rcases Nat.eq_zero_or_pos (R 1) with z | z
      · have := hb.2 z; omega
      · exact z))⟩
    · rw [e2, zup_ne (by decide)]; exact zup_same _ _ _
    · rw [e2]; exact zup_same _ _ _
    · rw [e2, zup_ne (by decide), zup_ne (by decide)]; exact zup_same _ _ _
theorem pr_light {h : ZH} {st sl sr t ds dl dr dt ic len un la : Nat} {tb fa pl : Int32} {B R S F I U f1 f2 f3 : Nat → Nat} {v : Nat → Int32} {b : Bool} {x : Int32} {b9 : Bool} (hI : InvP h st sl sr t ds dl dr dt ic len un la tb fa pl B R S F I U f1 f2 f3 v b) : Pr isI mX11_light mX12_light 5 6 [.int x, .int (zb b9)] h := by
  have hI0 := hI
  have hq := hI.tq
  obtain ⟨i0, ⟨kd, ke, kn⟩, i2, i3, i4, i5, i6, i7, i8, i9, i10, i11, i12, ⟨fo, i13⟩, i14, i15⟩ := hI
  obtain ⟨y1, y2, y3, y4, y5, y6, y7⟩ := i14
  obtain ⟨hb, hR, hS, hF, ⟨hlen, hB0⟩, ⟨hu, hl, hc⟩, hIm, hch, hz⟩ := i15
  by_cases hn : aLiOk R S x b9 = true
  case neg =>
    have hn : aLiOk R S x b9 = false := by cases q : aLiOk R S x b9 with | true => exact absurd q hn | false => rfl
    exact Pr.read hI0 ⟨_, rfl⟩ ((tX11_lightN i0 i5 hR hS hn).kq i6 i7) (fun h1 a b c d e => (tX12_lightN a b c hR hS y4 hb hn).mq e) (aLight4 _ _ _ _)
  case pos =>
    have w1 := hR.1
    have w3 := hR.2.1
    have w4 := hR.2.2.1
    unfold aLiOk at hn
    rw [Bool.and_eq_true] at hn
    obtain ⟨hn1, hy⟩ := hn
    obtain ⟨p, hp, rfl⟩ := zlt_of (by omega) hn1
    rw [pn_nI (by omega)] at hy
    have hy := of_decide_eq_true hy
    obtain ⟨hT, fl, ft, s0, s1, s2, rl, rt⟩ := id i5
    have c := tX11_lightY i0 hT s0 s1 s2 rl rt hR hS i8 hu hl hq hp hy
    refine Pr.of c.pr i10 ?_
    rintro _ h1 ⟨rfl, e1⟩
    have K : ∀ a, 1000 < a → (a < 1034 ∨ 1037 < a) → a ≠ 1051 → h1 a = h a := fun a z0 z4 z5 => by rw [e1, zup_ne (by omega), zup_ne z5, pkH_ne _ _ _ _ _ _ z4]
    have K2 : ∀ a, 1063 ≤ a → h1 a = h a := fun a q => K a (by omega) (by omega) (by omega)
    have k0 : h1 1000 = some (zO 7 (kfs st (nI ic) 0 fa pl)) := by rw [e1]; exact zup_same _ _ _
    have k51 : h1 1051 = some (zO 3 [.ref t, .ref 1052, .int (nI (S 38 ^^^ 1 <<< p)), .int (nI (S 39)), .ref 1053]) := by rw [e1, zup_ne (by decide)]; exact zup_same _ _ _
    have kP := (pkH_pst h (min (un + 1) 16) ((la + 1) % 16) (nup f1 ((la + 1) % 16) 2) (nup f2 ((la + 1) % 16) p) (nup f3 ((la + 1) % 16) 0)).fr (hh := h1) (fun a z1 z2 => by rw [e1, zup_ne (by omega), zup_ne (by omega)])
    have kT : Trs h1 := i6.fr (K _ (by decide) (by decide) (by decide)) (K _ (by decide) (by decide) (by decide)) (K _ (by decide) (by decide) (by decide)) (K _ (by decide) (by decide) (by decide))
    have kS : Scn h1 1051 1052 1053 t R (nup S 38 (S 38 ^^^ 1 <<< p)) := by
      refine ⟨hT.fr (fun a z1 z2 => K a (by omega) (by omega) (by omega)), fl, ft, ?_, ?_, ?_, ?_, ?_⟩
      · rw [nup_same, nup_ne (by decide)]; exact k51
      · exact (K 1052 (by decide) (by decide) (by decide)).trans s1
      · exact (K 1053 (by decide) (by decide) (by decide)).trans s2
      · intro q hq; rw [nup_ne (by omega)]; exact rl q hq
      · intro j hj; rw [nup_ne (by omega)]; exact rt j hj
    obtain ⟨j1, j2, j4, j5, j7, j8, j10, j11, j12⟩ := id i11
    have md := tX12_lightY (h := h1) ((K2 _ (by decide)).trans i10) ((K2 _ (by decide)).trans j4) ((K2 _ (by decide)).trans j10) hR hS y4 hb ((K2 _ (by decide)).trans j11) y5 hu hp hy
    refine ⟨K2 _ (by decide), ⟨_, rfl⟩, md.pr.mono ?_⟩
    rintro _ h2 ⟨rfl, e2⟩
    have M : ∀ a, a ≠ 1063 → a ≠ 1070 → a ≠ 1071 → h2 a = h1 a := fun a z1 z2 z3 => by rw [e2, zup_ne z2, zup_ne z1, zup_ne z3, zup_ne z1]
    have M2 : ∀ a, a < 1063 → h2 a = h1 a := fun a q => M a (by omega) (by omega) (by omega)
    refine ⟨rfl, hI0.acts (v2 := upd (mv v 0) 22 (nI (min (un + 1) 16))) ((M2 _ (by decide)).trans k0) (kS.fr (M2 _ (by decide)) (M2 _ (by decide)) (M2 _ (by decide)) (fun a z1 z2 => M2 a (by omega))) (kT.fr (M2 _ (by decide)) (M2 _ (by decide)) (M2 _ (by decide)) (M2 _ (by decide))) (kP.fr (fun a z1 z2 => M2 a (by omega))) ?_ ?_ ?_ (i12.on (fun a z1 z2 => (M a (by omega) (by omega) (by omega)).trans (K2 a (by omega)))) (fun a z0 z1 z2 z3 z4 z5 z6 z7 z8 z9 z10 => (M a z7 z8 z9).trans (K a z0 z5 (by omega))) ⟨rfl, rfl, rfl, rfl, rfl, rfl⟩ (wfS_li hR hS hp) ⟨by omega, by omega⟩ (hch.act hR hS hu hl (Or.inr (Or.inr ⟨rfl, hp⟩)) (by rw [sInv_li]; exact eqS_rf R S)) (wfB_t hb (by omega))⟩
    · rw [e2, zup_ne (by decide)]; exact zup_same _ _ _
    · rw [e2]; exact zup_same _ _ _
    · rw [e2, zup_ne (by decide), zup_ne (by decide)]; exact zup_same _ _ _
