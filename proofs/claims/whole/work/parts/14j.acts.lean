theorem sInv_0 (w b : Nat) (S : Nat → Nat) : sInv 0 w b S = nup (sgb S w b) 39 (S 39 - 1) := rfl
theorem sInv_1 (w b : Nat) (S : Nat → Nat) : sInv 1 w b S = nup S (32 + w) b := rfl
theorem sInv_2 (w b : Nat) (S : Nat → Nat) : sInv 2 w b S = nup S 38 (S 38 ^^^ 1 <<< w) := rfl
theorem undoS {h : ZH} {t un la : Nat} {R S S2 f1 f2 f3 : Nat → Nat} (hR : wfR R) (hq : t = 1008 ∨ t = 1039) (i5 : Scn h 1051 1052 1053 t R S) (i8 : Pst h un la f1 f2 f3) (hu : 0 < un ∧ un ≤ 16) (hl : la < 16) (hv : sActs R S (f1 la) (f2 la)) (he : eqS R (sInv (f1 la) (f2 la) (f3 la) S) S2) : ∃ h1, ZD mX3_takeBack 1 [.ref 1034, .ref 1051] h (some (.int (zb true))) h1 ∧ Scn h1 1051 1052 1053 t R S2 ∧ Pst h1 (un - 1) ((la + 16 - 1) % 16) f1 f2 f3 ∧ ∀ a, (a < 1034 ∨ 1037 < a) → (a < 1051 ∨ 1053 < a) → h1 a = h a := by
  have w3 := hR.2.1
  have w4 := hR.2.2.1
  have w1 := hR.1
  obtain ⟨hT, fl, ft, s0, s1, s2, rl, rt⟩ := i5
  obtain ⟨p0, p1, p2, p3⟩ := id i8
  rcases hv with ⟨a1, a2, a3⟩ | ⟨a1, a2⟩ | ⟨a1, a2⟩
  · rw [a1, sInv_0] at he
    refine ⟨_, tX3_takeBackS (le := 0) (tr := 0) i8 hu hl s0 s1 s2 rfl rfl a1 (by omega) a3, Scn.eq ?_ he, ⟨zup_same _ _ _, ?_, ?_, ?_⟩, fun a q1 q2 => ?_⟩
    · refine ⟨hT.fr (fun a q1 q2 => by rw [zup_ne (by omega), zup_ne (by omega), zup_ne (by omega)]), fl, sgb ft (f2 la) (f3 la), ?_, ?_, ?_, fun k hk => ?_, fun j hj => ?_⟩
      · rw [zup_ne (by decide), zup_same, show nup (sgb S (f2 la) (f3 la)) 39 (S 39 - 1) 39 = S 39 - 1 from nup_same _ _ _, show nup (sgb S (f2 la) (f3 la)) 39 (S 39 - 1) 38 = S 38 from (nup_ne (by decide)).trans (sgb_k (by omega) (by decide))]
      · rw [zup_ne (by decide), zup_ne (by decide), zup_ne (by decide)]; exact s1
      · rw [zup_ne (by decide), zup_ne (by decide)]; exact zup_same _ _ _
      · rw [show nup (sgb S (f2 la) (f3 la)) 39 (S 39 - 1) (32 + k) = S (32 + k) from (nup_ne (by omega)).trans (sgb_k (by omega) (by omega))]; exact rl k hk
      · rw [show nup (sgb S (f2 la) (f3 la)) 39 (S 39 - 1) j = sgb S (f2 la) (f3 la) j from nup_ne (by omega)]; exact sgb_congr a2 rt j hj
    · rw [zup_ne (by decide), zup_ne (by decide), zup_ne (by decide)]; exact p1
    · rw [zup_ne (by decide), zup_ne (by decide), zup_ne (by decide)]; exact p2
    · rw [zup_ne (by decide), zup_ne (by decide), zup_ne (by decide)]; exact p3
    · rw [zup_ne (by omega), zup_ne (by omega), zup_ne (by omega)]
  · rw [a1, sInv_1] at he
    refine ⟨_, tX3_takeBackT (le := 0) (tr := 0) i8 hu hl s0 s1 s2 rfl rfl a1 (by omega), Scn.eq ?_ he, ⟨zup_same _ _ _, ?_, ?_, ?_⟩, fun a q1 q2 => ?_⟩
    · refine ⟨hT.fr (fun a q1 q2 => by rw [zup_ne (by omega), zup_ne (by omega)]), nup fl (f2 la) (f3 la), ft, ?_, ?_, ?_, fun k hk => ?_, fun j hj => ?_⟩
      · rw [zup_ne (by decide), zup_ne (by decide), show nup S (32 + f2 la) (f3 la) 39 = S 39 from nup_ne (by omega), show nup S (32 + f2 la) (f3 la) 38 = S 38 from nup_ne (by omega)]; exact s0
      · rw [zup_ne (by decide)]; exact zup_same _ _ _
      · rw [zup_ne (by decide), zup_ne (by decide)]; exact s2
      · show _ = nup S (32 + f2 la) (f3 la) (32 + k)
        by_cases z : k = f2 la
        · rw [z, nup_same, nup_same]
        · rw [nup_ne z, nup_ne (by omega)]; exact rl k hk
      · rw [show nup S (32 + f2 la) (f3 la) j = S j from nup_ne (by omega)]; exact rt j hj
    · rw [zup_ne (by decide), zup_ne (by decide)]; exact p1
    · rw [zup_ne (by decide), zup_ne (by decide)]; exact p2
    · rw [zup_ne (by decide), zup_ne (by decide)]; exact p3
    · rw [zup_ne (by omega), zup_ne (by omega)]
  · rw [a1, sInv_2] at he
    refine ⟨_, tX3_takeBackL (le := 0) (tr := 0) i8 hu hl s0 s1 s2 rfl rfl a1 (by omega), Scn.eq ?_ he, ⟨zup_same _ _ _, ?_, ?_, ?_⟩, fun a q1 q2 => ?_⟩
    · refine ⟨hT.fr (fun a q1 q2 => by rw [zup_ne (by omega), zup_ne (by omega)]), fl, ft, ?_, ?_, ?_, fun k hk => ?_, fun j hj => ?_⟩
      · rw [zup_ne (by decide), zup_same, show nup S 38 (S 38 ^^^ 1 <<< f2 la) 39 = S 39 from nup_ne (by decide), show nup S 38 (S 38 ^^^ 1 <<< f2 la) 38 = S 38 ^^^ 1 <<< f2 la from nup_same _ _ _]
      · rw [zup_ne (by decide), zup_ne (by decide)]; exact s1
      · rw [zup_ne (by decide), zup_ne (by decide)]; exact s2
      · rw [show nup S 38 (S 38 ^^^ 1 <<< f2 la) (32 + k) = S (32 + k) from nup_ne (by omega)]; exact rl k hk
      · rw [show nup S 38 (S 38 ^^^ 1 <<< f2 la) j = S j from nup_ne (by omega)]; exact rt j hj
    · rw [zup_ne (by decide), zup_ne (by decide)]; exact p1
    · rw [zup_ne (by decide), zup_ne (by decide)]; exact p2
    · rw [zup_ne (by decide), zup_ne (by decide)]; exact p3
    · rw [zup_ne (by omega), zup_ne (by omega)]
theorem pr_undo {h : ZH} {st sl sr t ds dl dr dt ic len un la : Nat} {tb fa pl : Int32} {B R S F I U f1 f2 f3 : Nat → Nat} {v : Nat → Int32} {b : Bool} (hI : InvP h st sl sr t ds dl dr dt ic len un la tb fa pl B R S F I U f1 f2 f3 v b) : Pr isI mX11_undo mX12_undo 5 6 [] h := by
  have hI0 := hI
  have hq := hI.tq
  obtain ⟨i0, ⟨kd, ke, kn⟩, i2, i3, i4, i5, i6, i7, i8, i9, i10, i11, i12, ⟨fo, i13⟩, i14, i15⟩ := hI
  obtain ⟨y1, y2, y3, y4, y5, y6, y7⟩ := i14
  obtain ⟨hb, hR, hS, hF, ⟨hlen, hB0⟩, ⟨hu, hl, hc⟩, hIm, hch, hz⟩ := i15
  rcases Nat.eq_zero_or_pos un with hu0 | hu0
  · subst hu0
    have c := tX11_undo (fs2 := []) i0 i8.1 (tX3_takeBack0 i8.1) i0
    exact Pr.read (tb2 := 6) hI0 ⟨_, rfl⟩ (c.kq i6 i7) (fun h1 a b c d e => (tX12_undoN a y5).mq e) n46
  · obtain ⟨ch, wS, sv, se⟩ := hch.undo hR ⟨hu0, hu⟩ hl (S2 := ncpy U S (40 * (un - 1)) 0 40) (fun j hj => ncpy_in0 _ _ hj)
    obtain ⟨hA, Z1, kS, kP, FA⟩ := undoS hR hq i5 i8 ⟨hu0, hu⟩ hl sv se
    have c := tX11_undo (fs2 := []) i0 i8.1 Z1 ((FA 1000 (by decide) (by decide)).trans i0)
    refine Pr.of c.pr i10 ?_
    rintro _ h1 ⟨rfl, e1⟩
    have K : ∀ a, 1000 < a → (a < 1034 ∨ 1037 < a) → (a < 1051 ∨ 1053 < a) → h1 a = h a := fun a z0 z1 z2 => by rw [e1, zup_ne (by omega)]; exact FA a z1 z2
    have K2 : ∀ a, 1063 ≤ a → h1 a = h a := fun a q => K a (by omega) (by omega) (by omega)
    have K3 : ∀ a, a ≠ 1000 → h1 a = hA a := fun a z => by rw [e1, zup_ne z]
    have k0 : h1 1000 = some (zO 7 (kfs st (nI ic) 0 fa pl)) := by rw [e1]; exact zup_same _ _ _
    have kT : Trs h1 := i6.fr (K _ (by decide) (by decide) (by decide)) (K _ (by decide) (by decide) (by decide)) (K _ (by decide) (by decide) (by decide)) (K _ (by decide) (by decide) (by decide))
    obtain ⟨j1, j2, j4, j5, j7, j8, j10, j11, j12⟩ := id i11
    have md := tX12_undoY (h := h1) ((K2 _ (by decide)).trans i10) ((K2 _ (by decide)).trans j10) ((K2 _ (by decide)).trans j11) y5 ⟨hu0, hu⟩
    refine ⟨K2 _ (by decide), ⟨_, rfl⟩, md.pr.mono ?_⟩
    rintro _ h2 ⟨rfl, e2⟩
    have M : ∀ a, a ≠ 1063 → a ≠ 1070 → h2 a = h1 a := fun a z1 z2 => by rw [e2, zup_ne z2, zup_ne z1]
    have M2 : ∀ a, a < 1063 → h2 a = h1 a := fun a q => M a (by omega) (by omega)
    have M3 : ∀ a, a ≠ 1000 → a < 1063 → h2 a = hA a := fun a q1 q2 => (M2 a q2).trans (K3 a q1)
    refine ⟨rfl, hI0.acts (v2 := upd (mv v 0) 22 (nI (un - 1))) ((M2 _ (by decide)).trans k0) (kS.fr (M3 _ (by decide) (by decide)) (M3 _ (by decide) (by decide)) (M3 _ (by decide) (by decide)) (fun a z1 z2 => M3 a (by omega) (by omega))) (kT.fr (M2 _ (by decide)) (M2 _ (by decide)) (M2 _ (by decide)) (M2 _ (by decide))) (kP.fr (fun a z1 z2 => M3 a (by omega) (by omega))) ?_ ?_ ((M _ (by decide) (by decide)).trans ((K2 _ (by decide)).trans j11)) (i12.on (fun a z1 z2 => (M a (by omega) (by omega)).trans (K2 a (by omega)))) (fun a z0 z1 z2 z3 z4 z5 z6 z7 z8 z9 z10 => (M a z7 z8).trans (K a z0 z5 z6)) ⟨rfl, rfl, rfl, rfl, rfl, rfl⟩ wS ⟨by omega, by omega⟩ ch ?_⟩
    · rw [e2, zup_ne (by decide)]; exact zup_same _ _ _
    · rw [e2]; exact zup_same _ _ _
    · cases q : b with
      | true => rfl
      | false => have := (hz q).2.2.1; omega
theorem pr_back {h : ZH} {st sl sr t ds dl dr dt ic len un la : Nat} {tb fa pl : Int32} {B R S F I U f1 f2 f3 : Nat → Nat} {v : Nat → Int32} {b : Bool} {x : Int32} (hI : InvP h st sl sr t ds dl dr dt ic len un la tb fa pl B R S F I U f1 f2 f3 v b) : Pr isI mX11_back mX12_back 5 6 [.int x] h := by
  have hI0 := hI
  have hq := hI.tq
  obtain ⟨i0, ⟨kd, ke, kn⟩, i2, i3, i4, i5, i6, i7, i8, i9, i10, i11, i12, ⟨fo, i13⟩, i14, i15⟩ := hI
  obtain ⟨y1, y2, y3, y4, y5, y6, y7⟩ := i14
  obtain ⟨hb, hR, hS, hF, ⟨hlen, hB0⟩, ⟨hu, hl, hc⟩, hIm, hch, hz⟩ := i15
  cases hn : zlt x ic with
  | false => exact Pr.read (tb2 := 1) hI0 ⟨_, rfl⟩ ((tX11_backN i0 hc hn).kq i6 i7) (fun h1 a b c d e => (tX12_backN a y6 hc hn).mq e) n41
  | true =>
    obtain ⟨j, hj, rfl⟩ := zlt_of (by omega) hn
    obtain ⟨⟨fI, a1, a2⟩, b1, c1⟩ := id i9
    obtain ⟨hA, Z1, kS, FA⟩ := tX5_becomeX (h := h) (s := 1051) (le := 1052) (tr := 1053) hR i5.shp (c1 j hj) ⟨by omega, by omega, by omega⟩ (by omega)
    obtain ⟨t0, la0, sp0, fl0, ft0, s0, s1, s2⟩ := i5.shp
    have c := tX11_backY i0 hc hj a1 (a2 j (by omega)) s0 Z1 ((FA 1000 (by decide) (by decide) (by decide)).trans i0) ((FA 1034 (by decide) (by decide) (by decide)).trans i8.1)
    refine Pr.of c.pr i10 ?_
    rintro _ h1 ⟨rfl, e1⟩
    have K : ∀ a, 1000 < a → a ≠ 1034 → (a < 1051 ∨ 1053 < a) → h1 a = h a := fun a z0 z1 z2 => by rw [e1, zup_ne (by omega), zup_ne z1]; exact FA a (by omega) (by omega) (by omega)
    have K2 : ∀ a, 1063 ≤ a → h1 a = h a := fun a q => K a (by omega) (by omega) (by omega)
    have K3 : ∀ a, a ≠ 1000 → a ≠ 1034 → h1 a = hA a := fun a z z1 => by rw [e1, zup_ne z, zup_ne z1]
    have k0 : h1 1000 = some (zO 7 (kfs st (nI ic) 0 fa pl)) := by rw [e1]; exact zup_same _ _ _
    have kT : Trs h1 := i6.fr (K _ (by decide) (by decide) (by decide)) (K _ (by decide) (by decide) (by decide)) (K _ (by decide) (by decide) (by decide)) (K _ (by decide) (by decide) (by decide))
    have kP : Pst h1 0 la f1 f2 f3 := ⟨by rw [e1, zup_ne (by decide)]; exact zup_same _ _ _, (K _ (by decide) (by decide) (by decide)).trans i8.2.1, (K _ (by decide) (by decide) (by decide)).trans i8.2.2.1, (K _ (by decide) (by decide) (by decide)).trans i8.2.2.2⟩
    obtain ⟨j1, j2, j4, j5, j7, j8, j10, j11, j12⟩ := id i11
    have md := tX12_backY (h := h1) ((K2 _ (by decide)).trans i10) ((K2 _ (by decide)).trans j10) ((K2 _ (by decide)).trans j12) y6 hc hj
    refine ⟨K2 _ (by decide), ⟨_, rfl⟩, md.pr.mono ?_⟩
    rintro _ h2 ⟨rfl, e2⟩
    have M : ∀ a, a ≠ 1063 → a ≠ 1070 → h2 a = h1 a := fun a z1 z2 => by rw [e2, zup_ne z1, zup_ne z2]
    have M2 : ∀ a, a < 1063 → h2 a = h1 a := fun a q => M a (by omega) (by omega)
    have M3 : ∀ a, a ≠ 1000 → a ≠ 1034 → a < 1063 → h2 a = hA a := fun a q1 q2 q3 => (M2 a q3).trans (K3 a q1 q2)
    have eI : ∀ q, q < 40 → ncpy I S (40 * j) 0 40 q = I (40 * j + q) := fun q hq => ncpy_in0 _ _ hq
    refine ⟨rfl, hI0.acts (S2 := ncpy I S (40 * j) 0 40) (U2 := U) (v2 := upd (mv v 0) 22 (nI 0)) ((M2 _ (by decide)).trans k0) (Scn.eq (kS.fr (M3 _ (by decide) (by decide) (by decide)) (M3 _ (by decide) (by decide) (by decide)) (M3 _ (by decide) (by decide) (by decide)) (fun a z1 z2 => M3 a (by omega) (by omega) (by omega))) (eqS_of hR (fun q hq => (eI q hq).symm))) (kT.fr (M2 _ (by decide)) (M2 _ (by decide)) (M2 _ (by decide)) (M2 _ (by decide))) (kP.fr (fun a z1 z2 => M2 a (by omega))) ?_ ?_ ((M _ (by decide) (by decide)).trans ((K2 _ (by decide)).trans j11)) (i12.on (fun a z1 z2 => (M a (by omega) (by omega)).trans (K2 a (by omega)))) (fun a z0 z1 z2 z3 z4 z5 z6 z7 z8 z9 z10 => (M a z7 z8).trans (K a z0 (by omega) z6)) ⟨rfl, rfl, rfl, rfl, rfl, rfl⟩ (wfS_c hR eI (hIm j hj)) ⟨by omega, hl⟩ (Chn.z _ _ _ _ _ _ _) ?_⟩
    · rw [e2]; exact zup_same _ _ _
    · rw [e2, zup_ne (by decide)]; exact zup_same _ _ _
    · cases q : b with
      | true => rfl
      | false => have := (hz q).2.2.2; omega
theorem pr_image {h : ZH} {st sl sr t ds dl dr dt ic len un la : Nat} {tb fa pl : Int32} {B R S F I U f1 f2 f3 : Nat → Nat} {v : Nat → Int32} {b : Bool} (hI : InvP h st sl sr t ds dl dr dt ic len un la tb fa pl B R S F I U f1 f2 f3 v b) : Pr isI mX11_image mX12_image 5 6 [] h := by
  have hI0 := hI
  have hq := hI.tq
  obtain ⟨i0, ⟨kd, ke, kn⟩, i2, i3, i4, i5, i6, i7, i8, i9, i10, i11, i12, ⟨fo, i13⟩, i14, i15⟩ := hI
  obtain ⟨y1, y2, y3, y4, y5, y6, y7⟩ := i14
  obtain ⟨hb, hR, hS, hF, ⟨hlen, hB0⟩, ⟨hu, hl, hc⟩, hIm, hch, hz⟩ := i15
  by_cases hn : 0 < R 1 ∧ ic < 3
  case neg => exact Pr.read hI0 ⟨_, rfl⟩ ((tX11_imageN i0 i5 hR hc hn).kq i6 i7) (fun h1 a b c d e => (tX12_imageN a y4 hb y6 hc hn).mq e) (by split; exact n43; exact n41)
  case pos =>
    obtain ⟨h0, hc3⟩ := hn
    obtain ⟨⟨fI, a1, a2⟩, b1, c1⟩ := id i9
    obtain ⟨hA, Z1, kS, FA⟩ := tX5_becomeX (h := h) (s := 1054 + 3 * ic) (le := 1055 + 3 * ic) (tr := 1056 + 3 * ic) hR (b1 ic hc3) i5 ⟨by omega, by omega, by omega⟩ (by omega)
    obtain ⟨t0, la0, sp0, fl0, ft0, s0, s1, s2⟩ := b1 ic hc3
    have c := tX11_imageY i0 i5 hR h0 hc3 a1 (a2 ic hc3) s0 Z1 ((FA 1000 (by omega) (by omega) (by omega)).trans i0)
    refine Pr.of c.pr i10 ?_
    rintro _ h1 ⟨rfl, e1⟩
    have K : ∀ a, 1000 < a → (a < 1054 + 3 * ic ∨ 1056 + 3 * ic < a) → h1 a = h a := fun a z0 z1 => by rw [e1, zup_ne (by omega)]; exact FA a (by omega) (by omega) (by omega)
    have K2 : ∀ a, 1063 ≤ a → h1 a = h a := fun a q => K a (by omega) (by omega)
    have K3 : ∀ a, a ≠ 1000 → h1 a = hA a := fun a z => by rw [e1, zup_ne z]
    have k0 : h1 1000 = some (zO 7 (kfs st (nI (ic + 1)) 0 fa pl)) := by rw [e1]; exact zup_same _ _ _
    obtain ⟨j1, ⟨j2, j3⟩, j4, ⟨j5, j6⟩, j7, ⟨j8, j9⟩, j10, j11, j12⟩ := id i11
    have md := tX12_imageY (h := h1) ((K2 _ (by decide)).trans i10) ((K2 _ (by decide)).trans j10) y4 hb ((K2 _ (by decide)).trans j12) y6 h0 hc3
    refine ⟨K2 _ (by decide), ⟨_, rfl⟩, md.pr.mono ?_⟩
    rintro _ h2 ⟨rfl, e2⟩
    have M : ∀ a, a ≠ 1063 → a ≠ 1072 → h2 a = h1 a := fun a z1 z2 => by rw [e2, zup_ne z1, zup_ne z2]
    have M2 : ∀ a, a < 1063 → h2 a = h1 a := fun a q => M a (by omega) (by omega)
    have M3 : ∀ a, a ≠ 1000 → a < 1063 → h2 a = hA a := fun a q1 q2 => (M2 a q2).trans (K3 a q1)
    have N : ∀ a, 1000 < a → a < 1063 → (a < 1054 + 3 * ic ∨ 1056 + 3 * ic < a) → h2 a = h a := fun a q1 q2 q3 => (M2 a q2).trans (K a q1 q3)
    have N2 : ∀ a, 1063 < a → a ≠ 1072 → h2 a = h a := fun a q1 q2 => (M a (by omega) q2).trans (K2 a (by omega))
    have D := kd
    have D2 := ke
    unfold DOK at D D2
    have fr1 : ∀ a, drA st a → h2 a = h a := fun a q => by unfold drA at q; exact N a (by omega) (by omega) (by omega)
    have fr2 : ∀ a, drA ds a → h2 a = h a := fun a q => by unfold drA at q; exact N a (by omega) (by omega) (by omega)
    have eI : ∀ j q, j < ic → q < 40 → ncpy S I 0 (40 * ic) 40 (40 * j + q) = I (40 * j + q) := fun j q hj hq => ncpy_out _ _ (by omega)
    have eS : ∀ q, q < 40 → ncpy S I 0 (40 * ic) 40 (40 * ic + q) = S q := fun q hq => (ncpy_in _ _ hq).trans (by rw [Nat.zero_add])
    have hIms : Ims h2 t (ic + 1) R (ncpy S I 0 (40 * ic) 40) := by
      refine ⟨⟨fI, (N _ (by decide) (by decide) (by omega)).trans a1, a2⟩, fun j hj => ?_, fun j hj => ?_⟩
      · by_cases q : j = ic
        · subst q
          exact kS.shp.fr (M3 _ (by omega) (by omega)) (M3 _ (by omega) (by omega)) (M3 _ (by omega) (by omega))
        · exact (b1 j hj).fr (N _ (by omega) (by omega) (by omega)) (N _ (by omega) (by omega) (by omega)) (N _ (by omega) (by omega) (by omega))
      · by_cases q : j = ic
        · subst q
          exact Scn.eq (kS.fr (M3 _ (by omega) (by omega)) (M3 _ (by omega) (by omega)) (M3 _ (by omega) (by omega)) (fun a z1 z2 => M3 a (by omega) (by omega))) (eqS_of hR (fun q hq => (eS q hq).symm))
        · exact Scn.eq ((c1 j (by omega)).nw kd (N _ (by omega) (by omega) (by omega)) (N _ (by omega) (by omega) (by omega)) (N _ (by omega) (by omega) (by omega)) fr1) (eqS_of hR (fun q hq => (eI j q (by omega) hq).symm))
    refine ⟨rfl, st, sl, sr, t, ds, dl, dr, dt, ic + 1, len, un, la, 0, fa, pl, B, R, S, F, ncpy S I 0 (40 * ic) 40, U, f1, f2, f3, upd (mv v 0) 23 (nI (ic + 1)), b, (M2 _ (by decide)).trans k0, ⟨kd, ke, kn⟩, i2.fr (fun a q1 q2 => N a (by omega) (by omega) (by omega)), i3.on ke fr2, i4.dr kd fr1, i5.nw kd (N _ (by decide) (by decide) (by omega)) (N _ (by decide) (by decide) (by omega)) (N _ (by decide) (by decide) (by omega)) fr1, i6.fr (N _ (by decide) (by decide) (by omega)) (N _ (by decide) (by decide) (by omega)) (N _ (by decide) (by decide) (by omega)) (N _ (by decide) (by decide) (by omega)), i7.fr (N _ (by decide) (by decide) (by omega)) (N _ (by decide) (by decide) (by omega)), i8.fr (fun a q1 q2 => N a (by omega) (by omega) (by omega)), hIms, (by rw [e2]; exact zup_same _ _ _), ⟨(N2 _ (by decide) (by decide)).trans j1, ⟨j2, (N2 _ (by decide) (by decide)).trans j3⟩, (N2 _ (by decide) (by decide)).trans j4, ⟨j5, (N2 _ (by decide) (by decide)).trans j6⟩, (N2 _ (by decide) (by decide)).trans j7, ⟨j8, (N2 _ (by decide) (by decide)).trans j9⟩, (N2 _ (by decide) (by decide)).trans j10, (N2 _ (by decide) (by decide)).trans j11, (by rw [e2, zup_ne (by decide)]; exact zup_same _ _ _)⟩, i12.on (fun a q1 q2 => N2 a (by omega) (by omega)), ⟨fo, (N2 _ (by decide) (by decide)).trans i13⟩, ⟨y1, y2, rfl, y4, y5, rfl, fun q => absurd q n40⟩, hb, hR, hS, hF, ⟨hlen, hB0⟩, ⟨hu, hl, by omega⟩, fun j hj => ?_, hch, fun q => ?_⟩
    · by_cases q : j = ic
      · subst q
        exact wfS_c hR (fun q hq => eS q hq) hS
      · exact wfS_c hR (fun q hq => eI j q (by omega) hq) (hIm j (by omega))
    · rw [wfB_t hb h0] at q
      cases q
theorem pr_feed {h : ZH} {st sl sr t ds dl dr dt ic len un la : Nat} {tb fa pl : Int32} {B R S F I U f1 f2 f3 : Nat → Nat} {v : Nat → Int32} {b : Bool} {x1 x2 x3 x4 x5 : Int32} (hI : InvP h st sl sr t ds dl dr dt ic len un la tb fa pl B R S F I U f1 f2 f3 v b) : Pr isI mX11_feed mX12_feed 1 0 [.int x1, .int x2, .int x3, .int x4, .int x5] h := by
  have hI0 := hI
  have hq := hI.tq
  obtain ⟨i0, ⟨kd, ke, kn⟩, i2, i3, i4, i5, i6, i7, i8, i9, i10, i11, i12, ⟨fo, i13⟩, i14, i15⟩ := hI
  obtain ⟨y1, y2, y3, y4, y5, y6, y7⟩ := i14
  obtain ⟨hb, hR, hS, hF, ⟨hlen, hB0⟩, ⟨hu, hl, hc⟩, hIm, hch, hz⟩ := i15
  obtain ⟨⟨a1, a2, a3, ha⟩, ⟨b1, b2, b3, b4, b5, b6, hbb⟩, hcc, hdd⟩ := id i2
  by_cases hn : len ≤ 880
  case neg => exact Pr.tell hI0 (tX11_feedN (B := B) i0 ha hbb ⟨by omega, hlen⟩) (tX12_feedN (B := B) i10 y1 ⟨by omega, hlen⟩)
  case pos =>
    refine Pr.of (tX11_feedY (x1 := x1) (x2 := x2) (x3 := x3) (x4 := x4) (x5 := x5) i0 ha hbb hcc hn) i10 ?_
    rintro _ h1 ⟨rfl, k2, k3, K⟩
    obtain ⟨j1, ⟨j2, j3⟩, j4, ⟨j5, j6⟩, j7, ⟨j8, j9⟩, j10, j11, j12⟩ := id i11
    have md := tX12_feedY (h := h1) (x1 := x1) (x2 := x2) (x3 := x3) (x4 := x4) (x5 := x5) ((K _ (by decide) (by decide)).trans i10) y1 ((K _ (by decide) (by decide)).trans j1) hn
    refine ⟨K _ (by decide) (by decide), ⟨_, rfl⟩, md.mono ?_⟩
    rintro _ h2 ⟨rfl, ⟨v2, m0, v0, v1, vv⟩, m4, M⟩
    have N : ∀ a, a ≠ 1002 → a ≠ 1003 → a ≠ 1063 → a ≠ 1064 → h2 a = h a := fun a q1 q2 q3 q4 => (M a q3 q4).trans (K a q1 q2)
    have D := kd
    have D2 := ke
    unfold DOK at D D2
    have fr1 : ∀ a, drA st a → h2 a = h a := fun a q => by unfold drA at q; exact N a (by omega) (by omega) (by omega) (by omega)
    have fr2 : ∀ a, drA ds a → h2 a = h a := fun a q => by unfold drA at q; exact N a (by omega) (by omega) (by omega) (by omega)
    have N3 : ∀ a, 1003 < a → a < 1063 → h2 a = h a := fun a q1 q2 => N a (by omega) (by omega) (by omega) (by omega)
    have N2 : ∀ a, 1064 < a → h2 a = h a := fun a q1 => N a (by omega) (by omega) (by omega) (by omega)
    obtain ⟨d1, d2, d3, d, d8⟩ := hdd
    exact ⟨rfl, _, _, _, _, _, _, _, _, _, _, _, _, _, _, _, _, _, _, _, _, _, _, _, _, _, _, (N _ (by decide) (by decide) (by decide) (by decide)).trans i0, ⟨kd, ke, kn⟩, ⟨⟨a1, a2, a3, (N _ (by decide) (by decide) (by decide) (by decide)).trans ha⟩, ⟨b1, b2, b3, b4, b5, b6, (M _ (by decide) (by decide)).trans k2⟩, (M _ (by decide) (by decide)).trans k3, ⟨d1, d2, d3, d.on (fun a q1 q2 => N3 a (by omega) (by omega)), d8⟩⟩, i3.on ke fr2, i4.dr kd fr1, i5.nw kd (N3 _ (by decide) (by decide)) (N3 _ (by decide) (by decide)) (N3 _ (by decide) (by decide)) fr1, i6.fr (N3 _ (by decide) (by decide)) (N3 _ (by decide) (by decide)) (N3 _ (by decide) (by decide)) (N3 _ (by decide) (by decide)), i7.fr (N3 _ (by decide) (by decide)) (N3 _ (by decide) (by decide)), i8.fr (fun a q1 q2 => N3 a (by omega) (by omega)), i9.fr kd (N3 _ (by decide) (by decide)) (fun a q1 q2 => N3 a (by omega) (by omega)) hc fr1, m0, ⟨m4, ⟨j2, (N2 _ (by decide)).trans j3⟩, (N2 _ (by decide)).trans j4, ⟨j5, (N2 _ (by decide)).trans j6⟩, (N2 _ (by decide)).trans j7, ⟨j8, (N2 _ (by decide)).trans j9⟩, (N2 _ (by decide)).trans j10, (N2 _ (by decide)).trans j11, (N2 _ (by decide)).trans j12⟩, i12.on (fun a q1 q2 => N2 a (by omega)), ⟨fo, (N2 _ (by decide)).trans i13⟩, ⟨v1, (vv _ (by decide) (by decide)).trans y2, (vv _ (by decide) (by decide)).trans y3, (vv _ (by decide) (by decide)).trans y4, (vv _ (by decide) (by decide)).trans y5, (vv _ (by decide) (by decide)).trans y6, fun q => (vv _ (by decide) (by decide)).trans (y7 q)⟩, hb, hR, hS, hF, ⟨by omega, sFk_lt hB0⟩, ⟨hu, hl, hc⟩, hIm, hch, hz⟩
theorem pr_forest {h : ZH} {st sl sr t ds dl dr dt ic len un la : Nat} {tb fa pl : Int32} {B R S F I U f1 f2 f3 : Nat → Nat} {v : Nat → Int32} {b : Bool} {x : Int32} (hI : InvP h st sl sr t ds dl dr dt ic len un la tb fa pl B R S F I U f1 f2 f3 v b) : ∃ d1, d1 ≤ 10 ∧ Pr isI mX11_forest mX12_forest d1 12 [.int x] h := by
  have hI0 := hI
  have hq := hI.tq
  obtain ⟨i0, ⟨kd, ke, kn⟩, i2, i3, i4, i5, i6, i7, i8, i9, i10, i11, i12, ⟨fo, i13⟩, i14, i15⟩ := hI
  obtain ⟨y1, y2, y3, y4, y5, y6, y7⟩ := i14
  obtain ⟨hb, hR, hS, hF, ⟨hlen, hB0⟩, ⟨hu, hl, hc⟩, hIm, hch, hz⟩ := i15
  obtain ⟨⟨a1, a2, a3, ha⟩, ⟨b1, b2, b3, b4, b5, b6, hbb⟩, hcc, ⟨d1, d2, d3, hd, d8⟩⟩ := id i2
  cases hn : zlt x (len + 1) with
  | false =>
    have hx : decide (nI 0 ≤ x ∧ x ≤ nI len) = false := (zlt_le2 x (by omega)).trans hn
    refine ⟨1, by decide, Pr.read (tb2 := nI 2) hI0 ⟨_, rfl⟩ ((tX11_forestN i0 ha hbb hx).kq i6 i7) (fun h1 a b c d e => (tX12_forestN a (by rw [y1]; exact hx)).mono ?_) (by decide)⟩
    rintro w2 h2 ⟨rfl, m0, M⟩
    exact ⟨rfl, ⟨_, m0, rfl, rfl, rfl, rfl, rfl, rfl, rfl, rfl⟩, e.on (fun a q1 q2 => M a (by omega)), fun a q1 q2 => M a q1⟩
  | true =>
    obtain ⟨n0, hn0, rfl⟩ := zlt_of (by omega) hn
    have D := kd
    have D2 := ke
    unfold DOK at D D2
    refine ⟨10, by decide, ?_⟩
    refine Pr.of (tX11_forestY i0 ke ha hbb hcc hd d8 i3 hlen (by omega) hB0 i5.shp i8.1) i10 ?_
    rintro w1 h1 ⟨k2, k3, k4, kk⟩
    obtain ⟨j1, ⟨j2, j3⟩, j4, ⟨j5, j6⟩, j7, ⟨j8, j9⟩, j10, j11, j12⟩ := id i11
    rcases hE : sEnd (sRd0 B n0) with tk | ee
    · rw [hE] at kk
      obtain ⟨rfl, k0, k1, hX, kA, kB, kP0, K⟩ := kk
      have K2 : ∀ a, 1063 ≤ a → h1 a = h a := fun a q => K a (by omega) (by unfold drA; omega) (by omega) (by omega) (by omega) (by omega)
      have md := tX12_forestY (h := h1) ((K2 _ (by decide)).trans i10) ((K2 _ (by decide)).trans j1) ((K2 _ (by decide)).trans j3) ((K2 _ (by decide)).trans j4) ((K2 _ (by decide)).trans j6) ((K2 _ (by decide)).trans j7) ((K2 _ (by decide)).trans j9) ((K2 _ (by decide)).trans j10) y1 hlen (show n0 ≤ len by omega) hB0
      refine ⟨K2 _ (by decide), ⟨_, rfl⟩, md.mono ?_⟩
      rintro w2 h2 ⟨v2, m0, v0, v1, vv, ⟨L1, g1⟩, ⟨L2, g2⟩, ⟨L3, g3⟩, M, mm⟩
      rw [hE] at mm
      obtain ⟨rfl, u11, u9, u14, u22, u23, r6, r8, r0⟩ := mm
      have M2 : ∀ a, a < 1063 → h2 a = h1 a := fun a q => M a (by omega)
      have N : ∀ a, 1006 < a → a < 1063 → ¬ drA ds a → a ≠ 1034 → a ≠ 1051 → a ≠ 1052 → a ≠ 1053 → h2 a = h a := fun a q1 q2 q3 q4 q5 q6 q7 => (M2 a q2).trans (K a (by omega) q3 q4 q5 q6 q7)
      have N2 : ∀ a, 1070 < a → h2 a = h a := fun a q => (M a (by omega)).trans (K2 a (by omega))
      have N3 : ∀ a, (1018 < a ∧ a < 1034) ∨ (1034 < a ∧ a < 1039) ∨ (1053 < a ∧ a < 1063) → h2 a = h a := fun a q => N a (by omega) (by omega) (by unfold drA; omega) (by omega) (by omega) (by omega) (by omega)
      have fr1 : ∀ a, drA st a → h2 a = h a := fun a q => by unfold drA at q; exact N a (by omega) (by omega) (by unfold drA; omega) (by omega) (by omega) (by omega) (by omega)
      have fr2 : ∀ a, drA ds a → h2 a = h1 a := fun a q => by unfold drA at q; exact M2 a (by omega)
      obtain ⟨c1, s1, n1, k4a, k4b⟩ := k4
      obtain ⟨c2, c3, c4, c5, c6, c7, k2⟩ := k2
      obtain ⟨e1, e2, e3, k1⟩ := k1
      obtain ⟨⟨fI, im1, im2⟩, im3, -⟩ := i9
      have hX1 : 0 < (sRd0 B n0).2.1 1 := by
        have z := hE
        unfold sEnd at z
        cases q : (sRd0 B n0).1 with
        | inr e =>
          rw [q] at z
          have z : (Sum.inr e : TO) = .inl tk := z
          cases z
        | inl t =>
          rw [q] at z
          have z : (if t.1 = 0 then (if (sRd0 B n0).2.1 8 = 0 ∨ (sRd0 B n0).2.1 1 = 0 then .inr (6, t.2.1) else .inl t) else .inr (1, t.2.1) : TO) = .inl tk := z
          by_cases c1 : t.1 = 0
          · rw [if_pos c1] at z
            by_cases c2 : (sRd0 B n0).2.1 8 = 0 ∨ (sRd0 B n0).2.1 1 = 0
            · rw [if_pos c2] at z; cases z
            · omega
          · rw [if_neg c1] at z; cases z
      exact ⟨rfl, ds, dl, dr, dt, st, sl, sr, t, 0, 0, 0, la, 0, nI 0, -1, B, (sRd0 B n0).2.1, (sRd0 B n0).2.2, (sRd0 B n0).2.2, I, U, f1, f2, f3, v2, true, (M2 _ (by decide)).trans k0, ⟨ke, kd, fun q => kn q.symm⟩, ⟨⟨e1, e2, e3, (M2 _ (by decide)).trans k1⟩, ⟨c2, c3, c4, c5, c6, c7, (M2 _ (by decide)).trans k2⟩, (M2 _ (by decide)).trans k3, ⟨c1, s1, n1, k4a.on (fun a q1 q2 => M2 a (by omega)), k4b⟩⟩, i4.drs.on kd fr1, kA.dr ke fr2, kB.nw ke (M2 _ (by decide)) (M2 _ (by decide)) (M2 _ (by decide)) fr2, i6.fr (N3 _ (by decide)) (N3 _ (by decide)) (N3 _ (by decide)) (N3 _ (by decide)), i7.fr (N3 _ (by decide)) (N3 _ (by decide)), ⟨(M2 _ (by decide)).trans kP0, (N3 _ (by decide)).trans i8.2.1, (N3 _ (by decide)).trans i8.2.2.1, (N3 _ (by decide)).trans i8.2.2.2⟩, ⟨⟨fI, (N3 _ (by decide)).trans im1, im2⟩, fun j hj => (im3 j hj).fr (N3 _ (by omega)) (N3 _ (by omega)) (N3 _ (by omega)), fun j hj => by omega⟩, m0, ⟨(M _ (by decide)).trans ((K2 _ (by decide)).trans j1), ⟨L1, g1⟩, r6, ⟨L2, g2⟩, r8, ⟨L3, g3⟩, r0, (N2 _ (by decide)).trans j11, (N2 _ (by decide)).trans j12⟩, i12.on (fun a q1 q2 => N2 a (by omega)), ⟨fo, (N2 _ (by decide)).trans i13⟩, ⟨v1, u9, u11, u14, u22, u23, fun q => absurd q n40⟩, ⟨(decide_eq_true hX1).symm, fun q => by omega⟩, hX.2.1, hX.2.2.1, hX.2.2.1, ⟨by omega, fun j hj => by omega⟩, ⟨by omega, hl, by omega⟩, fun j hj => by omega, Chn.z _ _ _ _ _ _ _, fun q => by cases q⟩
    · rw [hE] at kk
      obtain ⟨rfl, k0, k1, kA, K⟩ := kk
      have K2 : ∀ a, 1063 ≤ a → h1 a = h a := fun a q => K a (by omega) (by unfold drA; omega)
      have md := tX12_forestY (h := h1) ((K2 _ (by decide)).trans i10) ((K2 _ (by decide)).trans j1) ((K2 _ (by decide)).trans j3) ((K2 _ (by decide)).trans j4) ((K2 _ (by decide)).trans j6) ((K2 _ (by decide)).trans j7) ((K2 _ (by decide)).trans j9) ((K2 _ (by decide)).trans j10) y1 hlen (show n0 ≤ len by omega) hB0
      refine ⟨K2 _ (by decide), ⟨_, rfl⟩, md.mono ?_⟩
      rintro w2 h2 ⟨v2, m0, v0, v1, vv, ⟨L1, g1⟩, ⟨L2, g2⟩, ⟨L3, g3⟩, M, mm⟩
      rw [hE] at mm
      obtain ⟨rfl, u11, u9, u10, u14, u22, u23, r6, r8, r0⟩ := mm
      have M2 : ∀ a, a < 1063 → h2 a = h1 a := fun a q => M a (by omega)
      have N : ∀ a, 1006 < a → a < 1063 → ¬ drA ds a → h2 a = h a := fun a q1 q2 q3 => (M2 a q2).trans (K a (by omega) q3)
      have N2 : ∀ a, 1070 < a → h2 a = h a := fun a q => (M a (by omega)).trans (K2 a (by omega))
      have N3 : ∀ a, (1018 < a ∧ a < 1039) ∨ (1050 < a ∧ a < 1063) → h2 a = h a := fun a q => N a (by omega) (by omega) (by unfold drA; omega)
      have fr1 : ∀ a, drA st a → h2 a = h a := fun a q => by unfold drA at q; exact N a (by omega) (by omega) (by unfold drA; omega)
      have fr2 : ∀ a, drA ds a → h2 a = h1 a := fun a q => by unfold drA at q; exact M2 a (by omega)
      obtain ⟨c1, s1, n1, k4a, k4b⟩ := k4
      obtain ⟨c2, c3, c4, c5, c6, c7, k2⟩ := k2
      obtain ⟨e1, e2, e3, k1⟩ := k1
      exact ⟨rfl, st, sl, sr, t, ds, dl, dr, dt, ic, 0, un, la, nI 4, nI ee.1, nI ee.2, B, R, S, F, I, U, f1, f2, f3, v2, b, (M2 _ (by decide)).trans k0, ⟨kd, ke, kn⟩, ⟨⟨e1, e2, e3, (M2 _ (by decide)).trans k1⟩, ⟨c2, c3, c4, c5, c6, c7, (M2 _ (by decide)).trans k2⟩, (M2 _ (by decide)).trans k3, ⟨c1, s1, n1, k4a.on (fun a q1 q2 => M2 a (by omega)), k4b⟩⟩, kA.on ke fr2, i4.dr kd fr1, i5.nw kd (N3 _ (by decide)) (N3 _ (by decide)) (N3 _ (by decide)) fr1, i6.fr (N3 _ (by decide)) (N3 _ (by decide)) (N3 _ (by decide)) (N3 _ (by decide)), i7.fr (N3 _ (by decide)) (N3 _ (by decide)), i8.fr (fun a q1 q2 => N3 a (by omega)), i9.fr kd (N3 _ (by decide)) (fun a q1 q2 => N3 a (by omega)) hc fr1, m0, ⟨(M _ (by decide)).trans ((K2 _ (by decide)).trans j1), ⟨L1, g1⟩, r6.trans ((K2 _ (by decide)).trans j4), ⟨L2, g2⟩, r8.trans ((K2 _ (by decide)).trans j7), ⟨L3, g3⟩, r0.trans ((K2 _ (by decide)).trans j10), (N2 _ (by decide)).trans j11, (N2 _ (by decide)).trans j12⟩, i12.on (fun a q1 q2 => N2 a (by omega)), ⟨fo, (N2 _ (by decide)).trans i13⟩, ⟨v1, u9, u11, u14.trans y4, u22.trans y5, u23.trans y6, fun _ => u10⟩, hb, hR, hS, hF, ⟨by omega, fun j hj => by omega⟩, ⟨hu, hl, hc⟩, hIm, hch, hz⟩
