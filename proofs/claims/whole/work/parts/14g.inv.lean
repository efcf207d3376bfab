theorem aPlace4 (R S : Nat → Nat) (p w : Int32) : (aPlace R S p w).2 ≠ nI 4 := by
  unfold aPlace
  split
  · exact n40
  · exact n41
theorem aMan4 (R S : Nat → Nat) (p w : Int32) : (aMan R S p w).2 ≠ nI 4 := by
  unfold aMan
  split
  · exact n40
  · exact n41
theorem aKill4 (R S : Nat → Nat) (p w : Int32) : (aKill R S p w).2 ≠ nI 4 := by
  unfold aKill
  split
  · exact n40
  · exact n41
theorem aFitAt4 (R S : Nat → Nat) (p w : Int32) : (aFitAt R S p w).2 ≠ nI 4 := by
  unfold aFitAt
  split
  · split
    · exact n40
    · exact n41
  · exact n41
theorem aRAt4 (R S : Nat → Nat) (p w : Int32) : (aRAt R S p w).2 ≠ nI 4 := by
  unfold aRAt
  split
  · split
    · split
      · exact n40
      · exact n41
    · exact n41
  · exact n41
/-- the reader, its tape, the words of its lines -/
def Rdr (h : ZH) (ds len : Nat) (B : Nat → Nat) : Prop := (∃ (ff fa : Int32) (nc : Nat), h 1001 = some (zO 2 (rdf ff fa nc ds))) ∧ (∃ (so sa va en nx : Int32) (co : Int64), h 1002 = some (zO 4 (tpf len so sa va co en nx))) ∧ h 1003 = some (zI 900 B) ∧ ∃ c so nu, NT h zer c so nu ∧ NT8 c so nu
def Cmp (h : ZH) : Prop := h 1032 = some (zO 0 [.ref 1033]) ∧ ∃ g : Nat → Nat, h 1033 = some (zI 4 g)
def Ims (h : ZH) (t ic : Nat) (R I : Nat → Nat) : Prop := (∃ fI : Nat → Option Nat, h 1038 = some (zS 3 fI) ∧ ∀ j, j < 3 → fI j = some (1054 + 3 * j)) ∧ (∀ j, j < 3 → Shp h (1054 + 3 * j) (1055 + 3 * j) (1056 + 3 * j)) ∧ ∀ j, j < ic → Scn h (1054 + 3 * j) (1055 + 3 * j) (1056 + 3 * j) t R (fun i => I (40 * j + i))
def Mo2 (h : ZH) (B R F S U I : Nat → Nat) : Prop := h 1064 = some (zI 900 B) ∧ (∃ L : Nat → Nat, h 1065 = some (zI 8 L)) ∧ h 1066 = some (zI 241 R) ∧ (∃ L : Nat → Nat, h 1067 = some (zI 241 L)) ∧ h 1068 = some (zI 40 F) ∧ (∃ L : Nat → Nat, h 1069 = some (zI 40 L)) ∧ h 1070 = some (zI 40 S) ∧ h 1071 = some (zI 640 U) ∧ h 1072 = some (zI 120 I)
theorem Rdr.fr {h hh : ZH} {ds len : Nat} {B : Nat → Nat} (hR : Rdr h ds len B) (e : ∀ a, 1001 ≤ a → a ≤ 1006 → hh a = h a) : Rdr hh ds len B := by
  obtain ⟨⟨a1, a2, a3, a⟩, ⟨b1, b2, b3, b4, b5, b6, b⟩, c, ⟨d1, d2, d3, d, d8⟩⟩ := hR
  exact ⟨⟨a1, a2, a3, (e _ (by decide) (by decide)).trans a⟩, ⟨b1, b2, b3, b4, b5, b6, (e _ (by decide) (by decide)).trans b⟩, (e _ (by decide) (by decide)).trans c, ⟨d1, d2, d3, d.on (fun a q1 q2 => e a (by omega) (by omega)), d8⟩⟩
theorem Shp.fr {h hh : ZH} {s le tr : Nat} (hS : Shp h s le tr) (e1 : hh s = h s) (e2 : hh le = h le) (e3 : hh tr = h tr) : Shp hh s le tr := by
  obtain ⟨a1, a2, a3, a4, a5, b1, b2, b3⟩ := hS
  exact ⟨a1, a2, a3, a4, a5, e1.trans b1, e2.trans b2, e3.trans b3⟩
theorem Trs.fr {h hh : ZH} (hT : Trs h) (e1 : hh 1019 = h 1019) (e2 : hh 1020 = h 1020) (e3 : hh 1030 = h 1030) (e4 : hh 1031 = h 1031) : Trs hh := by
  obtain ⟨⟨x1, x2, a⟩, b⟩ := hT
  exact ⟨⟨x1, x2, e1.trans a⟩, b.fr e2 e3 e4⟩
theorem Cmp.fr {h hh : ZH} (hC : Cmp h) (e1 : hh 1032 = h 1032) (e2 : hh 1033 = h 1033) : Cmp hh := by
  obtain ⟨a, g, b⟩ := hC
  exact ⟨e1.trans a, g, e2.trans b⟩
theorem Pst.fr {h hh : ZH} {un la : Nat} {f1 f2 f3 : Nat → Nat} (hP : Pst h un la f1 f2 f3) (e : ∀ a, 1034 ≤ a → a ≤ 1037 → hh a = h a) : Pst hh un la f1 f2 f3 := by
  obtain ⟨a, b, c, d⟩ := hP
  exact ⟨(e _ (by decide) (by decide)).trans a, (e _ (by decide) (by decide)).trans b, (e _ (by decide) (by decide)).trans c, (e _ (by decide) (by decide)).trans d⟩
theorem Scn.dr {h hh : ZH} {st sl sr t : Nat} {R S : Nat → Nat} (hC : Scn h st sl sr t R S) (hK : DOK st sl sr t) (e : ∀ a, drA st a → hh a = h a) : Scn hh st sl sr t R S := by
  unfold drA at e
  unfold DOK at hK
  exact hC.fr (e _ (by omega)) (e _ (by omega)) (e _ (by omega)) (fun a q1 q2 => e a (by omega))
theorem Scn.nw {h hh : ZH} {st sl sr t s le tr : Nat} {R S : Nat → Nat} (hC : Scn h s le tr t R S) (hK : DOK st sl sr t) (e1 : hh s = h s) (e2 : hh le = h le) (e3 : hh tr = h tr) (e : ∀ a, drA st a → hh a = h a) : Scn hh s le tr t R S := by
  unfold drA at e
  unfold DOK at hK
  exact hC.fr e1 e2 e3 (fun a q1 q2 => e a (by omega))
theorem Scn.drs {h : ZH} {st sl sr t : Nat} {R S : Nat → Nat} (hC : Scn h st sl sr t R S) : DrS h st sl sr t := by
  obtain ⟨⟨fc, fh, fn, fk, fs, ff, fw, fe, a0, a1, a2, a3, a4, a5, a6, a7, a8, -⟩, fl, ft, b0, b1, b2, -⟩ := hC
  exact ⟨fc, fh, fn, fk, fs, ff, fw, fe, fl, ft, _, _, _, a0, a1, a2, a3, a4, a5, a6, a7, a8, b0, b1, b2⟩
theorem Ims.fr {h hh : ZH} {st sl sr t ic : Nat} {R I : Nat → Nat} (hI : Ims h t ic R I) (hK : DOK st sl sr t) (e1 : hh 1038 = h 1038) (e2 : ∀ a, 1054 ≤ a → a ≤ 1062 → hh a = h a) (hc : ic ≤ 3) (e : ∀ a, drA st a → hh a = h a) : Ims hh t ic R I := by
  obtain ⟨⟨fI, a, a2⟩, b, c⟩ := hI
  exact ⟨⟨fI, e1.trans a, a2⟩, fun j hj => (b j hj).fr (e2 _ (by omega) (by omega)) (e2 _ (by omega) (by omega)) (e2 _ (by omega) (by omega)), fun j hj => (c j hj).nw hK (e2 _ (by omega) (by omega)) (e2 _ (by omega) (by omega)) (e2 _ (by omega) (by omega)) e⟩
theorem Mo2.fr {h hh : ZH} {B R F S U I : Nat → Nat} (hM : Mo2 h B R F S U I) (e : ∀ a, 1064 ≤ a → a ≤ 1072 → hh a = h a) : Mo2 hh B R F S U I := by
  obtain ⟨a, ⟨b1, b⟩, c, ⟨d1, d⟩, f, ⟨g1, g⟩, i, j, k⟩ := hM
  exact ⟨(e _ (by decide) (by decide)).trans a, ⟨b1, (e _ (by decide) (by decide)).trans b⟩, (e _ (by decide) (by decide)).trans c, ⟨d1, (e _ (by decide) (by decide)).trans d⟩, (e _ (by decide) (by decide)).trans f, ⟨g1, (e _ (by decide) (by decide)).trans g⟩, (e _ (by decide) (by decide)).trans i, (e _ (by decide) (by decide)).trans j, (e _ (by decide) (by decide)).trans k⟩
theorem mJ.on {h hh : ZH} (hJ : mJ h) (e : ∀ a, 1073 ≤ a → a ≤ 1077 → hh a = h a) : mJ hh := by
  obtain ⟨⟨a1, a⟩, ⟨b1, b⟩, ⟨c1, c⟩, ⟨d1, d⟩, ⟨g1, g⟩⟩ := hJ
  exact ⟨⟨a1, (e _ (by decide) (by decide)).trans a⟩, ⟨b1, (e _ (by decide) (by decide)).trans b⟩, ⟨c1, (e _ (by decide) (by decide)).trans c⟩, ⟨d1, (e _ (by decide) (by decide)).trans d⟩, ⟨g1, (e _ (by decide) (by decide)).trans g⟩⟩
/-- the words of both sides -/
def Tyf (ic len un : Nat) (tb fa pl : Int32) (v : Nat → Int32) (b : Bool) : Prop := v 2 = nI len ∧ v 9 = fa ∧ v 11 = tb ∧ v 14 = zb b ∧ v 22 = nI un ∧ v 23 = nI ic ∧ (tb = nI 4 → v 10 = pl)
def Tyw (ic len un la : Nat) (B R S F I U f1 f2 f3 : Nat → Nat) (b : Bool) : Prop := wfB b R ∧ wfR R ∧ wfS R S ∧ wfS R F ∧ (len ≤ 900 ∧ ∀ j, j < len → B j < 256) ∧ (un ≤ 16 ∧ la < 16 ∧ ic ≤ 3) ∧ (∀ j, j < ic → wfS R (fun i => I (40 * j + i))) ∧ Chn R S U un la f1 f2 f3 ∧ (b = false → (∀ i, i < 8 → R i = 0) ∧ S 39 = 0 ∧ un = 0 ∧ ic = 0)
/-- class and reference, side by side -/
def InvP (h : ZH) (st sl sr t ds dl dr dt ic len un la : Nat) (tb fa pl : Int32) (B R S F I U f1 f2 f3 : Nat → Nat) (v : Nat → Int32) (b : Bool) : Prop := h 1000 = some (zO 7 (kfs st (nI ic) tb fa pl)) ∧ (DOK st sl sr t ∧ DOK ds dl dr dt ∧ st ≠ ds) ∧ Rdr h ds len B ∧ DrS h ds dl dr dt ∧ Scn h st sl sr t R F ∧ Scn h 1051 1052 1053 t R S ∧ Trs h ∧ Cmp h ∧ Pst h un la f1 f2 f3 ∧ Ims h t ic R I ∧ h 1063 = some (zO 8 (mfs v)) ∧ Mo2 h B R F S U I ∧ mJ h ∧ (∃ f : Nat → Int64, h 1078 = some (zL 1 f)) ∧ Tyf ic len un tb fa pl v b ∧ Tyw ic len un la B R S F I U f1 f2 f3 b
def Inv (h : ZH) : Prop := ∃ (st sl sr t ds dl dr dt ic len un la : Nat) (tb fa pl : Int32) (B R S F I U f1 f2 f3 : Nat → Nat) (v : Nat → Int32) (b : Bool), InvP h st sl sr t ds dl dr dt ic len un la tb fa pl B R S F I U f1 f2 f3 v b
theorem InvP.tq {h : ZH} {st sl sr t ds dl dr dt ic len un la : Nat} {tb fa pl : Int32} {B R S F I U f1 f2 f3 : Nat → Nat} {v : Nat → Int32} {b : Bool} (hI : InvP h st sl sr t ds dl dr dt ic len un la tb fa pl B R S F I U f1 f2 f3 v b) : t = 1008 ∨ t = 1039 := by
  have := hI.2.1.1
  unfold DOK at this
  omega
theorem InvP.core {h h2 : ZH} {st sl sr t ds dl dr dt ic len un la : Nat} {tb fa pl : Int32} {B R S F I U f1 f2 f3 : Nat → Nat} {v : Nat → Int32} {b : Bool} {tb2 : Int32} {v2 : Nat → Int32} (hI : InvP h st sl sr t ds dl dr dt ic len un la tb fa pl B R S F I U f1 f2 f3 v b) (k0 : h2 1000 = some (zO 7 (kfs st (nI ic) tb2 fa pl))) (kT : Trs h2) (kg : ∃ g : Nat → Nat, h2 1033 = some (zI 4 g)) (m0 : h2 1063 = some (zO 8 (mfs v2))) (mj : mJ h2) (fr : ∀ a, 1000 < a → a ≠ 1019 → a ≠ 1020 → a ≠ 1030 → a ≠ 1031 → a ≠ 1033 → a ≠ 1063 → (a < 1073 ∨ 1077 < a) → h2 a = h a) (e : v2 2 = v 2 ∧ v2 9 = v 9 ∧ v2 10 = v 10 ∧ v2 11 = tb2 ∧ v2 14 = v 14 ∧ v2 22 = v 22 ∧ v2 23 = v 23) (n4 : tb2 = nI 4 → tb = nI 4) : InvP h2 st sl sr t ds dl dr dt ic len un la tb2 fa pl B R S F I U f1 f2 f3 v2 b := by
  obtain ⟨-, ⟨kd, ke, kn⟩, i2, i3, i4, i5, -, i7, i8, i9, -, i11, -, ⟨fo, i13⟩, i14, i15⟩ := hI
  obtain ⟨y1, y2, y3, y4, y5, y6, y7⟩ := i14
  obtain ⟨e1, e2, e3, e4, e5, e6, e7⟩ := e
  have D := kd
  have D2 := ke
  unfold DOK at D D2
  have fr1 : ∀ a, drA st a → h2 a = h a := fun a q => by unfold drA at q; exact fr a (by omega) (by omega) (by omega) (by omega) (by omega) (by omega) (by omega) (by omega)
  have fr2 : ∀ a, drA ds a → h2 a = h a := fun a q => by unfold drA at q; exact fr a (by omega) (by omega) (by omega) (by omega) (by omega) (by omega) (by omega) (by omega)
  have fr3 : ∀ a, 1033 < a → a < 1063 → h2 a = h a := fun a q1 q2 => fr a (by omega) (by omega) (by omega) (by omega) (by omega) (by omega) (by omega) (by omega)
  refine ⟨k0, ⟨kd, ke, kn⟩, i2.fr (fun a q1 q2 => fr a (by omega) (by omega) (by omega) (by omega) (by omega) (by omega) (by omega) (by omega)), i3.on ke fr2, i4.dr kd fr1, i5.nw kd (fr3 _ (by decide) (by decide)) (fr3 _ (by decide) (by decide)) (fr3 _ (by decide) (by decide)) fr1, kT, ⟨(fr _ (by decide) (by decide) (by decide) (by decide) (by decide) (by decide) (by decide) (by decide)).trans i7.1, kg⟩, i8.fr (fun a q1 q2 => fr3 a (by omega) (by omega)), i9.fr kd (fr3 _ (by decide) (by decide)) (fun a q1 q2 => fr3 a (by omega) (by omega)) i15.2.2.2.2.2.1.2.2 fr1, m0, i11.fr (fun a q1 q2 => fr a (by omega) (by omega) (by omega) (by omega) (by omega) (by omega) (by omega) (by omega)), mj, ⟨fo, (fr _ (by decide) (by decide) (by decide) (by decide) (by decide) (by decide) (by decide) (by decide)).trans i13⟩, ⟨e1.trans y1, e2.trans y2, e4, e5.trans y4, e6.trans y5, e7.trans y6, fun q => e3.trans (y7 (n4 q))⟩, i15⟩
def isI (w : Value) : Prop := ∃ x, w = .int x
def isJ (w : Value) : Prop := ∃ x, w = .long x
/-- a call of the class, then the same call of the reference: one answer, and all holds again -/
abbrev Pr (K : Value → Prop) (M1 M2 : ZM) (d1 d2 : Nat) (as : List Value) (h : ZH) : Prop := ZQ1 M1 d1 (.ref 1000 :: as) h (fun w h1 => K w ∧ (∃ fs, h1 1063 = some (zO 8 fs)) ∧ ZQ1 M2 d2 (.ref 1063 :: as) h1 (fun w2 h2 => w2 = w ∧ Inv h2))
theorem Pr.of {K : Value → Prop} {M1 M2 : ZM} {d1 d2 : Nat} {as : List Value} {h : ZH} {P : Value → ZH → Prop} {fs : List Value} (c : ZQ1 M1 d1 (.ref 1000 :: as) h P) (m0 : h 1063 = some (zO 8 fs)) (f : ∀ w h1, P w h1 → h1 1063 = h 1063 ∧ K w ∧ ZQ1 M2 d2 (.ref 1063 :: as) h1 (fun w2 h2 => w2 = w ∧ Inv h2)) : Pr K M1 M2 d1 d2 as h :=
  ZQ1.mono c (fun w h1 hp => by obtain ⟨a, b, c⟩ := f w h1 hp; exact ⟨b, ⟨fs, a.trans m0⟩, c⟩)
def kQ3 (h hh : ZH) (st : Nat) (ic tb fa pl : Int32) : Prop := hh 1000 = some (zO 7 (kfs st ic tb fa pl)) ∧ Trs hh ∧ (∃ g : Nat → Nat, hh 1033 = some (zI 4 g)) ∧ ∀ a, a ≠ 1000 → a ≠ 1019 → a ≠ 1020 → a ≠ 1030 → a ≠ 1031 → a ≠ 1033 → hh a = h a
theorem kQ.q3 {h hh : ZH} {st : Nat} {ic tb fa pl : Int32} (k : kQ h hh st ic tb fa pl) (hg : Cmp h) : kQ3 h hh st ic tb fa pl := by
  obtain ⟨a, b, c⟩ := k
  obtain ⟨-, g, hg⟩ := hg
  exact ⟨a, b, ⟨g, (c _ (by decide) (by decide) (by decide) (by decide) (by decide)).trans hg⟩, fun x q1 q2 q3 q4 q5 _ => c x q1 q2 q3 q4 q5⟩
theorem kQ3.to {h hh : ZH} {st : Nat} {ic tb fa pl : Int32} (hT : Trs h) (hg : Cmp h) : kQ3 h (zup h 1000 (zO 7 (kfs st ic tb fa pl))) st ic tb fa pl := (kQ.of0 st ic tb fa pl hT).q3 hg
theorem mQ.to {h : ZH} {v : Nat → Int32} (hJ : mJ h) : mQ h (zup h 1063 (zO 8 (mfs v))) v := by
  refine ⟨⟨v, zup_same _ _ _, rfl, rfl, rfl, rfl, rfl, rfl, rfl, rfl⟩, hJ.on (fun a q1 q2 => zup_ne (by omega)), fun a q1 q2 => zup_ne q1⟩
theorem ZD.kq {M : ZM} {d : Nat} {as : List Value} {h : ZH} {w : Value} {st : Nat} {ic tb fa pl : Int32} (hm : ZD M d as h (some w) (zup h 1000 (zO 7 (kfs st ic tb fa pl)))) (hT : Trs h) (hg : Cmp h) : ZQ1 M d as h (fun w2 hh => w2 = w ∧ kQ3 h hh st ic tb fa pl) := hm.q1 ⟨rfl, kQ3.to (hh := h) hT hg⟩
theorem ZQ1.kq {M : ZM} {d : Nat} {as : List Value} {h : ZH} {w : Value} {st : Nat} {ic tb fa pl : Int32} (hm : ZQ1 M d as h (fun w2 hh => w2 = w ∧ kQ h hh st ic tb fa pl)) (hg : Cmp h) : ZQ1 M d as h (fun w2 hh => w2 = w ∧ kQ3 h hh st ic tb fa pl) := hm.mono (fun _ _ q => ⟨q.1, q.2.q3 hg⟩)
theorem ZD.mq {M : ZM} {d : Nat} {as : List Value} {h : ZH} {w : Value} {v : Nat → Int32} (hm : ZD M d as h (some w) (zup h 1063 (zO 8 (mfs v)))) (hJ : mJ h) : ZQ1 M d as h (fun w2 hh => w2 = w ∧ mQ h hh v) := hm.q1 ⟨rfl, mQ.to hJ⟩
/-- calls that only read -/
theorem Pr.read {K : Value → Prop} {M1 M2 : ZM} {d1 d2 : Nat} {as : List Value} {h : ZH} {w : Value} {tb2 : Int32} {st sl sr t ds dl dr dt ic len un la : Nat} {tb fa pl : Int32} {B R S F I U f1 f2 f3 : Nat → Nat} {v : Nat → Int32} {b : Bool} (hI : InvP h st sl sr t ds dl dr dt ic len un la tb fa pl B R S F I U f1 f2 f3 v b) (hw : K w) (c : ZQ1 M1 d1 (.ref 1000 :: as) h (fun w2 hh => w2 = w ∧ kQ3 h hh st (nI ic) tb2 fa pl)) (m : ∀ h1 : ZH, h1 1063 = some (zO 8 (mfs v)) → h1 1066 = some (zI 241 R) → h1 1070 = some (zI 40 S) → h1 1068 = some (zI 40 F) → mJ h1 → ZQ1 M2 d2 (.ref 1063 :: as) h1 (fun w2 hh => w2 = w ∧ mQ h1 hh (mv v tb2))) (n4 : tb2 ≠ nI 4) : Pr K M1 M2 d1 d2 as h := by
  have hI0 := hI
  obtain ⟨-, -, -, -, -, -, -, -, -, -, i10, i11, i12, -⟩ := hI
  refine Pr.of c i10 ?_
  rintro w1 h1 ⟨rfl, k0, kT, kg, kf⟩
  have kf2 : ∀ a, 1063 ≤ a → h1 a = h a := fun a q => kf a (by omega) (by omega) (by omega) (by omega) (by omega) (by omega)
  refine ⟨kf2 _ (by decide), hw, (m h1 ((kf2 _ (by decide)).trans i10) ((kf2 _ (by decide)).trans i11.2.2.1) ((kf2 _ (by decide)).trans i11.2.2.2.2.2.2.1) ((kf2 _ (by decide)).trans i11.2.2.2.2.1) (i12.on (fun a q1 q2 => kf2 a (by omega)))).mono ?_⟩
  rintro w2 h2 ⟨rfl, ⟨v2, m0, u0, u2, u9, u10, u11, u14, u22, u23⟩, mj, mf⟩
  have mf2 : ∀ a, a < 1063 → h2 a = h1 a := fun a q => mf a (by omega) (by omega)
  refine ⟨rfl, _, _, _, _, _, _, _, _, _, _, _, _, _, _, _, _, _, _, _, _, _, _, _, _, _, _, hI0.core ((mf2 _ (by decide)).trans k0) (kT.fr (mf2 _ (by decide)) (mf2 _ (by decide)) (mf2 _ (by decide)) (mf2 _ (by decide))) (by obtain ⟨g, kg⟩ := kg; exact ⟨g, (mf2 _ (by decide)).trans kg⟩) m0 mj (fun a q1 q2 q3 q4 q5 q6 q7 q8 => (mf a q7 q8).trans (kf a (by omega) q2 q3 q4 q5 q6)) ⟨u2, u9, u10, u11, u14, u22, u23⟩ (fun q => absurd q n4)⟩
/-- calls that only tell -/
theorem Pr.tell {M1 M2 : ZM} {d1 d2 : Nat} {as : List Value} {h : ZH} {w : Int32} {st sl sr t ds dl dr dt ic len un la : Nat} {tb fa pl : Int32} {B R S F I U f1 f2 f3 : Nat → Nat} {v : Nat → Int32} {b : Bool} (hI : InvP h st sl sr t ds dl dr dt ic len un la tb fa pl B R S F I U f1 f2 f3 v b) (c : ZD M1 d1 (.ref 1000 :: as) h (some (.int w)) h) (m : ZD M2 d2 (.ref 1063 :: as) h (some (.int w)) (zup h 1063 (zO 8 (mfs (upd v 0 0))))) : Pr isI M1 M2 d1 d2 as h := by
  have hI0 := hI
  obtain ⟨i0, -, -, -, -, -, i6, i7, -, -, i10, i11, i12, -, i14, -⟩ := hI
  refine c.q1 ⟨⟨_, rfl⟩, ⟨_, i10⟩, m.q1 ⟨rfl, _, _, _, _, _, _, _, _, _, _, _, _, _, _, _, _, _, _, _, _, _, _, _, _, _, _, hI0.core (v2 := upd v 0 0) ((zup_ne (by decide)).trans i0) (i6.fr (zup_ne (by decide)) (zup_ne (by decide)) (zup_ne (by decide)) (zup_ne (by decide))) (by obtain ⟨-, g, hg⟩ := i7; exact ⟨g, (zup_ne (by decide)).trans hg⟩) (zup_same _ _ _) (i12.on (fun a q1 q2 => zup_ne (by omega))) (fun a q1 q2 q3 q4 q5 q6 q7 q8 => zup_ne q7) ⟨rfl, rfl, rfl, i14.2.2.1, rfl, rfl, rfl⟩ (fun q => q)⟩⟩
