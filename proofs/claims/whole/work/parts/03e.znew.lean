section ZNEW
variable {X : ZX} {M : ZM} {Q : State → Prop} {pc : Nat} {lv : List (Nat × Value)} {st : List Value} {h : ZH} {n cs sl d RC RS : Nat}
theorem z_new (C : zOk X M d RC RS) {idx ci N : Nat} {C0 : String} {T : u_T} (ty0 : Nat → FieldType) {fs : List Value} (D : decode M.2.1 pc = .ok (.new idx, 3)) (hc : vwCl[ci]? = some (C0, T, N)) (hin : ∀ w ∈ u_ws C0 T N, w ∈ zWS) (hty : ∀ k, k < N → parseFieldDescriptor (T k).2.2.1 = some (ty0 k)) (L1 : Cond.classLink M.1.cls idx C0 ∈ zWS) (L2 : Cond.instantiable C0 N ∈ zWS) (L3 : Cond.initialized C0 ∈ zWS) (hfs : ∀ am : Nat → Nat, ∀ j, j < N → defaultValue (ty0 j) = vp_V (fs.map (zv am)) j) (h1 : cs + 1 ≤ RC) (h2 : sl + N ≤ RS) (K : Zc X M Q (pc + 3) lv (.ref n :: st) (zup h n (.inr (ci, fs))) (n + 1) (cs + 1) (sl + N)) : Zc X M Q pc lv st h n cs sl := by
  obtain ⟨p, l, e, R, s, m, args, below, meth, c, G⟩ := X
  obtain ⟨hx, hb, hml, hown, hts, hlk, hret, hw, hdf, hdl, hrc, hrs, hnm⟩ := C
  intro H ls locs hh hS hl
  have hKn := hw.1.1 ci _ hc
  refine W.newcK hx hb hown (hts _ L1) (hts _ L2) (hts _ L3) rfl D (by rw [hrc]; exact h1) (by rw [hrs]; exact h2) hKn.2.1 rfl fun H1 kC hkC e1 z1 o1 => ?_
  have hb' : va_at G.1 vwCl (H.size, zc G (.inr (ci, fs))) H1 := ⟨_, hc, (u_born ty0 hts hin hKn hkC e1 hty).to (hfs G.2.2.1)⟩
  have K' := K H1 ls locs (hh.push hw.2.1 z1 o1 hb') ⟨Nat.le_trans hS.1 (by omega), fun x g1 g2 => (o1 x (Nat.lt_of_lt_of_le g1 hS.1)).trans (hS.2.1 x g1 g2), hS.2.2⟩ hl
  have ea : zv G.2.2.1 (.ref n) = .ref H.size := by show Value.ref (G.2.2.1 n) = _; rw [hh.at hw.2.1]
  rw [List.map_cons, ea] at K'
  exact K'
theorem z_newa (C : zOk X M d RC RS) {i : Int32} {N : Nat} (D : decode M.2.1 pc = .ok (.newarray .int, 2)) (L : Cond.arrayClass .int ∈ zWS) (hn : ¬ i < 0) (hN : i.toNatClampNeg = N) (hb0 : N ≤ 100000) (h1 : cs + 1 ≤ RC) (h2 : sl + N ≤ RS) (K : Zc X M Q (pc + 2) lv (.ref n :: st) (zup h n (zI N (fun _ => 0))) (n + 1) (cs + 1) (sl + N)) : Zc X M Q pc lv (.int i :: st) h n cs sl := by
  obtain ⟨p, l, e, R, s, m, args, below, meth, c, G⟩ := X
  obtain ⟨hx, hb, hml, hown, hts, hlk, hret, hw, hdf, hdl, hrc, hrs, hnm⟩ := C
  intro H ls locs hh hS hl
  refine va_newaK hx hb (atype := .int) (hts _ L) rfl D rfl hn hN (by show N * 4 ≤ _; omega) (by rw [hrc]; exact h1) (by rw [hrs]; exact h2) rfl fun H1 cA e1 z1 o1 hAr hNm => ?_
  have hcA : cA = G.2.1 0 := Option.some.inj (hNm.symm.trans (hw.1.2 0 _ rfl).2)
  subst hcA
  have hb' : va_at G.1 vwCl (H.size, zc G (zI N (fun _ => 0))) H1 := e1
  have K' := K H1 ls locs (hh.push hw.2.1 z1 o1 hb') ⟨Nat.le_trans hS.1 (by omega), fun x g1 g2 => (o1 x (Nat.lt_of_lt_of_le g1 hS.1)).trans (hS.2.1 x g1 g2), hS.2.2⟩ hl
  have ea : zv G.2.2.1 (.ref n) = .ref H.size := by show Value.ref (G.2.2.1 n) = _; rw [hh.at hw.2.1]
  rw [List.map_cons, ea] at K'
  exact K'
theorem z_newl (C : zOk X M d RC RS) {i : Int32} {N : Nat} (D : decode M.2.1 pc = .ok (.newarray .long, 2)) (L : Cond.arrayClass .long ∈ zWS) (hn : ¬ i < 0) (hN : i.toNatClampNeg = N) (hb0 : N ≤ 100000) (h1 : cs + 1 ≤ RC) (h2 : sl + N ≤ RS) (K : Zc X M Q (pc + 2) lv (.ref n :: st) (zup h n (zL N (fun _ => 0))) (n + 1) (cs + 1) (sl + N)) : Zc X M Q pc lv (.int i :: st) h n cs sl := by
  obtain ⟨p, l, e, R, s, m, args, below, meth, c, G⟩ := X
  obtain ⟨hx, hb, hml, hown, hts, hlk, hret, hw, hdf, hdl, hrc, hrs, hnm⟩ := C
  intro H ls locs hh hS hl
  refine va_newaK hx hb (atype := .long) (hts _ L) rfl D rfl hn hN (by show N * 8 ≤ _; omega) (by rw [hrc]; exact h1) (by rw [hrs]; exact h2) rfl fun H1 cA e1 z1 o1 hAr hNm => ?_
  have hcA : cA = G.2.1 1 := Option.some.inj (hNm.symm.trans (hw.1.2 1 _ rfl).2)
  subst hcA
  have hb' : va_at G.1 vwCl (H.size, zc G (zL N (fun _ => 0))) H1 := e1
  have K' := K H1 ls locs (hh.push hw.2.1 z1 o1 hb') ⟨Nat.le_trans hS.1 (by omega), fun x g1 g2 => (o1 x (Nat.lt_of_lt_of_le g1 hS.1)).trans (hS.2.1 x g1 g2), hS.2.2⟩ hl
  have ea : zv G.2.2.1 (.ref n) = .ref H.size := by show Value.ref (G.2.2.1 n) = _; rw [hh.at hw.2.1]
  rw [List.map_cons, ea] at K'
  exact K'
theorem z_objInit (C : zOk X M d RC RS) {idx a : Nat} (D : decode M.2.1 pc = .ok (.invokespecial idx, 3)) (L : Cond.methodLink M.1.cls idx Lib.objectInit ∈ zWS) (L2 : Cond.instanceMethod Lib.objectInit ∈ zWS) (L3 : Cond.code Lib.objectInit ⟨#[0xb1]⟩ 1 none ∈ zWS) (hd : 1 ≤ d) (hc : (st.map fun v => v.category).sum ≤ 8) (K : Zc X M Q (pc + 3) lv st h n cs sl) : Zc X M Q pc lv (.ref a :: st) h n cs sl := by
  obtain ⟨p, l, e, R, s, m, args, below, meth, c, G⟩ := X
  obtain ⟨hx, hb, hml, hown, hts, hlk, hret, hw, hdf, hdl, hrc, hrs, hnm⟩ := C
  intro H ls locs hh hS hl
  have hr := lv_room (m := m) (pc := pc) (ls := ls) (rest := (Value.ref a :: st).map (zv G.2.2.1)) (st := st.map (zv G.2.2.1)) (by rw [zcat]; exact hc)
  exact W.objInit hx hb hown (hts _ L) (hts _ L2) (hts _ L3) rfl (hl.1.trans hml.symm) rfl D (by omega) (by
    have : 64 ≤ R.locals := by omega
    omega) (K H ls locs hh hS hl)
theorem z_mmax (C : zOk X M d RC RS) {idx : Nat} {x y : Int32} (D : decode M.2.1 pc = .ok (.invokestatic idx, 3)) (L : Cond.methodLink M.1.cls idx Lib.Math.max.name ∈ zWS) (L2 : Cond.static Lib.Math.max.name ∈ zWS) (L3 : Cond.initialized "java/lang/Math" ∈ zWS) (L4 : Cond.code Lib.Math.max.name Lib.Math.max.code 2 (some .int) ∈ zWS) (hd : 1 ≤ d) (hc : (st.map fun v => v.category).sum ≤ 8) (h1 : cs ≤ RC) (h2 : sl ≤ RS) (K : Zc X M Q (pc + 3) lv (.int (if x < y then y else x) :: st) h n cs sl) : Zc X M Q pc lv (.int y :: .int x :: st) h n cs sl := by
  obtain ⟨p, l, e, R, s, m, args, below, meth, c, G⟩ := X
  obtain ⟨hx, hb, hml, hown, hts, hlk, hret, hw, hdf, hdl, hrc, hrs, hnm⟩ := C
  intro H ls locs hh hS hl
  exact va_mmax hx hb (hml.trans hl.1.symm) hown (hts _ L) (hts _ L2) (hts _ L3) (hts _ L4) (by omega) (by rw [zcat]; omega) (by rw [hrc]; exact h1) (by rw [hrs]; exact h2) D (K H ls locs hh hS hl)
theorem z_mmin (C : zOk X M d RC RS) {idx : Nat} {x y : Int32} (D : decode M.2.1 pc = .ok (.invokestatic idx, 3)) (L : Cond.methodLink M.1.cls idx Lib.Math.min.name ∈ zWS) (L2 : Cond.static Lib.Math.min.name ∈ zWS) (L3 : Cond.initialized "java/lang/Math" ∈ zWS) (L4 : Cond.code Lib.Math.min.name Lib.Math.min.code 2 (some .int) ∈ zWS) (hd : 1 ≤ d) (hc : (st.map fun v => v.category).sum ≤ 8) (h1 : cs ≤ RC) (h2 : sl ≤ RS) (K : Zc X M Q (pc + 3) lv (.int (if y < x then y else x) :: st) h n cs sl) : Zc X M Q pc lv (.int y :: .int x :: st) h n cs sl := by
  obtain ⟨p, l, e, R, s, m, args, below, meth, c, G⟩ := X
  obtain ⟨hx, hb, hml, hown, hts, hlk, hret, hw, hdf, hdl, hrc, hrs, hnm⟩ := C
  intro H ls locs hh hS hl
  exact va_mmin hx hb (hml.trans hl.1.symm) hown (hts _ L) (hts _ L2) (hts _ L3) (hts _ L4) (by omega) (by rw [zcat]; omega) (by rw [hrc]; exact h1) (by rw [hrs]; exact h2) D (K H ls locs hh hS hl)
theorem z_copy (C : zOk X M d RC RS) {idx a a0 n0 n1 : Nat} {f g : Nat → Int32} {sp dp k : Int32} (D : decode M.2.1 pc = .ok (.invokestatic idx, 3)) (L : Cond.methodLink M.1.cls idx arraycopyName ∈ zWS) (L2 : Cond.native arraycopyName ∈ zWS) (L3 : Cond.static arraycopyName ∈ zWS) (L4 : Cond.initialized "java/lang/System" ∈ zWS) (hd : 1 ≤ d) (hc : (st.map fun v => v.category).sum ≤ 8) (ha0 : h a0 = some (.inl (0, n0, .inl f))) (ha : h a = some (.inl (0, n1, .inl g))) (h1 : ¬ sp < 0) (h2 : ¬ dp < 0) (h3 : ¬ k < 0) (h4 : sp.toNatClampNeg + k.toNatClampNeg ≤ n0) (h5 : dp.toNatClampNeg + k.toNatClampNeg ≤ n1)
    (K : Zc X M Q (pc + 3) lv st (zup h a (.inl (0, n1, .inl (va_cpy f g sp.toNatClampNeg dp.toNatClampNeg k.toNatClampNeg)))) n cs sl) : Zc X M Q pc lv (.int k :: .int dp :: .ref a :: .int sp :: .ref a0 :: st) h n cs sl := by
  obtain ⟨p, l, e, R, s, m, args, below, meth, c, G⟩ := X
  obtain ⟨hx, hb, hml, hown, hts, hlk, hret, hw, hdf, hdl, hrc, hrs, hnm⟩ := C
  intro H ls locs hh hS hl
  have nn : ∀ z : Int32, ¬ z < 0 → z.toInt = (z.toNatClampNeg : Int) := by
    intro z hz
    have hz0 : (0 : Int) ≤ z.toInt := by
      have := Int32.not_lt.mp hz
      simpa using Int32.le_iff_toInt_le.mp this
    show z.toInt = ((z.toInt.toNat : Nat) : Int)
    omega
  have hc0 : H[G.2.2.1 a0]? = some (vp_cell (G.2.1 0) (n0, .inl f)) := hh.one ha0 0 _ rfl
  have hc1 : H[G.2.2.1 a]? = some (vp_cell (G.2.1 0) (n1, .inl g)) := hh.one ha 0 _ rfl
  intro T hT X
  obtain ⟨-, k0, hk0, cm0, hkk0⟩ := (hw.1.2 0 _ rfl).1 n0 (fun j => .int (f j))
  obtain ⟨-, k1, hk1, cm1, hkk1⟩ := (hw.1.2 0 _ rfl).1 n1 (fun j => .int (g j))
  have hcs := zcat G.2.2.1 st
  have hnw : nativeFrameWords "java/lang/System" "arraycopy" 5 + 11 ≤ 50 := by decide
  obtain ⟨vm', X', step⟩ := X.arraycopy hx hown (hts _ L) (hts _ L2) (hts _ L3) (hts _ L4) (src := G.2.2.1 a0) (dst := G.2.2.1 a) (cs := vp_cell (G.2.1 0) (n0, .inl f)) (cd := vp_cell (G.2.1 0) (n1, .inl g)) (srcPos := sp) (destPos := dp) (n := k) (by rw [hT]; exact hc0) (by rw [hT]; exact hc1)
    (fun _ h => by cases h) (fun _ h => by cases h) (fun h => by cases h) (fun h => by cases h) hk0 hk1 hkk0 hkk1 (by simp [refKind]) h1 h2 h3
    (by rw [nn sp h1, nn k h3]; show ¬ _ > ((arrV (G.2.1 0) n0 (fun j => .int (f j))).slots.size : Int); rw [arrV_size]; omega)
    (by rw [nn dp h2, nn k h3]; show ¬ _ > ((arrV (G.2.1 0) n1 (fun j => .int (g j))).slots.size : Int); rw [arrV_size]; omega)
    (fun vm₁ _ i hi => by
      have e : (vp_cell (G.2.1 0) (n0, .inl f)).slots.getD (sp.toNatClampNeg + i) .null = .int (f (sp.toNatClampNeg + i)) := by
        show (arrV (G.2.1 0) n0 (fun j => .int (f j))).slots.getD _ _ = _
        rw [Array.getD_eq_getD_getElem?, arrV_read _ _ (by omega)]
        rfl
      refine ⟨?_, ?_⟩
      · rw [e]
        rfl
      · rw [e]
        exact trivial)
    (g := F0 m pc ls (.int k :: .int dp :: .ref (G.2.2.1 a) :: .int sp :: .ref (G.2.2.1 a0) :: st.map (zv G.2.2.1))) rfl (by rw [hml]; exact hl.1) (rest := st.map (zv G.2.2.1)) rfl (by rw [hb]; exact D) (by omega) (by show 2 * 0 + _ + _ ≤ _; omega)
  have e1 : copied (vp_cell (G.2.1 0) (n0, .inl f)) (vp_cell (G.2.1 0) (n1, .inl g)) sp dp k = vp_cell (G.2.1 0) (n1, .inl (va_cpy f g sp.toNatClampNeg dp.toNatClampNeg k.toNatClampNeg)) := va_copied (fun z => .int z) (G.2.1 0) (G.2.1 0) f g h4
  rw [e1] at X' step
  have hlt : G.2.2.1 a < H.size := (Array.getElem?_eq_some_iff.mp hc1).1
  have hheap : ((T.setVm vm').setCell (G.2.2.1 a) (vp_cell (G.2.1 0) (n1, .inl (va_cpy f g sp.toNatClampNeg dp.toNatClampNeg k.toNatClampNeg)))).heap = H.setIfInBounds (G.2.2.1 a) (vp_cell (G.2.1 0) (n1, .inl (va_cpy f g sp.toNatClampNeg dp.toNatClampNeg k.toNatClampNeg))) := by rw [← hT]; rfl
  have oq : ∀ q : Nat, q ≠ G.2.2.1 a → (H.setIfInBounds (G.2.2.1 a) (vp_cell (G.2.1 0) (n1, .inl (va_cpy f g sp.toNatClampNeg dp.toNatClampNeg k.toNatClampNeg))))[q]? = H[q]? := fun q hq => by simp [Array.getElem?_setIfInBounds, Ne.symm hq]
  have hA := hh.apart hw.2.1 ha
  obtain ⟨t, a1, b1⟩ := K _ ls _ (hh.put hw.2.1 ha (by simp) oq (show (H.setIfInBounds _ _)[_]? = some _ by simp [Array.getElem?_setIfInBounds, hlt])) ⟨by simp; exact hS.1, fun q g1 g2 => by
      rw [oq q (fun e => g2 (by rw [e]; exact hA))]
      exact hS.2.1 q g1 g2, fun q hq => by
      rcases List.mem_append.mp hq with h | h
      · exact hS.2.2 q h
      · obtain ⟨z, -, hz⟩ := List.mem_map.mp h
        rw [← hz]
        exact hA⟩ hl _ hheap X'
  exact ⟨t, step t a1, b1⟩
theorem z_anewa (C : zOk X M d RC RS) {i : Int32} {N idx : Nat} (D : decode M.2.1 pc = .ok (.anewarray idx, 3)) (L : Cond.classLink M.1.cls idx RX5 ∈ zWS) (hn : ¬ i < 0) (hN : i.toNatClampNeg = N) (hb0 : N ≤ 100000) (h1 : cs + 1 ≤ RC) (h2 : sl + N ≤ RS) (K : Zc X M Q (pc + 3) lv (.ref n :: st) (zup h n (zS N (fun _ => none))) (n + 1) (cs + 1) (sl + N)) : Zc X M Q pc lv (.int i :: st) h n cs sl := by
  obtain ⟨p, l, e, R, s, m, args, below, meth, c, G⟩ := X
  obtain ⟨hx, hb, hml, hown, hts, hlk, hret, hw, hdf, hdl, hrc, hrs, hnm⟩ := C
  intro H ls locs hh hS hl
  subst hN
  refine W.anew hx hb hown (hts _ L) (va_AO.use hw.2.2.2.2.2.2.2.2) rfl D rfl hn (by omega) (by rw [hrc]; exact h1) (by rw [hrs]; exact h2) fun cA kA comp f1 f2 f3 f4 => ?_
  obtain ⟨kB, cB, b1, b2, b3, b4⟩ := (hw.1.2 2 _ rfl).2
  have hcA : cA = G.2.1 2 := Option.some.inj (f1.symm.trans b4)
  subst hcA
  generalize hH1 : H.push ({ cls := G.2.1 2, slots := Array.replicate i.toNatClampNeg .null, vm := .none } : Cell) = H1
  have z1 : H1.size = H.size + 1 := by rw [← hH1, Array.size_push]
  have e1 : H1[H.size]? = some (arrV (G.2.1 2) i.toNatClampNeg (fun _ => .null)) := by rw [← hH1, Array.getElem?_push_size, ← arrV_new]
  have o1 : ∀ q : Nat, q < H.size → H1[q]? = H[q]? := fun q hq => by rw [← hH1, Array.getElem?_push, if_neg (Nat.ne_of_lt hq)]
  have hb' : va_at G.1 vwCl (H.size, zc G (zS i.toNatClampNeg (fun _ => none))) H1 := e1
  have K' := K H1 ls locs (hh.push hw.2.1 z1 o1 hb') ⟨Nat.le_trans hS.1 (by omega), fun x g1 g2 => (o1 x (Nat.lt_of_lt_of_le g1 hS.1)).trans (hS.2.1 x g1 g2), hS.2.2⟩ hl
  have ea : zv G.2.2.1 (.ref n) = .ref H.size := by show Value.ref (G.2.2.1 n) = _; rw [hh.at hw.2.1]
  rw [List.map_cons, ea] at K'
  exact K'
theorem z_aast (C : zOk X M d RC RS) {a N v : Nat} {f : Nat → Option Nat} {i : Int32} {vs : List Value} (D : decode M.2.1 pc = .ok (.aastore, 1)) (ha : h a = some (.inl (2, N, .inr (.inr (.inr (.inr f)))))) (hv : h v = some (.inr (3, vs))) (hin : vp_in i N) (K : Zc X M Q (pc + 1) lv st (zup h a (zS N (va_up f i.toNatClampNeg (some v)))) n cs sl) : Zc X M Q pc lv (.ref v :: .int i :: .ref a :: st) h n cs sl := by
  obtain ⟨p, l, e, R, s, m, args, below, meth, c, G⟩ := X
  obtain ⟨hx, hb, hml, hown, hts, hlk, hret, hw, hdf, hdl, hrc, hrs, hnm⟩ := C
  intro H ls locs hh hS hl
  have hlt : i.toNatClampNeg < N := Nat.not_le.mp fun q => hin (Or.inr q)
  have h0 : ¬ i < 0 := fun q => hin (Or.inl q)
  obtain ⟨r', hr', cellV, g1, g2, g3, -⟩ := (hh.2.2 v _ hv).2.2
  have hcls := (hw.1.1 3 (RX5, TX5, 5) rfl).2
  obtain ⟨kA, comp, k1, k2, k3, -⟩ := (hw.1.2 2 _ rfl).2
  have hcomp : comp = G.1.1 3 := Option.some.inj (k3.symm.trans hcls.1)
  subst hcomp
  obtain ⟨kC, hkC, -⟩ := hcls.2
  refine W.aast hx hb (hh.one ha 0 _ rfl) (fun q h => by cases h) (fun h => by cases h) k1 k2 rfl hkC ⟨h0, by show _ < (arrV _ _ _).slots.size; rw [arrV_size]; exact hlt⟩ g1 (fun q h => by rw [g3] at h; cases h) (by rw [g2]; exact hkC) (by rw [g2]; exact va_assign hcls) rfl rfl D fun H1 e1 z oq => ?_
  refine K H1 ls _ (hh.put hw.2.1 ha z oq ?_) (hS.put z oq (hh.apart hw.2.1 ha)) hl
  show H1[_]? = some (vp_cell _ _)
  rw [e1]
  show some (Cell.setSlot (vp_cell (G.2.1 2) (N, .inr (.inr (.inr (.inr _))))) _ _) = some (vp_cell (G.2.1 2) (N, .inr (.inr (.inr (.inr _)))))
  rw [vp_cell_q, vp_cell_q, arrV_store]
  congr 2
  funext q
  by_cases hq : q = i.toNatClampNeg
  · subst hq
    simp [updV, va_up, va_rf]
  · simp [updV, va_up, hq]
end ZNEW
