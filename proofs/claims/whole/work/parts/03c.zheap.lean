def zup (h : ZH) (a : Nat) (c : ZE) : ZH := fun b => if b = a then some c else h b
theorem zup_same (h : ZH) (a : Nat) (c : ZE) : zup h a c a = some c := by simp [zup]
theorem zup_ne {h : ZH} {a b : Nat} {c : ZE} (q : b ≠ a) : zup h a c b = h b := by simp [zup, q]
theorem zup_zup (h : ZH) (a : Nat) (c c' : ZE) : zup (zup h a c) a c' = zup h a c' := by
  funext b
  by_cases q : b = a <;> simp [zup, q]
theorem zup_comm (h : ZH) {a b : Nat} (c c' : ZE) (hab : a ≠ b) : zup (zup h a c) b c' = zup (zup h b c') a c := by
  funext x
  by_cases q : x = a
  · subst q; simp [zup, hab]
  · by_cases q2 : x = b
    · subst q2; simp [zup, q]
    · simp [zup, q, q2]
theorem zup_id {h : ZH} {a : Nat} {c : ZE} (q : h a = some c) : zup h a c = h := by
  funext b
  by_cases e : b = a
  · subst e; simp [zup, q]
  · simp [zup, e]
/-- the int rows: contents by naturals, by ints; the long rows; the rows of scenes; objects -/
abbrev zI (n : Nat) (f : Nat → Nat) : ZE := .inl (0, n, .inl (fun i => nI (f i)))
abbrev zI32 (n : Nat) (f : Nat → Int32) : ZE := .inl (0, n, .inl f)
abbrev zL (n : Nat) (f : Nat → Int64) : ZE := .inl (1, n, .inr (.inl f))
abbrev zS (n : Nat) (f : Nat → Option Nat) : ZE := .inl (2, n, .inr (.inr (.inr (.inr f))))
abbrev zO (ci : Nat) (fs : List Value) : ZE := .inr (ci, fs)
theorem zHeap.one {G : ZG} {h : ZH} {n : Nat} {H : Heap} (hh : zHeap G h n H) {a : Nat} {c : ZE} (ha : h a = some c) : va_P G.1 vwCl [(G.2.2.1 a, zc G c)] H := by
  intro k q hk
  match k, hk with
  | 0, hk => cases hk; exact (hh.2.2 a c ha).2.2
  | k + 1, hk => simp at hk
theorem zHeap.put {G : ZG} {h : ZH} {n : Nat} {H H1 : Heap} (hh : zHeap G h n H) (hm : zAm G) {a : Nat} {c0 c : ZE} (ha : h a = some c0) (hz : H1.size = H.size) (hk : ∀ q, q ≠ G.2.2.1 a → H1[q]? = H[q]?) (hc : va_at G.1 vwCl (G.2.2.1 a, zc G c) H1) : zHeap G (zup h a c) n H1 := by
  obtain ⟨h1, h2, h3⟩ := hh
  obtain ⟨g1, g2, g3⟩ := h3 a c0 ha
  refine ⟨h1, by rw [hz]; exact h2, fun b cb hb => ?_⟩
  by_cases e : b = a
  · subst e
    rw [zup_same] at hb
    cases hb
    exact ⟨g1, g2, hc⟩
  · rw [zup_ne e] at hb
    obtain ⟨q1, q2, q3⟩ := h3 b cb hb
    refine ⟨q1, q2, q3.kept (hk _ ?_)⟩
    show G.2.2.1 b ≠ G.2.2.1 a
    rw [hm.1 b q1, hm.1 a g1]
    omega
theorem zHeap.push {G : ZG} {h : ZH} {n : Nat} {H H1 : Heap} (hh : zHeap G h n H) (hm : zAm G) {c : ZE} (hz : H1.size = H.size + 1) (hk : ∀ q, q < H.size → H1[q]? = H[q]?) (hc : va_at G.1 vwCl (H.size, zc G c) H1) : zHeap G (zup h n c) (n + 1) H1 := by
  obtain ⟨h1, h2, h3⟩ := hh
  have e0 : G.2.2.1 n = H.size := by rw [hm.1 n h1, h2]
  refine ⟨by omega, by rw [hz, h2]; omega, fun b cb hb => ?_⟩
  by_cases e : b = n
  · subst e
    rw [zup_same] at hb
    cases hb
    exact ⟨h1, by omega, by rw [e0]; exact hc⟩
  · rw [zup_ne e] at hb
    obtain ⟨q1, q2, q3⟩ := h3 b cb hb
    exact ⟨q1, by omega, q3.kept (hk _ q3.lt)⟩
theorem zHeap.apart {G : ZG} {h : ZH} {n : Nat} {H : Heap} (hh : zHeap G h n H) (hm : zAm G) {a : Nat} {c : ZE} (ha : h a = some c) : zA G (G.2.2.1 a) := by
  obtain ⟨q1, q2, q3⟩ := hh.2.2 a c ha
  show G.2.2.2 ≤ G.2.2.1 a
  rw [hm.1 a q1]
  omega
theorem zHeap.at {G : ZG} {h : ZH} {n : Nat} {H : Heap} (hh : zHeap G h n H) (hm : zAm G) : G.2.2.1 n = H.size := by rw [hm.1 n hh.1, hh.2.1]
/-- a field by its link: class number, place, final, type -/
def zFld (own : String) (idx ci k : Nat) (fin : Bool) (ty : FieldType) : Prop := ∃ (C : String) (T : u_T) (N : Nat) (ty0 : Nat → FieldType), vwCl[ci]? = some (C, T, N) ∧ k < N ∧ (∀ w ∈ u_ws C T N, w ∈ zWS) ∧ Cond.fieldLink own idx (T k).1 (T k).2.1 (T k).2.2.1 ∈ zWS ∧ (∀ k, k < N → parseFieldDescriptor (T k).2.2.1 = some (ty0 k)) ∧ (∀ a, a < N → ∀ b, b < N → a ≠ b → (T a).2.1 ≠ (T b).2.1) ∧ (T k).2.2.2 = fin ∧ parseFieldDescriptor (T k).2.2.1 = some ty ∧ (fin = true → (T k).1 = own)
def zFldR (own : String) (idx ci k : Nat) : Prop := ∃ (C : String) (T : u_T) (N : Nat), vwCl[ci]? = some (C, T, N) ∧ k < N ∧ (∀ w ∈ u_ws C T N, w ∈ zWS) ∧ Cond.fieldLink own idx (T k).1 (T k).2.1 (T k).2.2.1 ∈ zWS
theorem zset_map (am : Nat → Nat) (fs : List Value) (k : Nat) (v : Value) : (fs.set k v).map (zv am) = (fs.map (zv am)).set k (zv am v) := by rw [List.map_set]
section ZHROWS
variable {X : ZX} {M : ZM} {Q : State → Prop} {pc : Nat} {lv : List (Nat × Value)} {st : List Value} {h : ZH} {n cs sl d RC RS : Nat}
theorem z_getf (C : zOk X M d RC RS) {idx ci k a : Nat} {fs : List Value} {v : Value} (D : decode M.2.1 pc = .ok (.getfield idx, 3)) (F : zFldR M.1.cls idx ci k) (ha : h a = some (.inr (ci, fs))) (hv : fs[k]? = some v) (K : Zc X M Q (pc + 3) lv (v :: st) h n cs sl) : Zc X M Q pc lv (.ref a :: st) h n cs sl := by
  obtain ⟨p, l, e, R, s, m, args, below, meth, c, G⟩ := X
  obtain ⟨hx, hb, hml, hown, hts, hlk, hret, hw, hdf, hdl, hrc, hrs, hnm⟩ := C
  intro H ls locs hh hS hl
  obtain ⟨C, T, N, f1, f2, f3, f4⟩ := F
  exact va_get hx hb hts f3 hown hw.1 (hh.one ha) 0 (fs := fs.map (zv G.2.2.1)) rfl f1 k f2 (hts _ f4) (fun _ q => q) (v := zv G.2.2.1 v) (by rw [List.getElem?_map, hv]; rfl) D (K H ls locs hh hS hl)
theorem z_putf (C : zOk X M d RC RS) {idx ci k a : Nat} {ty : FieldType} {fs fs' : List Value} {v : Value} (D : decode M.2.1 pc = .ok (.putfield idx, 3)) (F : zFld M.1.cls idx ci k false ty) (ha : h a = some (.inr (ci, fs))) (hr : ∀ am : Nat → Nat, narrow ty (zv am v) = zv am v ∧ fits ty (zv am v) = true) (hl0 : k < fs.length) (hfs : fs.set k v = fs') (K : Zc X M Q (pc + 3) lv st (zup h a (.inr (ci, fs'))) n cs sl) : Zc X M Q pc lv (v :: .ref a :: st) h n cs sl := by
  subst hfs
  obtain ⟨p, l, e, R, s, m, args, below, meth, c, G⟩ := X
  obtain ⟨hx, hb, hml, hown, hts, hlk, hret, hw, hdf, hdl, hrc, hrs, hnm⟩ := C
  intro H ls locs hh hS hl
  obtain ⟨C, T, N, ty0, f1, f2, f3, f4, f5, f6, f7, f8, f9⟩ := F
  have hap := va_apart (own := M.1.cls) hts f3 ty0 f5 f6 hw.1 f1
  obtain ⟨r, h1, cell, q1, q2, q3, q4⟩ := (hh.2.2 a _ ha).2.2
  have hr0 : r = (C, T, N) := Option.some.inj (h1.symm.trans f1)
  subst hr0
  obtain ⟨hS0, hfc, kC, hkC, hkind⟩ := hw.1.1 ci _ f1
  obtain ⟨cf, kf, fi, f, hi, hsl⟩ := hS0 k f2
  have hlay := hts _ (f3 _ (u_in_lay f2))
  unfold u_lay at hlay
  rw [if_neg (by rw [f7]; decide)] at hlay
  have hst := (u_facts hfc hkC (u_lays hts f3 f2) hi).1
  have h6 := u_store hfc hkC hkind hlay hi f8 (hr G.2.2.1).1 (hr G.2.2.1).2
  refine W.putK hx hb (f := f) (v := zv G.2.2.1 v) ⟨hown, hts _ f4, ⟨_, _, _, hi⟩, hst⟩ (by rw [q2]; exact h6) q1 q3 (by rw [hsl]; exact k2_hasslot (q4 k f2)) rfl rfl D fun H' e1 e2 e3 => ?_
  rw [hsl] at e1 ⊢
  refine K H' ls _ (hh.put hw.2.1 ha e2 e3 ?_) (hS.put e2 e3 (hh.apart hw.2.1 ha)) hl
  refine ⟨_, f1, ?_⟩
  refine t_OB.to (V := updV (vp_V (fs.map (zv G.2.2.1))) k (zv G.2.2.1 v)) ⟨_, e1, q2, q3, t_set q4 hap f2 _⟩ (fun j _ => ?_)
  rw [zset_map]
  exact vp_updV_set (by rw [List.length_map]; exact hl0) _ j
theorem z_putF (C : zOk X M d RC RS) {idx ci k a : Nat} {ty : FieldType} {fs fs' : List Value} {v : Value} (D : decode M.2.1 pc = .ok (.putfield idx, 3)) (F : zFld M.1.cls idx ci k true ty) (hin2 : M.1.name = "<init>") (ha : h a = some (.inr (ci, fs))) (hr : ∀ am : Nat → Nat, narrow ty (zv am v) = zv am v ∧ fits ty (zv am v) = true) (hl0 : k < fs.length) (hfs : fs.set k v = fs') (K : Zc X M Q (pc + 3) lv st (zup h a (.inr (ci, fs'))) n cs sl) : Zc X M Q pc lv (v :: .ref a :: st) h n cs sl := by
  subst hfs
  obtain ⟨p, l, e, R, s, m, args, below, meth, c, G⟩ := X
  obtain ⟨hx, hb, hml, hown, hts, hlk, hret, hw, hdf, hdl, hrc, hrs, hnm⟩ := C
  intro H ls locs hh hS hl
  obtain ⟨C, T, N, ty0, f1, f2, f3, f4, f5, f6, f7, f8, f9⟩ := F
  have hap := va_apart (own := M.1.cls) hts f3 ty0 f5 f6 hw.1 f1
  obtain ⟨r, h1, cell, q1, q2, q3, q4⟩ := (hh.2.2 a _ ha).2.2
  have hr0 : r = (C, T, N) := Option.some.inj (h1.symm.trans f1)
  subst hr0
  obtain ⟨hS0, hfc, kC, hkC, hkind⟩ := hw.1.1 ci _ f1
  obtain ⟨cf, kf, fi, f, hi, hsl⟩ := hS0 k f2
  have hlay := hts _ (f3 _ (u_in_lay f2))
  unfold u_lay at hlay
  rw [if_pos f7] at hlay
  have hst := (u_facts hfc hkC (u_lays hts f3 f2) hi).1
  have hcf : m.cls = cf := by
    obtain ⟨_, _, c', _, _, _, -, -, hf', -, -, -, hown2, -⟩ := Cond.laysFinal_spec hlay
    have e1 : c' = cf := by have := hi.symm.trans hf'; simp at this; exact this.1.symm
    rw [f9 rfl] at hown2
    rw [← e1]; exact Option.some.inj (hown.symm.trans hown2)
  have h6 := u_fits hfc hkC hkind (Or.inr hlay) hi f8 (hr G.2.2.1).1 (hr G.2.2.1).2
  refine W.putFinK hx hb (f := f) (v := zv G.2.2.1 v) hown (hts _ f4) hi hst hcf (hnm.trans hin2) (by rw [q2]; exact h6) q1 q3 (by rw [hsl]; exact k2_hasslot (q4 k f2)) rfl rfl D fun H' e1 e2 e3 => ?_
  rw [hsl] at e1 ⊢
  refine K H' ls _ (hh.put hw.2.1 ha e2 e3 ?_) (hS.put e2 e3 (hh.apart hw.2.1 ha)) hl
  refine ⟨_, f1, ?_⟩
  refine t_OB.to (V := updV (vp_V (fs.map (zv G.2.2.1))) k (zv G.2.2.1 v)) ⟨_, e1, q2, q3, t_set q4 hap f2 _⟩ (fun j _ => ?_)
  rw [zset_map]
  exact vp_updV_set (by rw [List.length_map]; exact hl0) _ j
/-- a load out of a row -/
theorem z_iald (C : zOk X M d RC RS) {a N : Nat} {f : Nat → Int32} {i : Int32} (D : decode M.2.1 pc = .ok (.iaload, 1)) (ha : h a = some (.inl (0, N, .inl f))) (hin : vp_in i N) (K : Zc X M Q (pc + 1) lv (.int (f i.toNatClampNeg) :: st) h n cs sl) : Zc X M Q pc lv (.int i :: .ref a :: st) h n cs sl := by
  obtain ⟨p, l, e, R, s, m, args, below, meth, c, G⟩ := X
  obtain ⟨hx, hb, hml, hown, hts, hlk, hret, hw, hdf, hdl, hrc, hrs, hnm⟩ := C
  intro H ls locs hh hS hl
  exact va_iald hx hb hw.1 (hh.one ha) 0 0 rfl rfl hin D (K H ls locs hh hS hl)
theorem z_lald (C : zOk X M d RC RS) {a N : Nat} {f : Nat → Int64} {i : Int32} (D : decode M.2.1 pc = .ok (.laload, 1)) (ha : h a = some (.inl (1, N, .inr (.inl f)))) (hin : vp_in i N) (K : Zc X M Q (pc + 1) lv (.long (f i.toNatClampNeg) :: st) h n cs sl) : Zc X M Q pc lv (.int i :: .ref a :: st) h n cs sl := by
  obtain ⟨p, l, e, R, s, m, args, below, meth, c, G⟩ := X
  obtain ⟨hx, hb, hml, hown, hts, hlk, hret, hw, hdf, hdl, hrc, hrs, hnm⟩ := C
  intro H ls locs hh hS hl
  exact va_lald hx hb hw.1 (hh.one ha) 0 1 rfl rfl hin D (K H ls locs hh hS hl)
theorem z_aald (C : zOk X M d RC RS) {a N b : Nat} {f : Nat → Option Nat} {i : Int32} (D : decode M.2.1 pc = .ok (.aaload, 1)) (ha : h a = some (.inl (2, N, .inr (.inr (.inr (.inr f)))))) (hin : vp_in i N) (hf : f i.toNatClampNeg = some b) (K : Zc X M Q (pc + 1) lv (.ref b :: st) h n cs sl) : Zc X M Q pc lv (.int i :: .ref a :: st) h n cs sl := by
  obtain ⟨p, l, e, R, s, m, args, below, meth, c, G⟩ := X
  obtain ⟨hx, hb, hml, hown, hts, hlk, hret, hw, hdf, hdl, hrc, hrs, hnm⟩ := C
  intro H ls locs hh hS hl
  refine va_aldq hx hb hw.1 (hh.one ha) 0 2 rfl rfl hin D ?_
  rw [hf]
  exact K H ls locs hh hS hl
/-- a store into a row -/
theorem z_iast (C : zOk X M d RC RS) {a N : Nat} {f : Nat → Int32} {i x : Int32} (D : decode M.2.1 pc = .ok (.iastore, 1)) (ha : h a = some (.inl (0, N, .inl f))) (hin : vp_in i N) (K : Zc X M Q (pc + 1) lv st (zup h a (.inl (0, N, .inl (upd f i.toNatClampNeg x)))) n cs sl) : Zc X M Q pc lv (.int x :: .int i :: .ref a :: st) h n cs sl := by
  obtain ⟨p, l, e, R, s, m, args, below, meth, c, G⟩ := X
  obtain ⟨hx, hb, hml, hown, hts, hlk, hret, hw, hdf, hdl, hrc, hrs, hnm⟩ := C
  intro H ls locs hh hS hl
  refine W.iast hx hb (hh.one ha 0 _ rfl) ((hw.1.2 0 _ rfl).1 N (fun j => .int (f j))) (fun q => by cases q) (by show ¬ (i < 0 ∨ (arrV _ _ _).slots.size ≤ _); rw [arrV_size]; exact hin) rfl rfl D fun H1 e1 z oq => ?_
  refine K H1 ls _ (hh.put hw.2.1 ha z oq ?_) (hS.put z oq (hh.apart hw.2.1 ha)) hl
  show H1[_]? = some (vp_cell _ _)
  rw [e1]
  show some (Cell.setSlot (vp_cell (G.2.1 0) (N, .inl f)) _ _) = some (vp_cell (G.2.1 0) (N, .inl _))
  rw [vp_cell_i, vp_cell_i, arrV_store]
  congr 2
  funext q
  by_cases hq : q = i.toNatClampNeg
  · subst hq
    simp [updV, upd]
  · simp [updV, upd, hq]
theorem z_last (C : zOk X M d RC RS) {a N : Nat} {f : Nat → Int64} {i : Int32} {x : Int64} (D : decode M.2.1 pc = .ok (.lastore, 1)) (ha : h a = some (.inl (1, N, .inr (.inl f)))) (hin : vp_in i N) (K : Zc X M Q (pc + 1) lv st (zup h a (.inl (1, N, .inr (.inl (vp_updL f i.toNatClampNeg x))))) n cs sl) : Zc X M Q pc lv (.long x :: .int i :: .ref a :: st) h n cs sl := by
  obtain ⟨p, l, e, R, s, m, args, below, meth, c, G⟩ := X
  obtain ⟨hx, hb, hml, hown, hts, hlk, hret, hw, hdf, hdl, hrc, hrs, hnm⟩ := C
  intro H ls locs hh hS hl
  refine W.last hx hb (hh.one ha 0 _ rfl) ((hw.1.2 1 _ rfl).1 N (fun j => .long (f j))) (fun q => by cases q) (by show ¬ (i < 0 ∨ (arrV _ _ _).slots.size ≤ _); rw [arrV_size]; exact hin) rfl rfl D fun H1 e1 z oq => ?_
  refine K H1 ls _ (hh.put hw.2.1 ha z oq ?_) (hS.put z oq (hh.apart hw.2.1 ha)) hl
  show H1[_]? = some (vp_cell _ _)
  rw [e1]
  show some (Cell.setSlot (vp_cell (G.2.1 1) (N, .inr (.inl f))) _ _) = some (vp_cell (G.2.1 1) (N, .inr (.inl _)))
  rw [vp_cell_l, vp_cell_l, arrV_store]
  congr 2
  funext q
  by_cases hq : q = i.toNatClampNeg
  · subst hq
    simp [updV, vp_updL]
  · simp [updV, vp_updL, hq]
/-- the static rows -/
theorem z_sts (C : zOk X M d RC RS) {idx i : Nat} (D : decode M.2.1 pc = .ok (.getstatic idx, 3)) (hi : i < 4) (L : Cond.fieldLink M.1.cls idx RX11 (zStN i) "[I" ∈ zWS) (K : Zc X M Q (pc + 3) lv (.ref (900 + i) :: st) h n cs sl) : Zc X M Q pc lv st h n cs sl := by
  obtain ⟨p, l, e, R, s, m, args, below, meth, c, G⟩ := X
  obtain ⟨hx, hb, hml, hown, hts, hlk, hret, hw, hdf, hdl, hrc, hrs, hnm⟩ := C
  intro H ls locs hh hS hl
  exact va_gets hx hb ((hw.2.2.2.2.2.2.1 i hi).1) hS hown (hts _ L) (fun _ q => q) D (K H ls locs hh hS hl)
theorem z_stn (C : zOk X M d RC RS) {idx i : Nat} (D : decode M.2.1 pc = .ok (.getstatic idx, 3)) (hi : i < 4) (L : Cond.fieldLinkNest M.1.cls idx RX11 (zStN i) "[I" RX11 ∈ zNW) (K : Zc X M Q (pc + 3) lv (.ref (900 + i) :: st) h n cs sl) : Zc X M Q pc lv st h n cs sl := by
  obtain ⟨p, l, e, R, s, m, args, below, meth, c, G⟩ := X
  obtain ⟨hx, hb, hml, hown, hts, hlk, hret, hw, hdf, hdl, hrc, hrs, hnm⟩ := C
  intro H ls locs hh hS hl
  exact va_getsN hx hb ((hw.2.2.2.2.2.2.1 i hi).1) hS hown (va_Nw.use rfl (hw.2.2.2.1 _ L)) (fun _ q => q) D (K H ls locs hh hS hl)
theorem z_stld (C : zOk X M d RC RS) {i j : Nat} (D : decode M.2.1 pc = .ok (.iaload, 1)) (hi : i < 4) (hj : j < zStL i) (K : Zc X M Q (pc + 1) lv (.int (nI (zSt i j)) :: st) h n cs sl) : Zc X M Q pc lv (.int (nI j) :: .ref (900 + i) :: st) h n cs sl := by
  obtain ⟨p, l, e, R, s, m, args, below, meth, c, G⟩ := X
  obtain ⟨hx, hb, hml, hown, hts, hlk, hret, hw, hdf, hdl, hrc, hrs, hnm⟩ := C
  intro H ls locs hh hS hl
  have hN : zStL i < 2 ^ 31 := by
    rcases (show i = 0 ∨ i = 1 ∨ i = 2 ∨ i = 3 by omega) with rfl | rfl | rfl | rfl <;> decide
  exact va_ti hx hb ((hw.2.2.2.2.2.2.1 i hi).2) hS (vp_in_nI hj hN) (v := .int (nI (zSt i j))) (by rw [nI_clamp (by omega)]) D (K H ls locs hh hS hl)
end ZHROWS
