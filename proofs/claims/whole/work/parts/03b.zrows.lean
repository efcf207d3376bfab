section ZROWS
variable {X : ZX} {M : ZM} {Q : State → Prop} {pc : Nat} {lv : List (Nat × Value)} {st : List Value} {h : ZH} {n cs sl d RC RS : Nat}
theorem z_iconst (C : zOk X M d RC RS) {c0 : Int} (D : decode M.2.1 pc = .ok (.iconst c0, 1)) (v : Int32) (hv : Int32.ofInt c0 = v) (K : Zc X M Q (pc + 1) lv (.int v :: st) h n cs sl) : Zc X M Q pc lv st h n cs sl := by
  obtain ⟨p, l, e, R, s, m, args, below, meth, c, G⟩ := X
  obtain ⟨hx, hb, hml, hown, hts, hlk, hret, hw, hdf, hdl, hrc, hrs, hnm⟩ := C
  intro H ls locs hh hS hl
  exact lv_iconst hx hb D hv (K H ls locs hh hS hl)
theorem z_bipush (C : zOk X M d RC RS) {c0 : Int} (D : decode M.2.1 pc = .ok (.bipush c0, 2)) (v : Int32) (hv : (Int8.ofInt c0).toInt32 = v) (K : Zc X M Q (pc + 2) lv (.int v :: st) h n cs sl) : Zc X M Q pc lv st h n cs sl := by
  obtain ⟨p, l, e, R, s, m, args, below, meth, c, G⟩ := X
  obtain ⟨hx, hb, hml, hown, hts, hlk, hret, hw, hdf, hdl, hrc, hrs, hnm⟩ := C
  intro H ls locs hh hS hl
  exact lv_bipush hx hb D hv (K H ls locs hh hS hl)
theorem z_sipush (C : zOk X M d RC RS) {c0 : Int} (D : decode M.2.1 pc = .ok (.sipush c0, 3)) (v : Int32) (hv : (Int16.ofInt c0).toInt32 = v) (K : Zc X M Q (pc + 3) lv (.int v :: st) h n cs sl) : Zc X M Q pc lv st h n cs sl := by
  obtain ⟨p, l, e, R, s, m, args, below, meth, c, G⟩ := X
  obtain ⟨hx, hb, hml, hown, hts, hlk, hret, hw, hdf, hdl, hrc, hrs, hnm⟩ := C
  intro H ls locs hh hS hl
  exact lv_sipush hx hb D hv (K H ls locs hh hS hl)
theorem z_lconst (C : zOk X M d RC RS) {c0 : Fin 2} (D : decode M.2.1 pc = .ok (.lconst c0, 1)) (v : Int64) (hv : Int64.ofNat (c0 : Nat) = v) (K : Zc X M Q (pc + 1) lv (.long v :: st) h n cs sl) : Zc X M Q pc lv st h n cs sl := by
  obtain ⟨p, l, e, R, s, m, args, below, meth, c, G⟩ := X
  obtain ⟨hx, hb, hml, hown, hts, hlk, hret, hw, hdf, hdl, hrc, hrs, hnm⟩ := C
  intro H ls locs hh hS hl
  exact lv_lconst hx hb D hv (K H ls locs hh hS hl)
theorem z_ldc (C : zOk X M d RC RS) {ix : Nat} {v : Int32} (D : decode M.2.1 pc = .ok (.ldc ix, 2)) (L : Cond.constant M.1.cls ix v ∈ zWS) (K : Zc X M Q (pc + 2) lv (.int v :: st) h n cs sl) : Zc X M Q pc lv st h n cs sl := by
  obtain ⟨p, l, e, R, s, m, args, below, meth, c, G⟩ := X
  obtain ⟨hx, hb, hml, hown, hts, hlk, hret, hw, hdf, hdl, hrc, hrs, hnm⟩ := C
  intro H ls locs hh hS hl
  exact lv_ldc hx hb hown (hts _ L) D (K H ls locs hh hS hl)
theorem z_ldcw (C : zOk X M d RC RS) {ix : Nat} {v : Int32} (D : decode M.2.1 pc = .ok (.ldc_w ix, 3)) (L : Cond.constant M.1.cls ix v ∈ zWS) (K : Zc X M Q (pc + 3) lv (.int v :: st) h n cs sl) : Zc X M Q pc lv st h n cs sl := by
  obtain ⟨p, l, e, R, s, m, args, below, meth, c, G⟩ := X
  obtain ⟨hx, hb, hml, hown, hts, hlk, hret, hw, hdf, hdl, hrc, hrs, hnm⟩ := C
  intro H ls locs hh hS hl
  exact lv_ldcw hx hb hown (hts _ L) D (K H ls locs hh hS hl)
theorem z_ldc2 (C : zOk X M d RC RS) {ix : Nat} {v : Int64} (D : decode M.2.1 pc = .ok (.ldc2_w ix, 3)) (L : Cond.constantLong M.1.cls ix v ∈ zWS) (K : Zc X M Q (pc + 3) lv (.long v :: st) h n cs sl) : Zc X M Q pc lv st h n cs sl := by
  obtain ⟨p, l, e, R, s, m, args, below, meth, c, G⟩ := X
  obtain ⟨hx, hb, hml, hown, hts, hlk, hret, hw, hdf, hdl, hrc, hrs, hnm⟩ := C
  intro H ls locs hh hS hl
  exact lv_ldc2 hx hb hown (hts _ L) D (K H ls locs hh hS hl)
theorem z_ldcS (C : zOk X M d RC RS) {ix i : Nat} {tx : String} (D : decode M.2.1 pc = .ok (.ldc ix, 2)) (L : (M.1.cls, ix, tx, i) ∈ zSR) (K : Zc X M Q (pc + 2) lv (.ref i :: st) h n cs sl) : Zc X M Q pc lv st h n cs sl := by
  obtain ⟨p, l, e, R, s, m, args, below, meth, c, G⟩ := X
  obtain ⟨hx, hb, hml, hown, hts, hlk, hret, hw, hdf, hdl, hrc, hrs, hnm⟩ := C
  intro H ls locs hh hS hl
  exact va_ldcS hx hb hown (hw.2.2.2.2.1 _ L) D (K H ls locs hh hS hl)
theorem z_iload_n (C : zOk X M d RC RS) {k : Fin 4} {x : Int32} (D : decode M.2.1 pc = .ok (.iload_n k, 1)) (j : Nat) (hk : lv[j]? = some ((k : Nat), .int x)) (K : Zc X M Q (pc + 1) lv (.int x :: st) h n cs sl) : Zc X M Q pc lv st h n cs sl := by
  obtain ⟨p, l, e, R, s, m, args, below, meth, c, G⟩ := X
  obtain ⟨hx, hb, hml, hown, hts, hlk, hret, hw, hdf, hdl, hrc, hrs, hnm⟩ := C
  intro H ls locs hh hS hl
  exact lv_iload_n hx hb D rfl (lv_at hl j (by rw [List.getElem?_map, hk]; rfl)) (K H ls locs hh hS hl)
theorem z_iload (C : zOk X M d RC RS) {i : Nat} {x : Int32} (D : decode M.2.1 pc = .ok (.iload i, 2)) (j : Nat) (hk : lv[j]? = some (i, .int x)) (K : Zc X M Q (pc + 2) lv (.int x :: st) h n cs sl) : Zc X M Q pc lv st h n cs sl := by
  obtain ⟨p, l, e, R, s, m, args, below, meth, c, G⟩ := X
  obtain ⟨hx, hb, hml, hown, hts, hlk, hret, hw, hdf, hdl, hrc, hrs, hnm⟩ := C
  intro H ls locs hh hS hl
  exact lv_iload hx hb D (lv_at hl j (by rw [List.getElem?_map, hk]; rfl)) (K H ls locs hh hS hl)
theorem z_lload_n (C : zOk X M d RC RS) {k : Fin 4} {x : Int64} (D : decode M.2.1 pc = .ok (.lload_n k, 1)) (j : Nat) (hk : lv[j]? = some ((k : Nat), .long x)) (K : Zc X M Q (pc + 1) lv (.long x :: st) h n cs sl) : Zc X M Q pc lv st h n cs sl := by
  obtain ⟨p, l, e, R, s, m, args, below, meth, c, G⟩ := X
  obtain ⟨hx, hb, hml, hown, hts, hlk, hret, hw, hdf, hdl, hrc, hrs, hnm⟩ := C
  intro H ls locs hh hS hl
  exact lv_lload_n hx hb D rfl (lv_at hl j (by rw [List.getElem?_map, hk]; rfl)) (K H ls locs hh hS hl)
theorem z_lload (C : zOk X M d RC RS) {i : Nat} {x : Int64} (D : decode M.2.1 pc = .ok (.lload i, 2)) (j : Nat) (hk : lv[j]? = some (i, .long x)) (K : Zc X M Q (pc + 2) lv (.long x :: st) h n cs sl) : Zc X M Q pc lv st h n cs sl := by
  obtain ⟨p, l, e, R, s, m, args, below, meth, c, G⟩ := X
  obtain ⟨hx, hb, hml, hown, hts, hlk, hret, hw, hdf, hdl, hrc, hrs, hnm⟩ := C
  intro H ls locs hh hS hl
  exact lv_lload hx hb D (lv_at hl j (by rw [List.getElem?_map, hk]; rfl)) (K H ls locs hh hS hl)
theorem z_aload_n (C : zOk X M d RC RS) {k : Fin 4} {x : Nat} (D : decode M.2.1 pc = .ok (.aload_n k, 1)) (j : Nat) (hk : lv[j]? = some ((k : Nat), .ref x)) (K : Zc X M Q (pc + 1) lv (.ref x :: st) h n cs sl) : Zc X M Q pc lv st h n cs sl := by
  obtain ⟨p, l, e, R, s, m, args, below, meth, c, G⟩ := X
  obtain ⟨hx, hb, hml, hown, hts, hlk, hret, hw, hdf, hdl, hrc, hrs, hnm⟩ := C
  intro H ls locs hh hS hl
  exact lv_aload_n hx hb D rfl (lv_at hl j (by rw [List.getElem?_map, hk]; rfl)) (K H ls locs hh hS hl)
theorem z_aload (C : zOk X M d RC RS) {i : Nat} {x : Nat} (D : decode M.2.1 pc = .ok (.aload i, 2)) (j : Nat) (hk : lv[j]? = some (i, .ref x)) (K : Zc X M Q (pc + 2) lv (.ref x :: st) h n cs sl) : Zc X M Q pc lv st h n cs sl := by
  obtain ⟨p, l, e, R, s, m, args, below, meth, c, G⟩ := X
  obtain ⟨hx, hb, hml, hown, hts, hlk, hret, hw, hdf, hdl, hrc, hrs, hnm⟩ := C
  intro H ls locs hh hS hl
  exact lv_aload hx hb D (lv_at hl j (by rw [List.getElem?_map, hk]; rfl)) (K H ls locs hh hS hl)
theorem z_istore_n (C : zOk X M d RC RS) {k : Fin 4} {x : Int32} {lv' : List (Nat × Value)} (D : decode M.2.1 pc = .ok (.istore_n k, 1)) (hn : (k : Nat) < M.2.2.1) (hl' : ((k : Nat), Value.int x) :: lv.filter (fun q => !(q.1 == (k : Nat)) && !(q.1 + 1 == (k : Nat) && q.2.category == 2)) = lv') (K : Zc X M Q (pc + 1) lv' st h n cs sl) : Zc X M Q pc lv (.int x :: st) h n cs sl := by
  obtain ⟨p, l, e, R, s, m, args, below, meth, c, G⟩ := X
  obtain ⟨hx, hb, hml, hown, hts, hlk, hret, hw, hdf, hdl, hrc, hrs, hnm⟩ := C
  intro H ls locs hh hS hl
  subst hl'
  refine lv_istore_n hx hb D rfl hl hn rfl (fun ls' hl' => K H ls' locs hh hS ?_)
  rw [List.map_cons, ← zl_map _ _ (fun q => by simp only [zv_cat])]
  exact hl'
theorem z_istore (C : zOk X M d RC RS) {i : Nat} {x : Int32} {lv' : List (Nat × Value)} (D : decode M.2.1 pc = .ok (.istore i, 2)) (hn : i < M.2.2.1) (hl' : (i, Value.int x) :: lv.filter (fun q => !(q.1 == i) && !(q.1 + 1 == i && q.2.category == 2)) = lv') (K : Zc X M Q (pc + 2) lv' st h n cs sl) : Zc X M Q pc lv (.int x :: st) h n cs sl := by
  obtain ⟨p, l, e, R, s, m, args, below, meth, c, G⟩ := X
  obtain ⟨hx, hb, hml, hown, hts, hlk, hret, hw, hdf, hdl, hrc, hrs, hnm⟩ := C
  intro H ls locs hh hS hl
  subst hl'
  refine lv_istore hx hb D hl hn rfl (fun ls' hl' => K H ls' locs hh hS ?_)
  rw [List.map_cons, ← zl_map _ _ (fun q => by simp only [zv_cat])]
  exact hl'
theorem z_lstore_n (C : zOk X M d RC RS) {k : Fin 4} {x : Int64} {lv' : List (Nat × Value)} (D : decode M.2.1 pc = .ok (.lstore_n k, 1)) (hn : (k : Nat) + 1 < M.2.2.1) (hl' : ((k : Nat), Value.long x) :: lv.filter (fun q => !(q.1 == (k : Nat)) && (!(q.1 == (k : Nat) + 1) && !(q.1 + 1 == (k : Nat) && q.2.category == 2))) = lv') (K : Zc X M Q (pc + 1) lv' st h n cs sl) : Zc X M Q pc lv (.long x :: st) h n cs sl := by
  obtain ⟨p, l, e, R, s, m, args, below, meth, c, G⟩ := X
  obtain ⟨hx, hb, hml, hown, hts, hlk, hret, hw, hdf, hdl, hrc, hrs, hnm⟩ := C
  intro H ls locs hh hS hl
  subst hl'
  refine lv_lstore_n hx hb D rfl hl hn rfl (fun ls' hl' => K H ls' locs hh hS ?_)
  rw [List.map_cons, ← zl_map _ _ (fun q => by simp only [zv_cat])]
  exact hl'
theorem z_lstore (C : zOk X M d RC RS) {i : Nat} {x : Int64} {lv' : List (Nat × Value)} (D : decode M.2.1 pc = .ok (.lstore i, 2)) (hn : i + 1 < M.2.2.1) (hl' : (i, Value.long x) :: lv.filter (fun q => !(q.1 == i) && (!(q.1 == i + 1) && !(q.1 + 1 == i && q.2.category == 2))) = lv') (K : Zc X M Q (pc + 2) lv' st h n cs sl) : Zc X M Q pc lv (.long x :: st) h n cs sl := by
  obtain ⟨p, l, e, R, s, m, args, below, meth, c, G⟩ := X
  obtain ⟨hx, hb, hml, hown, hts, hlk, hret, hw, hdf, hdl, hrc, hrs, hnm⟩ := C
  intro H ls locs hh hS hl
  subst hl'
  refine lv_lstore hx hb D hl hn rfl (fun ls' hl' => K H ls' locs hh hS ?_)
  rw [List.map_cons, ← zl_map _ _ (fun q => by simp only [zv_cat])]
  exact hl'
theorem z_astore_n (C : zOk X M d RC RS) {k : Fin 4} {x : Nat} {lv' : List (Nat × Value)} (D : decode M.2.1 pc = .ok (.astore_n k, 1)) (hn : (k : Nat) < M.2.2.1) (hl' : ((k : Nat), Value.ref x) :: lv.filter (fun q => !(q.1 == (k : Nat)) && !(q.1 + 1 == (k : Nat) && q.2.category == 2)) = lv') (K : Zc X M Q (pc + 1) lv' st h n cs sl) : Zc X M Q pc lv (.ref x :: st) h n cs sl := by
  obtain ⟨p, l, e, R, s, m, args, below, meth, c, G⟩ := X
  obtain ⟨hx, hb, hml, hown, hts, hlk, hret, hw, hdf, hdl, hrc, hrs, hnm⟩ := C
  intro H ls locs hh hS hl
  subst hl'
  refine lv_astore_n hx hb D rfl hl hn rfl (fun ls' hl' => K H ls' locs hh hS ?_)
  rw [List.map_cons, ← zl_map _ _ (fun q => by simp only [zv_cat])]
  exact hl'
theorem z_astore (C : zOk X M d RC RS) {i : Nat} {x : Nat} {lv' : List (Nat × Value)} (D : decode M.2.1 pc = .ok (.astore i, 2)) (hn : i < M.2.2.1) (hl' : (i, Value.ref x) :: lv.filter (fun q => !(q.1 == i) && !(q.1 + 1 == i && q.2.category == 2)) = lv') (K : Zc X M Q (pc + 2) lv' st h n cs sl) : Zc X M Q pc lv (.ref x :: st) h n cs sl := by
  obtain ⟨p, l, e, R, s, m, args, below, meth, c, G⟩ := X
  obtain ⟨hx, hb, hml, hown, hts, hlk, hret, hw, hdf, hdl, hrc, hrs, hnm⟩ := C
  intro H ls locs hh hS hl
  subst hl'
  refine lv_astore hx hb D hl hn rfl (fun ls' hl' => K H ls' locs hh hS ?_)
  rw [List.map_cons, ← zl_map _ _ (fun q => by simp only [zv_cat])]
  exact hl'
theorem z_iinc (C : zOk X M d RC RS) {i : Nat} {c0 : Int} {x : Int32} {lv' : List (Nat × Value)} (D : decode M.2.1 pc = .ok (.iinc i c0, 3)) (j : Nat) (hk : lv[j]? = some (i, .int x)) (v : Int32) (hv : x + Int32.ofInt c0 = v) (hn : i < M.2.2.1) (hl' : (i, Value.int v) :: lv.filter (fun q => !(q.1 == i) && !(q.1 + 1 == i && q.2.category == 2)) = lv') (K : Zc X M Q (pc + 3) lv' st h n cs sl) : Zc X M Q pc lv st h n cs sl := by
  obtain ⟨p, l, e, R, s, m, args, below, meth, c, G⟩ := X
  obtain ⟨hx, hb, hml, hown, hts, hlk, hret, hw, hdf, hdl, hrc, hrs, hnm⟩ := C
  intro H ls locs hh hS hl
  subst hl'
  refine lv_iinc hx hb D hl (k := j) (by rw [List.getElem?_map, hk]; rfl) hv hn rfl (fun ls' hl' => K H ls' locs hh hS ?_)
  rw [List.map_cons, ← zl_map _ _ (fun q => by simp only [zv_cat])]
  exact hl'
theorem z_iadd (C : zOk X M d RC RS) {x y : Int32} (D : decode M.2.1 pc = .ok (.iadd, 1)) (K : Zc X M Q (pc + 1) lv (.int (x + y) :: st) h n cs sl) : Zc X M Q pc lv (.int y :: .int x :: st) h n cs sl := by
  obtain ⟨p, l, e, R, s, m, args, below, meth, c, G⟩ := X
  obtain ⟨hx, hb, hml, hown, hts, hlk, hret, hw, hdf, hdl, hrc, hrs, hnm⟩ := C
  intro H ls locs hh hS hl
  exact lv_iadd hx hb D (K H ls locs hh hS hl)
theorem z_isub (C : zOk X M d RC RS) {x y : Int32} (D : decode M.2.1 pc = .ok (.isub, 1)) (K : Zc X M Q (pc + 1) lv (.int (x - y) :: st) h n cs sl) : Zc X M Q pc lv (.int y :: .int x :: st) h n cs sl := by
  obtain ⟨p, l, e, R, s, m, args, below, meth, c, G⟩ := X
  obtain ⟨hx, hb, hml, hown, hts, hlk, hret, hw, hdf, hdl, hrc, hrs, hnm⟩ := C
  intro H ls locs hh hS hl
  exact lv_isub hx hb D (K H ls locs hh hS hl)
theorem z_imul (C : zOk X M d RC RS) {x y : Int32} (D : decode M.2.1 pc = .ok (.imul, 1)) (K : Zc X M Q (pc + 1) lv (.int (x * y) :: st) h n cs sl) : Zc X M Q pc lv (.int y :: .int x :: st) h n cs sl := by
  obtain ⟨p, l, e, R, s, m, args, below, meth, c, G⟩ := X
  obtain ⟨hx, hb, hml, hown, hts, hlk, hret, hw, hdf, hdl, hrc, hrs, hnm⟩ := C
  intro H ls locs hh hS hl
  exact lv_imul hx hb D (K H ls locs hh hS hl)
theorem z_iand (C : zOk X M d RC RS) {x y : Int32} (D : decode M.2.1 pc = .ok (.iand, 1)) (K : Zc X M Q (pc + 1) lv (.int (x &&& y) :: st) h n cs sl) : Zc X M Q pc lv (.int y :: .int x :: st) h n cs sl := by
  obtain ⟨p, l, e, R, s, m, args, below, meth, c, G⟩ := X
  obtain ⟨hx, hb, hml, hown, hts, hlk, hret, hw, hdf, hdl, hrc, hrs, hnm⟩ := C
  intro H ls locs hh hS hl
  exact lv_iand hx hb D (K H ls locs hh hS hl)
theorem z_ior (C : zOk X M d RC RS) {x y : Int32} (D : decode M.2.1 pc = .ok (.ior, 1)) (K : Zc X M Q (pc + 1) lv (.int (x ||| y) :: st) h n cs sl) : Zc X M Q pc lv (.int y :: .int x :: st) h n cs sl := by
  obtain ⟨p, l, e, R, s, m, args, below, meth, c, G⟩ := X
  obtain ⟨hx, hb, hml, hown, hts, hlk, hret, hw, hdf, hdl, hrc, hrs, hnm⟩ := C
  intro H ls locs hh hS hl
  exact lv_ior hx hb D (K H ls locs hh hS hl)
theorem z_ixor (C : zOk X M d RC RS) {x y : Int32} (D : decode M.2.1 pc = .ok (.ixor, 1)) (K : Zc X M Q (pc + 1) lv (.int (x ^^^ y) :: st) h n cs sl) : Zc X M Q pc lv (.int y :: .int x :: st) h n cs sl := by
  obtain ⟨p, l, e, R, s, m, args, below, meth, c, G⟩ := X
  obtain ⟨hx, hb, hml, hown, hts, hlk, hret, hw, hdf, hdl, hrc, hrs, hnm⟩ := C
  intro H ls locs hh hS hl
  exact lv_ixor hx hb D (K H ls locs hh hS hl)
theorem z_ishl (C : zOk X M d RC RS) {x y : Int32} (D : decode M.2.1 pc = .ok (.ishl, 1)) (K : Zc X M Q (pc + 1) lv (.int (x <<< (y &&& 31)) :: st) h n cs sl) : Zc X M Q pc lv (.int y :: .int x :: st) h n cs sl := by
  obtain ⟨p, l, e, R, s, m, args, below, meth, c, G⟩ := X
  obtain ⟨hx, hb, hml, hown, hts, hlk, hret, hw, hdf, hdl, hrc, hrs, hnm⟩ := C
  intro H ls locs hh hS hl
  exact lv_ishl hx hb D (K H ls locs hh hS hl)
theorem z_ishr (C : zOk X M d RC RS) {x y : Int32} (D : decode M.2.1 pc = .ok (.ishr, 1)) (K : Zc X M Q (pc + 1) lv (.int (x >>> (y &&& 31)) :: st) h n cs sl) : Zc X M Q pc lv (.int y :: .int x :: st) h n cs sl := by
  obtain ⟨p, l, e, R, s, m, args, below, meth, c, G⟩ := X
  obtain ⟨hx, hb, hml, hown, hts, hlk, hret, hw, hdf, hdl, hrc, hrs, hnm⟩ := C
  intro H ls locs hh hS hl
  exact lv_ishr hx hb D (K H ls locs hh hS hl)
theorem z_iushr (C : zOk X M d RC RS) {x y : Int32} (D : decode M.2.1 pc = .ok (.iushr, 1)) (K : Zc X M Q (pc + 1) lv (.int (x.toUInt32 >>> (y.toUInt32 &&& Int32.toUInt32 31)).toInt32 :: st) h n cs sl) : Zc X M Q pc lv (.int y :: .int x :: st) h n cs sl := by
  obtain ⟨p, l, e, R, s, m, args, below, meth, c, G⟩ := X
  obtain ⟨hx, hb, hml, hown, hts, hlk, hret, hw, hdf, hdl, hrc, hrs, hnm⟩ := C
  intro H ls locs hh hS hl
  exact lv_iushr hx hb D rfl (K H ls locs hh hS hl)
theorem z_ladd (C : zOk X M d RC RS) {x y : Int64} (D : decode M.2.1 pc = .ok (.ladd, 1)) (K : Zc X M Q (pc + 1) lv (.long (x + y) :: st) h n cs sl) : Zc X M Q pc lv (.long y :: .long x :: st) h n cs sl := by
  obtain ⟨p, l, e, R, s, m, args, below, meth, c, G⟩ := X
  obtain ⟨hx, hb, hml, hown, hts, hlk, hret, hw, hdf, hdl, hrc, hrs, hnm⟩ := C
  intro H ls locs hh hS hl
  exact lv_ladd hx hb D (K H ls locs hh hS hl)
theorem z_lsub (C : zOk X M d RC RS) {x y : Int64} (D : decode M.2.1 pc = .ok (.lsub, 1)) (K : Zc X M Q (pc + 1) lv (.long (x - y) :: st) h n cs sl) : Zc X M Q pc lv (.long y :: .long x :: st) h n cs sl := by
  obtain ⟨p, l, e, R, s, m, args, below, meth, c, G⟩ := X
  obtain ⟨hx, hb, hml, hown, hts, hlk, hret, hw, hdf, hdl, hrc, hrs, hnm⟩ := C
  intro H ls locs hh hS hl
  exact lv_lsub hx hb D (K H ls locs hh hS hl)
theorem z_lmul (C : zOk X M d RC RS) {x y : Int64} (D : decode M.2.1 pc = .ok (.lmul, 1)) (K : Zc X M Q (pc + 1) lv (.long (x * y) :: st) h n cs sl) : Zc X M Q pc lv (.long y :: .long x :: st) h n cs sl := by
  obtain ⟨p, l, e, R, s, m, args, below, meth, c, G⟩ := X
  obtain ⟨hx, hb, hml, hown, hts, hlk, hret, hw, hdf, hdl, hrc, hrs, hnm⟩ := C
  intro H ls locs hh hS hl
  exact lv_lmul hx hb D (K H ls locs hh hS hl)
theorem z_idiv (C : zOk X M d RC RS) {x y : Int32} (D : decode M.2.1 pc = .ok (.idiv, 1)) (hne : ¬ y = 0) (K : Zc X M Q (pc + 1) lv (.int (x / y) :: st) h n cs sl) : Zc X M Q pc lv (.int y :: .int x :: st) h n cs sl := by
  obtain ⟨p, l, e, R, s, m, args, below, meth, c, G⟩ := X
  obtain ⟨hx, hb, hml, hown, hts, hlk, hret, hw, hdf, hdl, hrc, hrs, hnm⟩ := C
  intro H ls locs hh hS hl
  exact lv_idiv hx hb D hne (K H ls locs hh hS hl)
theorem z_irem (C : zOk X M d RC RS) {x y : Int32} (D : decode M.2.1 pc = .ok (.irem, 1)) (hne : ¬ y = 0) (K : Zc X M Q (pc + 1) lv (.int (x - x / y * y) :: st) h n cs sl) : Zc X M Q pc lv (.int y :: .int x :: st) h n cs sl := by
  obtain ⟨p, l, e, R, s, m, args, below, meth, c, G⟩ := X
  obtain ⟨hx, hb, hml, hown, hts, hlk, hret, hw, hdf, hdl, hrc, hrs, hnm⟩ := C
  intro H ls locs hh hS hl
  exact lv_irem hx hb D hne (K H ls locs hh hS hl)
theorem z_ldiv (C : zOk X M d RC RS) {x y : Int64} (D : decode M.2.1 pc = .ok (.ldiv, 1)) (hne : ¬ y = 0) (K : Zc X M Q (pc + 1) lv (.long (x / y) :: st) h n cs sl) : Zc X M Q pc lv (.long y :: .long x :: st) h n cs sl := by
  obtain ⟨p, l, e, R, s, m, args, below, meth, c, G⟩ := X
  obtain ⟨hx, hb, hml, hown, hts, hlk, hret, hw, hdf, hdl, hrc, hrs, hnm⟩ := C
  intro H ls locs hh hS hl
  exact lv_ldiv hx hb D hne (K H ls locs hh hS hl)
theorem z_lrem (C : zOk X M d RC RS) {x y : Int64} (D : decode M.2.1 pc = .ok (.lrem, 1)) (hne : ¬ y = 0) (K : Zc X M Q (pc + 1) lv (.long (x - x / y * y) :: st) h n cs sl) : Zc X M Q pc lv (.long y :: .long x :: st) h n cs sl := by
  obtain ⟨p, l, e, R, s, m, args, below, meth, c, G⟩ := X
  obtain ⟨hx, hb, hml, hown, hts, hlk, hret, hw, hdf, hdl, hrc, hrs, hnm⟩ := C
  intro H ls locs hh hS hl
  exact lv_lrem hx hb D hne (K H ls locs hh hS hl)
theorem z_ineg (C : zOk X M d RC RS) {x : Int32} (D : decode M.2.1 pc = .ok (.ineg, 1)) (K : Zc X M Q (pc + 1) lv (.int (-x) :: st) h n cs sl) : Zc X M Q pc lv (.int x :: st) h n cs sl := by
  obtain ⟨p, l, e, R, s, m, args, below, meth, c, G⟩ := X
  obtain ⟨hx, hb, hml, hown, hts, hlk, hret, hw, hdf, hdl, hrc, hrs, hnm⟩ := C
  intro H ls locs hh hS hl
  exact lv_ineg hx hb D (K H ls locs hh hS hl)
theorem z_i2l (C : zOk X M d RC RS) {x : Int32} (D : decode M.2.1 pc = .ok (.i2l, 1)) (K : Zc X M Q (pc + 1) lv (.long x.toInt64 :: st) h n cs sl) : Zc X M Q pc lv (.int x :: st) h n cs sl := by
  obtain ⟨p, l, e, R, s, m, args, below, meth, c, G⟩ := X
  obtain ⟨hx, hb, hml, hown, hts, hlk, hret, hw, hdf, hdl, hrc, hrs, hnm⟩ := C
  intro H ls locs hh hS hl
  exact lv_i2l hx hb D rfl (K H ls locs hh hS hl)
theorem z_i2c (C : zOk X M d RC RS) {x : Int32} (D : decode M.2.1 pc = .ok (.i2c, 1)) (K : Zc X M Q (pc + 1) lv (.int (x.toUInt32 % 65536).toInt32 :: st) h n cs sl) : Zc X M Q pc lv (.int x :: st) h n cs sl := by
  obtain ⟨p, l, e, R, s, m, args, below, meth, c, G⟩ := X
  obtain ⟨hx, hb, hml, hown, hts, hlk, hret, hw, hdf, hdl, hrc, hrs, hnm⟩ := C
  intro H ls locs hh hS hl
  exact lv_i2c hx hb D rfl (K H ls locs hh hS hl)
theorem z_lcmp (C : zOk X M d RC RS) {x y : Int64} (D : decode M.2.1 pc = .ok (.lcmp, 1)) (K : Zc X M Q (pc + 1) lv (.int (lg_cmp x y) :: st) h n cs sl) : Zc X M Q pc lv (.long y :: .long x :: st) h n cs sl := by
  obtain ⟨p, l, e, R, s, m, args, below, meth, c, G⟩ := X
  obtain ⟨hx, hb, hml, hown, hts, hlk, hret, hw, hdf, hdl, hrc, hrs, hnm⟩ := C
  intro H ls locs hh hS hl
  exact W.lcmp hx hb D (K H ls locs hh hS hl)
theorem z_dup (C : zOk X M d RC RS) {v : Value} (D : decode M.2.1 pc = .ok (.dup, 1)) (hc : v.category = 1) (K : Zc X M Q (pc + 1) lv (v :: v :: st) h n cs sl) : Zc X M Q pc lv (v :: st) h n cs sl := by
  obtain ⟨p, l, e, R, s, m, args, below, meth, c, G⟩ := X
  obtain ⟨hx, hb, hml, hown, hts, hlk, hret, hw, hdf, hdl, hrc, hrs, hnm⟩ := C
  intro H ls locs hh hS hl
  exact lv_dup hx hb D (by rw [zv_cat]; exact hc) (K H ls locs hh hS hl)
theorem z_pop (C : zOk X M d RC RS) {v : Value} (D : decode M.2.1 pc = .ok (.pop, 1)) (hc : v.category = 1) (K : Zc X M Q (pc + 1) lv st h n cs sl) : Zc X M Q pc lv (v :: st) h n cs sl := by
  obtain ⟨p, l, e, R, s, m, args, below, meth, c, G⟩ := X
  obtain ⟨hx, hb, hml, hown, hts, hlk, hret, hw, hdf, hdl, hrc, hrs, hnm⟩ := C
  intro H ls locs hh hS hl
  exact lv_pop hx hb D (by rw [zv_cat]; exact hc) (K H ls locs hh hS hl)
theorem z_dup_x1 (C : zOk X M d RC RS) {v u : Value} (D : decode M.2.1 pc = .ok (.dup_x1, 1)) (hc : v.category = 1) (hc2 : u.category = 1) (K : Zc X M Q (pc + 1) lv (v :: u :: v :: st) h n cs sl) : Zc X M Q pc lv (v :: u :: st) h n cs sl := by
  obtain ⟨p, l, e, R, s, m, args, below, meth, c, G⟩ := X
  obtain ⟨hx, hb, hml, hown, hts, hlk, hret, hw, hdf, hdl, hrc, hrs, hnm⟩ := C
  intro H ls locs hh hS hl
  exact lv_dup_x1 hx hb D (by rw [zv_cat]; exact hc) (by rw [zv_cat]; exact hc2) (K H ls locs hh hS hl)
theorem z_dup2 (C : zOk X M d RC RS) {v u : Value} (D : decode M.2.1 pc = .ok (.dup2, 1)) (hc : v.category = 1) (hc2 : u.category = 1) (K : Zc X M Q (pc + 1) lv (v :: u :: v :: u :: st) h n cs sl) : Zc X M Q pc lv (v :: u :: st) h n cs sl := by
  obtain ⟨p, l, e, R, s, m, args, below, meth, c, G⟩ := X
  obtain ⟨hx, hb, hml, hown, hts, hlk, hret, hw, hdf, hdl, hrc, hrs, hnm⟩ := C
  intro H ls locs hh hS hl
  exact lv_dup2_11 hx hb D (by rw [zv_cat]; exact hc) (by rw [zv_cat]; exact hc2) (K H ls locs hh hS hl)
theorem z_if_eq (C : zOk X M d RC RS) {x : Int32} {off : Int} (tgt : Nat) (D : decode M.2.1 pc = .ok (.ifCond .eq off, 3)) (ht : (pc : Int) + off = (tgt : Int)) (KT : x = 0 → Zc X M Q tgt lv st h n cs sl) (KF : ¬ x = 0 → Zc X M Q (pc + 3) lv st h n cs sl) : Zc X M Q pc lv (.int x :: st) h n cs sl := by
  obtain ⟨p, l, e, R, s, m, args, below, meth, c, G⟩ := X
  obtain ⟨hx, hb, hml, hown, hts, hlk, hret, hw, hdf, hdl, hrc, hrs, hnm⟩ := C
  intro H ls locs hh hS hl
  exact lv_if_eq hx hb D ht (fun q => KT q H ls locs hh hS hl) (fun q => KF q H ls locs hh hS hl)
theorem z_if_ne (C : zOk X M d RC RS) {x : Int32} {off : Int} (tgt : Nat) (D : decode M.2.1 pc = .ok (.ifCond .ne off, 3)) (ht : (pc : Int) + off = (tgt : Int)) (KT : ¬ x = 0 → Zc X M Q tgt lv st h n cs sl) (KF : x = 0 → Zc X M Q (pc + 3) lv st h n cs sl) : Zc X M Q pc lv (.int x :: st) h n cs sl := by
  obtain ⟨p, l, e, R, s, m, args, below, meth, c, G⟩ := X
  obtain ⟨hx, hb, hml, hown, hts, hlk, hret, hw, hdf, hdl, hrc, hrs, hnm⟩ := C
  intro H ls locs hh hS hl
  exact lv_if_ne hx hb D ht (fun q => KT q H ls locs hh hS hl) (fun q => KF q H ls locs hh hS hl)
theorem z_if_lt (C : zOk X M d RC RS) {x : Int32} {off : Int} (tgt : Nat) (D : decode M.2.1 pc = .ok (.ifCond .lt off, 3)) (ht : (pc : Int) + off = (tgt : Int)) (KT : x < 0 → Zc X M Q tgt lv st h n cs sl) (KF : ¬ x < 0 → Zc X M Q (pc + 3) lv st h n cs sl) : Zc X M Q pc lv (.int x :: st) h n cs sl := by
  obtain ⟨p, l, e, R, s, m, args, below, meth, c, G⟩ := X
  obtain ⟨hx, hb, hml, hown, hts, hlk, hret, hw, hdf, hdl, hrc, hrs, hnm⟩ := C
  intro H ls locs hh hS hl
  exact lv_if_lt hx hb D ht (fun q => KT q H ls locs hh hS hl) (fun q => KF q H ls locs hh hS hl)
theorem z_if_ge (C : zOk X M d RC RS) {x : Int32} {off : Int} (tgt : Nat) (D : decode M.2.1 pc = .ok (.ifCond .ge off, 3)) (ht : (pc : Int) + off = (tgt : Int)) (KT : 0 ≤ x → Zc X M Q tgt lv st h n cs sl) (KF : ¬ 0 ≤ x → Zc X M Q (pc + 3) lv st h n cs sl) : Zc X M Q pc lv (.int x :: st) h n cs sl := by
  obtain ⟨p, l, e, R, s, m, args, below, meth, c, G⟩ := X
  obtain ⟨hx, hb, hml, hown, hts, hlk, hret, hw, hdf, hdl, hrc, hrs, hnm⟩ := C
  intro H ls locs hh hS hl
  exact lv_if_ge hx hb D ht (fun q => KT q H ls locs hh hS hl) (fun q => KF q H ls locs hh hS hl)
theorem z_if_gt (C : zOk X M d RC RS) {x : Int32} {off : Int} (tgt : Nat) (D : decode M.2.1 pc = .ok (.ifCond .gt off, 3)) (ht : (pc : Int) + off = (tgt : Int)) (KT : 0 < x → Zc X M Q tgt lv st h n cs sl) (KF : ¬ 0 < x → Zc X M Q (pc + 3) lv st h n cs sl) : Zc X M Q pc lv (.int x :: st) h n cs sl := by
  obtain ⟨p, l, e, R, s, m, args, below, meth, c, G⟩ := X
  obtain ⟨hx, hb, hml, hown, hts, hlk, hret, hw, hdf, hdl, hrc, hrs, hnm⟩ := C
  intro H ls locs hh hS hl
  exact lv_if_gt hx hb D ht (fun q => KT q H ls locs hh hS hl) (fun q => KF q H ls locs hh hS hl)
theorem z_if_le (C : zOk X M d RC RS) {x : Int32} {off : Int} (tgt : Nat) (D : decode M.2.1 pc = .ok (.ifCond .le off, 3)) (ht : (pc : Int) + off = (tgt : Int)) (KT : x ≤ 0 → Zc X M Q tgt lv st h n cs sl) (KF : ¬ x ≤ 0 → Zc X M Q (pc + 3) lv st h n cs sl) : Zc X M Q pc lv (.int x :: st) h n cs sl := by
  obtain ⟨p, l, e, R, s, m, args, below, meth, c, G⟩ := X
  obtain ⟨hx, hb, hml, hown, hts, hlk, hret, hw, hdf, hdl, hrc, hrs, hnm⟩ := C
  intro H ls locs hh hS hl
  exact lv_if_le hx hb D ht (fun q => KT q H ls locs hh hS hl) (fun q => KF q H ls locs hh hS hl)
theorem z_icmp_eq (C : zOk X M d RC RS) {x y : Int32} {off : Int} (tgt : Nat) (D : decode M.2.1 pc = .ok (.if_icmp .eq off, 3)) (ht : (pc : Int) + off = (tgt : Int)) (KT : x = y → Zc X M Q tgt lv st h n cs sl) (KF : ¬ x = y → Zc X M Q (pc + 3) lv st h n cs sl) : Zc X M Q pc lv (.int y :: .int x :: st) h n cs sl := by
  obtain ⟨p, l, e, R, s, m, args, below, meth, c, G⟩ := X
  obtain ⟨hx, hb, hml, hown, hts, hlk, hret, hw, hdf, hdl, hrc, hrs, hnm⟩ := C
  intro H ls locs hh hS hl
  exact lv_icmp_eq hx hb D ht (fun q => KT q H ls locs hh hS hl) (fun q => KF q H ls locs hh hS hl)
theorem z_icmp_ne (C : zOk X M d RC RS) {x y : Int32} {off : Int} (tgt : Nat) (D : decode M.2.1 pc = .ok (.if_icmp .ne off, 3)) (ht : (pc : Int) + off = (tgt : Int)) (KT : ¬ x = y → Zc X M Q tgt lv st h n cs sl) (KF : x = y → Zc X M Q (pc + 3) lv st h n cs sl) : Zc X M Q pc lv (.int y :: .int x :: st) h n cs sl := by
  obtain ⟨p, l, e, R, s, m, args, below, meth, c, G⟩ := X
  obtain ⟨hx, hb, hml, hown, hts, hlk, hret, hw, hdf, hdl, hrc, hrs, hnm⟩ := C
  intro H ls locs hh hS hl
  exact lv_icmp_ne hx hb D ht (fun q => KT q H ls locs hh hS hl) (fun q => KF q H ls locs hh hS hl)
theorem z_icmp_lt (C : zOk X M d RC RS) {x y : Int32} {off : Int} (tgt : Nat) (D : decode M.2.1 pc = .ok (.if_icmp .lt off, 3)) (ht : (pc : Int) + off = (tgt : Int)) (KT : x < y → Zc X M Q tgt lv st h n cs sl) (KF : ¬ x < y → Zc X M Q (pc + 3) lv st h n cs sl) : Zc X M Q pc lv (.int y :: .int x :: st) h n cs sl := by
  obtain ⟨p, l, e, R, s, m, args, below, meth, c, G⟩ := X
  obtain ⟨hx, hb, hml, hown, hts, hlk, hret, hw, hdf, hdl, hrc, hrs, hnm⟩ := C
  intro H ls locs hh hS hl
  exact lv_icmp_lt hx hb D ht (fun q => KT q H ls locs hh hS hl) (fun q => KF q H ls locs hh hS hl)
theorem z_icmp_ge (C : zOk X M d RC RS) {x y : Int32} {off : Int} (tgt : Nat) (D : decode M.2.1 pc = .ok (.if_icmp .ge off, 3)) (ht : (pc : Int) + off = (tgt : Int)) (KT : y ≤ x → Zc X M Q tgt lv st h n cs sl) (KF : ¬ y ≤ x → Zc X M Q (pc + 3) lv st h n cs sl) : Zc X M Q pc lv (.int y :: .int x :: st) h n cs sl := by
  obtain ⟨p, l, e, R, s, m, args, below, meth, c, G⟩ := X
  obtain ⟨hx, hb, hml, hown, hts, hlk, hret, hw, hdf, hdl, hrc, hrs, hnm⟩ := C
  intro H ls locs hh hS hl
  exact lv_icmp_ge hx hb D ht (fun q => KT q H ls locs hh hS hl) (fun q => KF q H ls locs hh hS hl)
theorem z_icmp_gt (C : zOk X M d RC RS) {x y : Int32} {off : Int} (tgt : Nat) (D : decode M.2.1 pc = .ok (.if_icmp .gt off, 3)) (ht : (pc : Int) + off = (tgt : Int)) (KT : y < x → Zc X M Q tgt lv st h n cs sl) (KF : ¬ y < x → Zc X M Q (pc + 3) lv st h n cs sl) : Zc X M Q pc lv (.int y :: .int x :: st) h n cs sl := by
  obtain ⟨p, l, e, R, s, m, args, below, meth, c, G⟩ := X
  obtain ⟨hx, hb, hml, hown, hts, hlk, hret, hw, hdf, hdl, hrc, hrs, hnm⟩ := C
  intro H ls locs hh hS hl
  exact lv_icmp_gt hx hb D ht (fun q => KT q H ls locs hh hS hl) (fun q => KF q H ls locs hh hS hl)
theorem z_icmp_le (C : zOk X M d RC RS) {x y : Int32} {off : Int} (tgt : Nat) (D : decode M.2.1 pc = .ok (.if_icmp .le off, 3)) (ht : (pc : Int) + off = (tgt : Int)) (KT : x ≤ y → Zc X M Q tgt lv st h n cs sl) (KF : ¬ x ≤ y → Zc X M Q (pc + 3) lv st h n cs sl) : Zc X M Q pc lv (.int y :: .int x :: st) h n cs sl := by
  obtain ⟨p, l, e, R, s, m, args, below, meth, c, G⟩ := X
  obtain ⟨hx, hb, hml, hown, hts, hlk, hret, hw, hdf, hdl, hrc, hrs, hnm⟩ := C
  intro H ls locs hh hS hl
  exact lv_icmp_le hx hb D ht (fun q => KT q H ls locs hh hS hl) (fun q => KF q H ls locs hh hS hl)
theorem z_goto (C : zOk X M d RC RS) {off : Int} (tgt : Nat) (D : decode M.2.1 pc = .ok (.goto off, 3)) (ht : (pc : Int) + off = (tgt : Int)) (K : Zc X M Q tgt lv st h n cs sl) : Zc X M Q pc lv st h n cs sl := by
  obtain ⟨p, l, e, R, s, m, args, below, meth, c, G⟩ := X
  obtain ⟨hx, hb, hml, hown, hts, hlk, hret, hw, hdf, hdl, hrc, hrs, hnm⟩ := C
  intro H ls locs hh hS hl
  exact lv_goto hx hb D ht (K H ls locs hh hS hl)
theorem z_tblIn (C : zOk X M d RC RS) {dflt lo hi off : Int} {offs : Array Int} {len : Nat} {x : Int32} (tgt : Nat) (D : decode M.2.1 pc = .ok (.tableswitch dflt lo hi offs, len)) (h1 : ¬ x.toInt < lo) (h2 : ¬ hi < x.toInt) (ho : offs[(x.toInt - lo).toNat]? = some off) (ht : (pc : Int) + off = (tgt : Int)) (K : Zc X M Q tgt lv st h n cs sl) : Zc X M Q pc lv (.int x :: st) h n cs sl := by
  obtain ⟨p, l, e, R, s, m, args, below, meth, c, G⟩ := X
  obtain ⟨hx, hb, hml, hown, hts, hlk, hret, hw, hdf, hdl, hrc, hrs, hnm⟩ := C
  intro H ls locs hh hS hl
  exact lv_tableIn hx hb D h1 h2 ho ht (K H ls locs hh hS hl)
theorem z_tblOut (C : zOk X M d RC RS) {dflt lo hi : Int} {offs : Array Int} {len : Nat} {x : Int32} (tgt : Nat) (D : decode M.2.1 pc = .ok (.tableswitch dflt lo hi offs, len)) (h1 : x.toInt < lo ∨ hi < x.toInt) (ht : (pc : Int) + dflt = (tgt : Int)) (K : Zc X M Q tgt lv st h n cs sl) : Zc X M Q pc lv (.int x :: st) h n cs sl := by
  obtain ⟨p, l, e, R, s, m, args, below, meth, c, G⟩ := X
  obtain ⟨hx, hb, hml, hown, hts, hlk, hret, hw, hdf, hdl, hrc, hrs, hnm⟩ := C
  intro H ls locs hh hS hl
  exact lv_tableOut hx hb D h1 ht (K H ls locs hh hS hl)
end ZROWS
