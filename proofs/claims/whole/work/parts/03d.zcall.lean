theorem zlen_sl (am : Nat → Nat) (as : List Value) : (lg_sl (as.map (zv am))).length = (lg_sl as).length := by
  induction as with
  | nil => rfl
  | cons a l ih =>
    simp only [lg_sl, List.map_cons, List.flatMap_cons, List.length_append, zv_cat] at ih ⊢
    rw [ih]
    by_cases q : a.category = 2 <;> simp [q]
theorem z_enter {M : ZM} {d mc ms n : Nat} {as : List Value} {lv : List (Nat × Value)} {h : ZH} {post : Option Value → ZH → Nat → Prop} (hy : plainName M.1.cls = true) (hlen : (lg_sl as).length ≤ M.2.2.1) (hlv : lv_args 0 as = lv)
    (body : ∀ X : ZX, zOk X M d mc ms → Zc X M (zEnd X post mc ms) 0 lv [] h n 0 0) : ZMet M d as h n mc ms post := by
  subst hlv
  intro l G
  refine Met.ofW (cc := M.2.1) (maxL := M.2.2.1) (ret := M.2.2.2) hy rfl ?_
  intro p e s m args below meth c s₁ B hml hP
  obtain ⟨rfl, hw, hh⟩ := hP
  have hts := atoms_spec (ws := Cond.code M.1 M.2.1 M.2.2.1 M.2.2.2 :: zWS) B.pre
  have hown : s.vm.findClass M.1.cls = some m.cls := findClass_of_methodNamed B.named
  have K := body (p, l, e, (headSpec (Cond.code M.1 M.2.1 M.2.2.1 M.2.2.2 :: zWS) (zrm d mc ms)).room, s, m, (as.map (zv G.2.2.1)).toArray, below, meth, c, G) ⟨B.exec, B.bytes, hml, hown, fun w hw => hts w (List.mem_cons_of_mem _ hw), B.notSynchronized, B.returns, hw, Nat.le_refl _, Nat.le_refl _, rfl, rfl, (name_of_methodNamed B.named B.method).1⟩
  have hl := lv_entry (as.map (zv G.2.2.1)) (n := M.2.2.1) (by rw [zlen_sl]; exact hlen)
  rw [lg_entry_eq]
  generalize (lg_sl (as.map (zv G.2.2.1)) ++ List.replicate (M.2.2.1 - (lg_sl (as.map (zv G.2.2.1))).length) Slot.unset).toArray = ls at hl ⊢
  exact K s.heap ls [] hh va_S.rf (by rw [← zl_args]; exact hl)
section ZRET
variable {X : ZX} {M : ZM} {pc : Nat} {lv : List (Nat × Value)} {st : List Value} {h : ZH} {n cs sl d RC RS mc ms : Nat} {post : Option Value → ZH → Nat → Prop}
theorem z_iret (C : zOk X M d RC RS) {v : Int32} (D : decode M.2.1 pc = .ok (.ireturn, 1)) (hr : M.2.2.2 = some .int) (h1 : cs ≤ mc) (h2 : sl ≤ ms) (hp : post (some (.int v)) h n) : Zc X M (zEnd X post mc ms) pc lv [.int v] h n cs sl := by
  obtain ⟨p, l, e, R, s, m, args, below, meth, c, G⟩ := X
  obtain ⟨hx, hb, hml, hown, hts, hlk, hret, hw, hdf, hdl, hrc, hrs, hnm⟩ := C
  intro H ls locs hh hS hl
  refine W.widen h1 h2 ?_
  exact W.iret hx hb (hret.trans hr) (fun t ht hW => ⟨some (.int v), h, n, rfl, hp, by rw [ht]; exact hh, by rw [ht]; exact hS.1, fun q q1 q2 => by rw [ht]; exact hS.2.1 q q1 q2⟩) (fun q hq => hS.2.2 q hq) D hlk
theorem z_zret (C : zOk X M d RC RS) {v : Int32} {ty : FieldType} (D : decode M.2.1 pc = .ok (.ireturn, 1)) (hr : M.2.2.2 = some ty) (hn : narrow ty (.int v) = .int v) (h1 : cs ≤ mc) (h2 : sl ≤ ms) (hp : post (some (.int v)) h n) : Zc X M (zEnd X post mc ms) pc lv [.int v] h n cs sl := by
  obtain ⟨p, l, e, R, s, m, args, below, meth, c, G⟩ := X
  obtain ⟨hx, hb, hml, hown, hts, hlk, hret, hw, hdf, hdl, hrc, hrs, hnm⟩ := C
  intro H ls locs hh hS hl
  refine W.widen h1 h2 ?_
  exact W.zret hx hb (hret.trans hr) hn (fun t ht hW => ⟨some (.int v), h, n, rfl, hp, by rw [ht]; exact hh, by rw [ht]; exact hS.1, fun q q1 q2 => by rw [ht]; exact hS.2.1 q q1 q2⟩) (fun q hq => hS.2.2 q hq) D hlk
theorem z_lret (C : zOk X M d RC RS) {v : Int64} (D : decode M.2.1 pc = .ok (.lreturn, 1)) (hr : M.2.2.2 = some .long) (h1 : cs ≤ mc) (h2 : sl ≤ ms) (hp : post (some (.long v)) h n) : Zc X M (zEnd X post mc ms) pc lv [.long v] h n cs sl := by
  obtain ⟨p, l, e, R, s, m, args, below, meth, c, G⟩ := X
  obtain ⟨hx, hb, hml, hown, hts, hlk, hret, hw, hdf, hdl, hrc, hrs, hnm⟩ := C
  intro H ls locs hh hS hl
  refine W.widen h1 h2 ?_
  exact W.lret hx hb (hret.trans hr) (fun t ht hW => ⟨some (.long v), h, n, rfl, hp, by rw [ht]; exact hh, by rw [ht]; exact hS.1, fun q q1 q2 => by rw [ht]; exact hS.2.1 q q1 q2⟩) (fun q hq => hS.2.2 q hq) D hlk
theorem z_vret (C : zOk X M d RC RS) (D : decode M.2.1 pc = .ok (.return_, 1)) (hr : M.2.2.2 = none) (h1 : cs ≤ mc) (h2 : sl ≤ ms) (hp : post none h n) : Zc X M (zEnd X post mc ms) pc lv [] h n cs sl := by
  obtain ⟨p, l, e, R, s, m, args, below, meth, c, G⟩ := X
  obtain ⟨hx, hb, hml, hown, hts, hlk, hret, hw, hdf, hdl, hrc, hrs, hnm⟩ := C
  intro H ls locs hh hS hl
  refine W.widen h1 h2 ?_
  exact W.vret hx hb (hret.trans hr) (fun t ht hW => ⟨none, h, n, rfl, hp, by rw [ht]; exact hh, by rw [ht]; exact hS.1, fun q q1 q2 => by rw [ht]; exact hS.2.1 q q1 q2⟩) (fun q hq => hS.2.2 q hq) D hlk
theorem z_aret (C : zOk X M d RC RS) {a : Nat} {nm : String} (D : decode M.2.1 pc = .ok (.areturn, 1)) (hr : M.2.2.2 = some (.object nm)) (h1 : cs ≤ mc) (h2 : sl ≤ ms) (hp : post (some (.ref a)) h n) : Zc X M (zEnd X post mc ms) pc lv [.ref a] h n cs sl := by
  obtain ⟨p, l, e, R, s, m, args, below, meth, c, G⟩ := X
  obtain ⟨hx, hb, hml, hown, hts, hlk, hret, hw, hdf, hdl, hrc, hrs, hnm⟩ := C
  intro H ls locs hh hS hl
  refine W.widen h1 h2 ?_
  exact W.aret hx hb (hret.trans hr) (Or.inl ⟨nm, rfl⟩) (Or.inr ⟨_, rfl⟩) (fun t ht hW => ⟨some (.ref a), h, n, rfl, hp, by rw [ht]; exact hh, by rw [ht]; exact hS.1, fun q q1 q2 => by rw [ht]; exact hS.2.1 q q1 q2⟩) (fun q hq => hS.2.2 q hq) D hlk
end ZRET
/-- what the tables say of a method: its code, its class is initialised, how many parameters -/
def zMt (M : ZM) (na : Nat) : Prop := Cond.code M.1 M.2.1 M.2.2.1 M.2.2.2 ∈ zWS ∧ Cond.initialized M.1.cls ∈ zWS ∧ M.2.2.1 ≤ 45 ∧ (M.1.cls ≠ "java/lang/invoke/MethodHandle" ∧ M.1.cls ≠ "java/lang/invoke/VarHandle" ∧ (parseMethodDescriptor M.1.desc).map (fun d => d.parameters.length) = some na)
def zMtV (M : ZM) (na ci : Nat) : Prop := zMt M na ∧ Cond.instanceMethod M.1 ∈ zWS ∧ Cond.selects M.1.cls M.1 M.1 ∈ zWS ∧ ∃ T N, vwCl[ci]? = some (M.1.cls, T, N)
def zMtS (M : ZM) (na : Nat) : Prop := zMt M na ∧ Cond.static M.1 ∈ zWS
def zMtI (M : ZM) (na : Nat) : Prop := zMt M na ∧ Cond.instanceMethod M.1 ∈ zWS ∧ M.1.name = "<init>"
theorem zGood {M M' : ZM} (hc : Cond.code M'.1 M'.2.1 M'.2.2.1 M'.2.2.2 ∈ zWS) : GoodIn zWS (Cond.code M'.1 M'.2.1 M'.2.2.1 M'.2.2.2 :: zWS) := by
  have hg : ∀ w ∈ zWS, w ∈ zWS ∧ ((w.onTables && w.keeps) = true ∨ ∃ ty, w = .arrayClass ty) := fun w hw => ⟨hw, good_of_word (List.mem_filter.mp hw).2⟩
  intro w hw
  rcases List.mem_cons.mp hw with rfl | hw
  · exact hg _ hc
  · exact hg _ hw
theorem zBlind (G : ZG) (as : List Value) (h : ZH) (n : Nat) : FrameBlind (zPc G as h n) := by
  intro a U g mk q
  obtain ⟨q1, q2, q3⟩ := q
  exact ⟨q1, q2.to (State.WarmedH.refl U) (Nat.le_refl _) (fun _ _ _ => rfl), q3⟩
theorem zcat (am : Nat → Nat) (st : List Value) : ((st.map (zv am)).map fun v => v.category).sum = (st.map fun v => v.category).sum := by
  rw [List.map_map]
  congr 1
  exact List.map_congr_left (fun v _ => zv_cat am v)
theorem z_cont {p : Program} {l : Launch} {e : Env} {R : Room} {s : State} {m : MethodId} {args : Array Value} {below : List Frame} {meth : Method} {c : Code} {H : Heap} {locs : List Loc} {cells slots mc ms : Nat} {Q : State → Prop} {pc : Nat} {ls : Array Slot} {st0 rest : List Value} {a : Array Value} {G : ZG} {post : Option Value → ZH → Nat → Prop}
    (hr : va_Run p l e R s m args below meth c H locs cells slots mc ms (F0 m pc ls st0) rest (zQc G post a) (zA G)) (hS : va_S (zA G) s.heap H locs)
    (kk : ∀ (v : Option Value) (h : ZH) (n : Nat) (H1 : Heap) (locs1 : List Loc), post v h n → zHeap G h n H1 → va_S (zA G) s.heap H1 locs1 → W p l e R s m args below meth c H1 locs1 (cells + mc) (slots + ms) Q (F0 m (pc + 3) ls ((Option.map (zv G.2.2.1) v).toList ++ rest))) : W p l e R s m args below meth c H locs cells slots Q (F0 m pc ls st0) := by
  intro T hT X
  obtain ⟨v, st₀, t, T', L, h0, X', hL, e1, e2, ⟨v', h, n, hv, hp, hh, hz, hk⟩, st⟩ := hr T hT X
  cases hv
  rw [h0] at hz hk
  obtain ⟨t2, a1, b1⟩ := kk v' h n T'.heap (locs ++ L) hp (by rw [e1]; exact hh)
    ⟨Nat.le_trans hS.1 (by rw [e1]; exact hz), fun q h1 h2 => by rw [e1, hk q (Nat.lt_of_lt_of_le h1 hS.1) h2]; exact hS.2.1 q h1 h2, fun q hq => by
      rcases List.mem_append.mp hq with h | h
      · exact hS.2.2 q h
      · exact hL q h⟩ T' rfl X'
  exact ⟨t2, st t2 a1, b1⟩
section ZCALL
variable {X : ZX} {M M' : ZM} {Q : State → Prop} {pc : Nat} {lv : List (Nat × Value)} {st : List Value} {h : ZH} {n cs sl d RC RS d' mc ms idx na : Nat} {post : Option Value → ZH → Nat → Prop}
theorem z_callV (C : zOk X M d RC RS) {a ci : Nat} {fs as rest : List Value} (D : decode M.2.1 pc = .ok (.invokevirtual idx, 3)) (L : Cond.methodLink M.1.cls idx M'.1 ∈ zWS) (F : zMtV M' na ci) (hm : ZMet M' d' (.ref a :: as) h n mc ms post) (ha : h a = some (.inr (ci, fs))) (hs : st = as.reverse ++ .ref a :: rest) (hn : as.length = na) (hd : d' + 1 ≤ d) (hc : (rest.map fun v => v.category).sum ≤ 8) (hf : cs + mc ≤ RC ∧ sl + ms ≤ RS)
    (K : ∀ v h' n', post v h' n' → Zc X M Q (pc + 3) lv (v.toList ++ rest) h' n' (cs + mc) (sl + ms)) : Zc X M Q pc lv st h n cs sl := by
  obtain ⟨p, l, e, R, s, m, args, below, meth, c, G⟩ := X
  obtain ⟨hx, hb, hml, hown, hts, hlk, hret, hw, hdf, hdl, hrc, hrs, hnm⟩ := C
  intro H ls locs hh hS hl
  subst hs
  obtain ⟨⟨g1, g2, g3, g4⟩, g5, g6, T, N, g7⟩ := F
  have hP := hh.one ha
  refine z_cont (va_runV (As := as.map (zv G.2.2.1)) (rest := rest.map (zv G.2.2.1)) (C := M'.1.cls) (b := G.2.2.1 a) ⟨hx, hb, hml, hown, hts⟩ (hm l G) (bytes := M'.2.1) (maxL := M'.2.2.1) (ret := M'.2.2.2) (n := na) ⟨callB_of na hts (zGood (M := M) g1) rfl rfl rfl (hts _ g2) (hts _ L) g4 ⟨by show d' + 1 ≤ R.frames; omega, by show 8 + (M'.2.2.1 + 11) + 64 * d' ≤ R.locals; omega⟩, hts _ g5, hts _ g6⟩ ⟨zBlind _ _ _ _, va_recv (q0 := 0) (fs := fs.map (zv G.2.2.1)) hw.1 hP g7 rfl, fun U hU hW => ⟨rfl, hw.to hW (by rw [hU]; exact hS.1) (fun q h1 h2 => by rw [hU]; exact hS.2.1 q h1 h2), by rw [hU]; exact hh⟩⟩ rfl (by rw [List.length_map]; exact hn) hl.1 (by show List.map _ _ = _; rw [List.map_append, List.map_reverse]; rfl) (lv_room (by rw [zcat]; exact hc)) D (by show cs + mc ≤ R.cells ∧ sl + ms ≤ R.slots; rw [hrc, hrs]; exact hf)) hS (fun v h' n' H1 locs1 hp hh1 hS1 => ?_)
  have := K v h' n' hp H1 ls locs1 hh1 hS1 hl
  cases v <;> exact this
theorem z_callS (C : zOk X M d RC RS) {as rest : List Value} (D : decode M.2.1 pc = .ok (.invokestatic idx, 3)) (L : Cond.methodLink M.1.cls idx M'.1 ∈ zWS) (F : zMtS M' na) (hm : ZMet M' d' as h n mc ms post) (hs : st = as.reverse ++ rest) (hn : as.length = na) (hd : d' + 1 ≤ d) (hc : (rest.map fun v => v.category).sum ≤ 8) (hf : cs + mc ≤ RC ∧ sl + ms ≤ RS)
    (K : ∀ v h' n', post v h' n' → Zc X M Q (pc + 3) lv (v.toList ++ rest) h' n' (cs + mc) (sl + ms)) : Zc X M Q pc lv st h n cs sl := by
  obtain ⟨p, l, e, R, s, m, args, below, meth, c, G⟩ := X
  obtain ⟨hx, hb, hml, hown, hts, hlk, hret, hw, hdf, hdl, hrc, hrs, hnm⟩ := C
  intro H ls locs hh hS hl
  subst hs
  obtain ⟨⟨g1, g2, g3, g4⟩, g5⟩ := F
  refine z_cont (va_runS (As := as.map (zv G.2.2.1)) (rest := rest.map (zv G.2.2.1)) ⟨hx, hb, hml, hown, hts⟩ (hm l G) (bytes := M'.2.1) (maxL := M'.2.2.1) (ret := M'.2.2.2) (n := na) ⟨callB_of na hts (zGood (M := M) g1) rfl rfl rfl (hts _ g2) (hts _ L) g4 ⟨by show d' + 1 ≤ R.frames; omega, by show 8 + (M'.2.2.1 + 11) + 64 * d' ≤ R.locals; omega⟩, hts _ g5⟩ ⟨zBlind _ _ _ _, fun U hU hW => ⟨rfl, hw.to hW (by rw [hU]; exact hS.1) (fun q h1 h2 => by rw [hU]; exact hS.2.1 q h1 h2), by rw [hU]; exact hh⟩⟩ rfl (by rw [List.length_map]; exact hn) hl.1 (by show List.map _ _ = _; rw [List.map_append, List.map_reverse]) (lv_room (by rw [zcat]; exact hc)) D (by show cs + mc ≤ R.cells ∧ sl + ms ≤ R.slots; rw [hrc, hrs]; exact hf)) hS (fun v h' n' H1 locs1 hp hh1 hS1 => ?_)
  have := K v h' n' hp H1 ls locs1 hh1 hS1 hl
  cases v <;> exact this
theorem z_callI (C : zOk X M d RC RS) {a : Nat} {as rest : List Value} (D : decode M.2.1 pc = .ok (.invokespecial idx, 3)) (L : Cond.methodLink M.1.cls idx M'.1 ∈ zWS) (F : zMtI M' na) (hrt : M'.2.2.2 = none) (hm : ZMet M' d' (.ref a :: as) h n mc ms post) (hs : st = as.reverse ++ .ref a :: rest) (hn : as.length = na) (hd : d' + 1 ≤ d) (hc : (rest.map fun v => v.category).sum ≤ 8) (hf : cs + mc ≤ RC ∧ sl + ms ≤ RS)
    (K : ∀ v h' n', post v h' n' → Zc X M Q (pc + 3) lv (v.toList ++ rest) h' n' (cs + mc) (sl + ms)) : Zc X M Q pc lv st h n cs sl := by
  obtain ⟨p, l, e, R, s, m, args, below, meth, c, G⟩ := X
  obtain ⟨hx, hb, hml, hown, hts, hlk, hret, hw, hdf, hdl, hrc, hrs, hnm⟩ := C
  intro H ls locs hh hS hl
  subst hs
  obtain ⟨⟨g1, g2, g3, g4⟩, g5, g6⟩ := F
  have hm := hm l G
  have hgd := zGood (M := M) g1
  rw [hrt] at hm hgd
  refine z_cont (va_runI (As := as.map (zv G.2.2.1)) (rest := rest.map (zv G.2.2.1)) (b := G.2.2.1 a) ⟨hx, hb, hml, hown, hts⟩ hm (bytes := M'.2.1) (maxL := M'.2.2.1) (n := na) ⟨callB_of na hts hgd rfl rfl rfl (hts _ g2) (hts _ L) g4 ⟨by show d' + 1 ≤ R.frames; omega, by show 8 + (M'.2.2.1 + 11) + 64 * d' ≤ R.locals; omega⟩, g6, hts _ g5⟩ ⟨zBlind _ _ _ _, fun U hU hW => ⟨rfl, hw.to hW (by rw [hU]; exact hS.1) (fun q h1 h2 => by rw [hU]; exact hS.2.1 q h1 h2), by rw [hU]; exact hh⟩⟩ rfl (by rw [List.length_map]; exact hn) hl.1 (by show List.map _ _ = _; rw [List.map_append, List.map_reverse]; rfl) (lv_room (by rw [zcat]; exact hc)) D (by show cs + mc ≤ R.cells ∧ sl + ms ≤ R.slots; rw [hrc, hrs]; exact hf)) hS (fun v h' n' H1 locs1 hp hh1 hS1 => ?_)
  have := K v h' n' hp H1 ls locs1 hh1 hS1 hl
  cases v <;> exact this
/-- the same for nest mates -/
theorem z_callVN (C : zOk X M d RC RS) {a ci : Nat} {fs as rest : List Value} {host : String} (D : decode M.2.1 pc = .ok (.invokevirtual idx, 3)) (L : Cond.methodLinkNest M.1.cls idx M'.1 host ∈ zNW) (F : zMtV M' na ci) (hm : ZMet M' d' (.ref a :: as) h n mc ms post) (ha : h a = some (.inr (ci, fs))) (hs : st = as.reverse ++ .ref a :: rest) (hn : as.length = na) (hd : d' + 1 ≤ d) (hc : (rest.map fun v => v.category).sum ≤ 8) (hf : cs + mc ≤ RC ∧ sl + ms ≤ RS)
    (K : ∀ v h' n', post v h' n' → Zc X M Q (pc + 3) lv (v.toList ++ rest) h' n' (cs + mc) (sl + ms)) : Zc X M Q pc lv st h n cs sl := by
  obtain ⟨p, l, e, R, s, m, args, below, meth, c, G⟩ := X
  obtain ⟨hx, hb, hml, hown, hts, hlk, hret, hw, hdf, hdl, hrc, hrs, hnm⟩ := C
  intro H ls locs hh hS hl
  subst hs
  obtain ⟨⟨g1, g2, g3, g4⟩, g5, g6, T, N, g7⟩ := F
  have hP := hh.one ha
  refine z_cont (va_runVN (As := as.map (zv G.2.2.1)) (rest := rest.map (zv G.2.2.1)) (C := M'.1.cls) (b := G.2.2.1 a) ⟨hx, hb, hml, hown, hts⟩ (hm l G) (bytes := M'.2.1) (maxL := M'.2.2.1) (ret := M'.2.2.2) (n := na) ⟨va_cnB na hts (zGood (M := M) g1) rfl rfl rfl (hw.2.2.2.1 _ L) (hts _ g2) g4 ⟨by show d' + 1 ≤ R.frames; omega, by show 8 + (M'.2.2.1 + 11) + 64 * d' ≤ R.locals; omega⟩, hts _ g5, hts _ g6⟩ ⟨zBlind _ _ _ _, va_recv (q0 := 0) (fs := fs.map (zv G.2.2.1)) hw.1 hP g7 rfl, fun U hU hW => ⟨rfl, hw.to hW (by rw [hU]; exact hS.1) (fun q h1 h2 => by rw [hU]; exact hS.2.1 q h1 h2), by rw [hU]; exact hh⟩⟩ rfl (by rw [List.length_map]; exact hn) hl.1 (by show List.map _ _ = _; rw [List.map_append, List.map_reverse]; rfl) (lv_room (by rw [zcat]; exact hc)) D (by show cs + mc ≤ R.cells ∧ sl + ms ≤ R.slots; rw [hrc, hrs]; exact hf)) hS (fun v h' n' H1 locs1 hp hh1 hS1 => ?_)
  have := K v h' n' hp H1 ls locs1 hh1 hS1 hl
  cases v <;> exact this
theorem z_callSN (C : zOk X M d RC RS) {as rest : List Value} {host : String} (D : decode M.2.1 pc = .ok (.invokestatic idx, 3)) (L : Cond.methodLinkNest M.1.cls idx M'.1 host ∈ zNW) (F : zMtS M' na) (hm : ZMet M' d' as h n mc ms post) (hs : st = as.reverse ++ rest) (hn : as.length = na) (hd : d' + 1 ≤ d) (hc : (rest.map fun v => v.category).sum ≤ 8) (hf : cs + mc ≤ RC ∧ sl + ms ≤ RS)
    (K : ∀ v h' n', post v h' n' → Zc X M Q (pc + 3) lv (v.toList ++ rest) h' n' (cs + mc) (sl + ms)) : Zc X M Q pc lv st h n cs sl := by
  obtain ⟨p, l, e, R, s, m, args, below, meth, c, G⟩ := X
  obtain ⟨hx, hb, hml, hown, hts, hlk, hret, hw, hdf, hdl, hrc, hrs, hnm⟩ := C
  intro H ls locs hh hS hl
  subst hs
  obtain ⟨⟨g1, g2, g3, g4⟩, g5⟩ := F
  refine z_cont (va_runSN (As := as.map (zv G.2.2.1)) (rest := rest.map (zv G.2.2.1)) ⟨hx, hb, hml, hown, hts⟩ (hm l G) (bytes := M'.2.1) (maxL := M'.2.2.1) (ret := M'.2.2.2) (n := na) ⟨va_cnB na hts (zGood (M := M) g1) rfl rfl rfl (hw.2.2.2.1 _ L) (hts _ g2) g4 ⟨by show d' + 1 ≤ R.frames; omega, by show 8 + (M'.2.2.1 + 11) + 64 * d' ≤ R.locals; omega⟩, hts _ g5, trivial⟩ ⟨zBlind _ _ _ _, fun U hU hW => ⟨rfl, hw.to hW (by rw [hU]; exact hS.1) (fun q h1 h2 => by rw [hU]; exact hS.2.1 q h1 h2), by rw [hU]; exact hh⟩⟩ rfl (by rw [List.length_map]; exact hn) hl.1 (by show List.map _ _ = _; rw [List.map_append, List.map_reverse]) (lv_room (by rw [zcat]; exact hc)) D (by show cs + mc ≤ R.cells ∧ sl + ms ≤ R.slots; rw [hrc, hrs]; exact hf)) hS (fun v h' n' H1 locs1 hp hh1 hS1 => ?_)
  have := K v h' n' hp H1 ls locs1 hh1 hS1 hl
  cases v <;> exact this
theorem z_callIN (C : zOk X M d RC RS) {a : Nat} {as rest : List Value} {host : String} (D : decode M.2.1 pc = .ok (.invokespecial idx, 3)) (L : Cond.methodLinkNest M.1.cls idx M'.1 host ∈ zNW) (F : zMtI M' na) (hrt : M'.2.2.2 = none) (hm : ZMet M' d' (.ref a :: as) h n mc ms post) (hs : st = as.reverse ++ .ref a :: rest) (hn : as.length = na) (hd : d' + 1 ≤ d) (hc : (rest.map fun v => v.category).sum ≤ 8) (hf : cs + mc ≤ RC ∧ sl + ms ≤ RS)
    (K : ∀ v h' n', post v h' n' → Zc X M Q (pc + 3) lv (v.toList ++ rest) h' n' (cs + mc) (sl + ms)) : Zc X M Q pc lv st h n cs sl := by
  obtain ⟨p, l, e, R, s, m, args, below, meth, c, G⟩ := X
  obtain ⟨hx, hb, hml, hown, hts, hlk, hret, hw, hdf, hdl, hrc, hrs, hnm⟩ := C
  intro H ls locs hh hS hl
  subst hs
  obtain ⟨⟨g1, g2, g3, g4⟩, g5, g6⟩ := F
  have hm := hm l G
  have hgd := zGood (M := M) g1
  rw [hrt] at hm hgd
  refine z_cont (va_runIN (As := as.map (zv G.2.2.1)) (rest := rest.map (zv G.2.2.1)) (b := G.2.2.1 a) ⟨hx, hb, hml, hown, hts⟩ hm (bytes := M'.2.1) (maxL := M'.2.2.1) (n := na) ⟨va_cnB na hts hgd rfl rfl rfl (hw.2.2.2.1 _ L) (hts _ g2) g4 ⟨by show d' + 1 ≤ R.frames; omega, by show 8 + (M'.2.2.1 + 11) + 64 * d' ≤ R.locals; omega⟩, g6, hts _ g5⟩ ⟨zBlind _ _ _ _, fun U hU hW => ⟨rfl, hw.to hW (by rw [hU]; exact hS.1) (fun q h1 h2 => by rw [hU]; exact hS.2.1 q h1 h2), by rw [hU]; exact hh⟩⟩ rfl (by rw [List.length_map]; exact hn) hl.1 (by show List.map _ _ = _; rw [List.map_append, List.map_reverse]; rfl) (lv_room (by rw [zcat]; exact hc)) D (by show cs + mc ≤ R.cells ∧ sl + ms ≤ R.slots; rw [hrc, hrs]; exact hf)) hS (fun v h' n' H1 locs1 hp hh1 hS1 => ?_)
  have := K v h' n' hp H1 ls locs1 hh1 hS1 hl
  cases v <;> exact this
end ZCALL
