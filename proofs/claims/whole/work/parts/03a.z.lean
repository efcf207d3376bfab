/-! THE LAYER Z: a machine of its own over the kit's W: cells at numbers (0..20 texts, 900..903 static rows, from 1000 on what the law makes), one world for all methods -/
abbrev ZE : Type := (Nat × vp_A) ⊕ (Nat × List Value)
abbrev ZH : Type := Nat → Option ZE
/-- the tables' numbers, array classes by kind (0 int, 1 long, 2 Scene), addresses, the first new address -/
abbrev ZG : Type := va_G × (Nat → ClassId) × (Nat → Nat) × Nat
abbrev ZM : Type := MethodName × ByteArray × Nat × Option FieldType
def zv (am : Nat → Nat) (v : Value) : Value := match v with
  | .ref a => .ref (am a)
  | v => v
def zc (G : ZG) (e : ZE) : va_E := match e with
  | .inl (t, n, .inl f) => .inl (G.2.1 t, n, .inl f)
  | .inl (t, n, .inr (.inl f)) => .inl (G.2.1 t, n, .inr (.inl f))
  | .inl (t, n, .inr (.inr (.inl f))) => .inl (G.2.1 t, n, .inr (.inr (.inl f)))
  | .inl (t, n, .inr (.inr (.inr (.inl f)))) => .inl (G.2.1 t, n, .inr (.inr (.inr (.inl f))))
  | .inl (t, n, .inr (.inr (.inr (.inr f)))) => .inl (G.2.1 t, n, .inr (.inr (.inr (.inr (fun i => (f i).map G.2.2.1)))))
  | .inr (ci, fs) => .inr (ci, fs.map (zv G.2.2.1))
def zA (G : ZG) : Nat → Prop := fun q => G.2.2.2 ≤ q
abbrev zTys (G : ZG) : List (ClassId × FieldType) := [(G.2.1 0, .int), (G.2.1 1, .long), (G.2.1 2, .object RX5)]
def zWS : List Cond := lw_tbl.filter goodWord
theorem zin {w : Cond} (i : Nat) (h : lw_tbl[i]? = some w) (g : goodWord w = true) : w ∈ zWS := List.mem_filter.mpr ⟨List.mem_of_getElem? h, g⟩
theorem zinr {ws : List Cond} (is : List Nat) (h : is.map (fun i => lw_tbl[i]?) = ws.map some) (g : ws.all goodWord = true) : ∀ w ∈ ws, w ∈ zWS := by
  intro w hw
  refine List.mem_filter.mpr ⟨?_, List.all_eq_true.mp g w hw⟩
  have h1 : some w ∈ is.map (fun i => lw_tbl[i]?) := by rw [h]; exact List.mem_map.mpr ⟨w, hw, rfl⟩
  obtain ⟨i, -, hi⟩ := List.mem_map.mp h1
  exact List.mem_of_getElem? hi
def zNW : List Cond := [.methodLinkNest RX4 11 yX7_init RX11, .methodLinkNest RX4 33 yX8_init RX11, .methodLinkNest RX11 18 yX9_init RX11, .methodLinkNest RX9 13 yX8_init RX11, .methodLinkNest RX11 25 yX1_init RX11, .methodLinkNest RX11 32 yX3_init RX11, .methodLinkNest RX11 45 yX8_init RX11, .fieldLinkNest RX4 106 RX11 "MOST_LINES" "[I" RX11, .methodLinkNest RX4 175 yX11_has RX11, .methodLinkNest RX5 48 yX11_has RX11, .fieldLinkNest RX8 40 RX11 "KIND_TIMES" "[I" RX11, .fieldLinkNest RX8 43 RX11 "KIND_MORE" "[I" RX11, .methodLinkNest RX8 46 yX11_has RX11, .methodLinkNest RX10 15 yX11_has RX11, .fieldLinkNest RX9 31 RX11 "TENS" "[I" RX11, .methodLinkNest RX9 80 yX11_has RX11, .methodLinkNest RX11 248 yX9_placesLured RX11, .methodLinkNest RX1 75 yX11_has RX11]
/-- own class, pool entry, text, the text's number -/
def zSR : List (String × Nat × String × Nat) := [(RX4, 224, "forest", 0), (RX4, 226, "place", 1), (RX4, 228, "path", 2), (RX4, 230, "man", 3), (RX4, 232, "kill", 4), (RX4, 234, "stray", 5), (RX4, 236, "walk", 6), (RX4, 238, "taken", 7), (RX4, 134, "dies", 8), (RX4, 155, "lit", 9), (RX4, 160, "dark", 10), (RX4, 162, "holds", 11), (RX4, 240, "sport", 12), (RX4, 242, "keeper", 13), (RX4, 244, "poacher", 14), (RX4, 246, "prince", 15), (RX4, 181, "at", 16), (RX4, 190, "by", 17), (RX4, 192, "far", 18), (RX4, 194, "worth", 19), (RX11, 382, "no such kill stands nowhere", 20),
  (RX12, 125, "forest", 0), (RX12, 217, "dies", 8), (RX12, 127, "place", 1), (RX12, 128, "path", 2), (RX12, 130, "man", 3), (RX12, 132, "walk", 6), (RX12, 134, "kill", 4), (RX12, 136, "taken", 7), (RX12, 138, "stray", 5), (RX12, 227, "lit", 9), (RX12, 229, "dark", 10), (RX12, 231, "holds", 11), (RX12, 240, "sport", 12), (RX12, 242, "keeper", 13), (RX12, 244, "poacher", 14), (RX12, 246, "prince", 15), (RX12, 248, "at", 16), (RX12, 256, "by", 17), (RX12, 258, "far", 18), (RX12, 260, "worth", 19)]
/-- the letters of the texts -/
def zTx : List (List Nat) := [[102, 111, 114, 101, 115, 116], [112, 108, 97, 99, 101], [112, 97, 116, 104], [109, 97, 110], [107, 105, 108, 108], [115, 116, 114, 97, 121], [119, 97, 108, 107], [116, 97, 107, 101, 110], [100, 105, 101, 115], [108, 105, 116], [100, 97, 114, 107], [104, 111, 108, 100, 115], [115, 112, 111, 114, 116], [107, 101, 101, 112, 101, 114], [112, 111, 97, 99, 104, 101, 114], [112, 114, 105, 110, 99, 101], [97, 116], [98, 121], [102, 97, 114], [119, 111, 114, 116, 104]]
def zLen (i : Nat) : Nat := (zTx.getD i []).length
def zCh (i j : Nat) : Nat := (zTx.getD i []).getD j 0
/-- the static rows -/
def zSt (i j : Nat) : Nat := (([[1, 7, 10, 4, 6, 3, 12, 6], [1, 1, 2, 0], [0, 1, 0, 0], [1, 10, 100, 1000, 10000, 100000, 1000000]] : List (List Nat)).getD i []).getD j 0
def zStL (i : Nat) : Nat := ([8, 4, 4, 7] : List Nat).getD i 0
def zStN (i : Nat) : String := (["MOST_LINES", "KIND_TIMES", "KIND_MORE", "TENS"] : List String).getD i ""
def zConst (G : ZG) (U : State) (H : Heap) : Prop :=
  (∀ w ∈ zNW, va_Nw w U) ∧ (∀ q ∈ zSR, vk_R q.1 q.2.1 q.2.2.1 (G.2.2.1 q.2.2.2) U) ∧
  (∀ i, i < 20 → va_O "java/lang/String" (G.2.2.1 i) (zA G) U H ∧ va_OF "java/lang/String" "coder" "B" (.int 0) (G.2.2.1 i) (zA G) U H ∧ va_OF "java/lang/String" "value" "[B" (.ref (G.2.2.1 (100 + i))) (G.2.2.1 i) (zA G) U H ∧ va_T .byte (G.2.2.1 (100 + i)) (zLen i) (fun j => .int (nI (zCh i j))) (zA G) U H) ∧
  (∀ i, i < 4 → va_Z RX11 (zStN i) "[I" (.ref (G.2.2.1 (900 + i))) (zA G) U H ∧ va_T .int (G.2.2.1 (900 + i)) (zStL i) (fun j => .int (nI (zSt i j))) (zA G) U H) ∧
  (va_Z "java/lang/String" "COMPACT_STRINGS" "Z" (.int 1) (zA G) U H ∧ va_Zq "jdk/internal/util/Preconditions" "SIOOBE_FORMATTER" "Ljava/util/function/BiFunction;" (zA G) U H ∧ vx_Zq Bundle.tN "UNASSIGNED_STACK" Bundle.steD (zA G) U H ∧ vx_Zq Bundle.tN "SUPPRESSED_SENTINEL" Bundle.listD (zA G) U H) ∧ va_AO RX5 U
theorem zNW_nest : ∀ w ∈ zNW, (∃ a i b n d h, w = .fieldLinkNest a i b n d h) ∨ ∃ a i x h, w = .methodLinkNest a i x h := by
  intro w hw
  simp only [zNW, List.mem_cons, List.not_mem_nil, or_false] at hw
  rcases hw with rfl | rfl | rfl | rfl | rfl | rfl | rfl | rfl | rfl | rfl | rfl | rfl | rfl | rfl | rfl | rfl | rfl | rfl
  all_goals first | exact Or.inr ⟨_, _, _, _, rfl⟩ | exact Or.inl ⟨_, _, _, _, _, _, rfl⟩
theorem zConst.to {G : ZG} {s U : State} {H H1 : Heap} (h : zConst G s H) (hW : s.WarmedH U.vm) (hk : ∀ q : Nat, q < H.size → ¬ zA G q → H1[q]? = H[q]?) : zConst G U H1 := by
  obtain ⟨h1, h2, h3, h4, h5, h6⟩ := h
  refine ⟨fun w hw => ?_, fun q hq => vk_R.warm hW (h2 q hq), fun i hi => ?_, fun i hi => ?_, ⟨va_Z.kept (va_Z.moved hW.alike h5.1) hk, va_Zq.kept (va_Zq.moved hW.alike h5.2.1) hk, vx_Zq.kept (vx_Zq.moved hW.alike h5.2.2.1) hk, vx_Zq.kept (vx_Zq.moved hW.alike h5.2.2.2) hk⟩, h6.moved hW.alike⟩
  · rcases zNW_nest w hw with ⟨a, i, b, n, d, hh, rfl⟩ | ⟨a, i, x, hh, rfl⟩
    · exact va_Nw.warmF hW (h1 _ hw)
    · exact va_Nw.warmM hW (h1 _ hw)
  · obtain ⟨a, b, c, d⟩ := h3 i hi
    exact ⟨(va_O.moved hW.alike a).kept hk, (va_OF.moved hW.alike b).kept hk, (va_OF.moved hW.alike c).kept hk, (va_T.moved hW.alike d).kept hk⟩
  · obtain ⟨a, b⟩ := h4 i hi
    exact ⟨va_Z.kept (va_Z.moved hW.alike a) hk, (va_T.moved hW.alike b).kept hk⟩
def zAm (G : ZG) : Prop := (∀ a, 1000 ≤ a → G.2.2.1 a = G.2.2.2 + (a - 1000)) ∧ ∀ a, a < 1000 → G.2.2.1 a < G.2.2.2
def zHeap (G : ZG) (h : ZH) (n : Nat) (H : Heap) : Prop := 1000 ≤ n ∧ H.size = G.2.2.2 + (n - 1000) ∧ ∀ a c, h a = some c → 1000 ≤ a ∧ a < n ∧ va_at G.1 vwCl (G.2.2.1 a, zc G c) H
def zWorld (G : ZG) (U : State) (H : Heap) : Prop := va_K G.1 vwCl (zTys G) U ∧ zAm G ∧ G.2.2.2 ≤ H.size ∧ zConst G U H
theorem zWorld.to {G : ZG} {s U : State} {H H1 : Heap} (h : zWorld G s H) (hW : s.WarmedH U.vm) (hz : H.size ≤ H1.size) (hk : ∀ q : Nat, q < H.size → ¬ zA G q → H1[q]? = H[q]?) : zWorld G U H1 :=
  ⟨h.1.moved hW.alike, h.2.1, Nat.le_trans h.2.2.1 hz, h.2.2.2.to hW hk⟩
def zPc (G : ZG) (as : List Value) (h : ZH) (n : Nat) : Array Value → State → Prop := fun v U => v = (as.map (zv G.2.2.1)).toArray ∧ zWorld G U U.heap ∧ zHeap G h n U.heap
def zQc (G : ZG) (post : Option Value → ZH → Nat → Prop) : Array Value → State → Outcome → State → Prop := fun _ st o t => ∃ v h n, o = .returned (Option.map (zv G.2.2.1) v) ∧ post v h n ∧ zHeap G h n t.heap ∧ st.heap.size ≤ t.heap.size ∧ ∀ q, q < st.heap.size → ¬ zA G q → t.heap[q]? = st.heap[q]?
abbrev zrm (d mc ms : Nat) : Room := { frames := d, cells := mc, slots := ms, locals := 64 * d }
/-- a method's contract, at its depth, from these arguments and this heap -/
def ZMet (M : ZM) (d : Nat) (as : List Value) (h : ZH) (n mc ms : Nat) (post : Option Value → ZH → Nat → Prop) : Prop :=
  ∀ (l : Launch) (G : ZG), Met l M.1 (Cond.code M.1 M.2.1 M.2.2.1 M.2.2.2 :: zWS) (zrm d mc ms) (zPc G as h n) (zQc G post) mc ms (zA G)
abbrev ZX : Type := Program × Launch × Env × Room × State × MethodId × Array Value × List Frame × Method × Code × ZG
def Zc (X : ZX) (M : ZM) (Q : State → Prop) (pc : Nat) (lv : List (Nat × Value)) (st : List Value) (h : ZH) (n cs sl : Nat) : Prop := match X with
  | (p, l, e, R, s, m, args, below, meth, c, G) => ∀ (H : Heap) (ls : Array Slot) (locs : List Loc), zHeap G h n H → va_S (zA G) s.heap H locs → lv_has ls M.2.2.1 (lv.map fun q => (q.1, zv G.2.2.1 q.2)) → W p l e R s m args below meth c H locs cs sl Q (F0 m pc ls (st.map (zv G.2.2.1)))
def zOk (X : ZX) (M : ZM) (d RC RS : Nat) : Prop := match X with
  | (p, _, _, R, s, m, args, _, meth, c, G) => p.tables.exec = Jvm.exec ∧ c.code = M.2.1 ∧ c.maxLocals = M.2.2.1 ∧ s.vm.findClass M.1.cls = some m.cls ∧ (∀ w ∈ zWS, w.before args s = true) ∧ meth.locks = false ∧ meth.sig.returnType = M.2.2.2 ∧ zWorld G s s.heap ∧ d ≤ R.frames ∧ 64 * d ≤ R.locals ∧ R.cells = RC ∧ R.slots = RS ∧ meth.name = M.1.name
def zEnd (X : ZX) (post : Option Value → ZH → Nat → Prop) (mc ms : Nat) : State → Prop := match X with
  | (_, _, _, _, s, _, args, below, _, _, G) => MQ below (zQc G post) args s mc ms (zA G)
theorem zv_cat (am : Nat → Nat) (v : Value) : (zv am v).category = v.category := by cases v <;> rfl
theorem zl_map (am : Nat → Nat) (f : Nat × Value → Bool) (hf : ∀ q, f (q.1, zv am q.2) = f q) : ∀ lv : List (Nat × Value), (lv.map fun q => (q.1, zv am q.2)).filter f = (lv.filter f).map fun q => (q.1, zv am q.2) := by
  intro lv
  induction lv with
  | nil => rfl
  | cons a l ih =>
    simp only [List.map_cons, List.filter_cons, hf a]
    by_cases h : f a = true
    · simp [h, ih]
    · simp [h, ih]
theorem zl_args (am : Nat → Nat) : ∀ (as : List Value) (i : Nat), lv_args i (as.map (zv am)) = (lv_args i as).map fun q => (q.1, zv am q.2) := by
  intro as
  induction as with
  | nil => intro i; rfl
  | cons a l ih => intro i; simp only [List.map_cons, lv_args, ih, zv_cat]
