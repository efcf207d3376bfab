/-- a truth, a place or none, as ints -/
def zb (b : Bool) : Int32 := if b then 1 else 0
def zo (o : Option Nat) : Int32 := match o with
  | some k => nI k
  | none => -2
theorem zb_nar (b : Bool) : narrow .boolean (.int (zb b)) = .int (zb b) := by cases b <;> rfl
theorem zb_fit (b : Bool) : fits .boolean (.int (zb b)) = true := by cases b <;> rfl
def nup (f : Nat → Nat) (k v : Nat) : Nat → Nat := fun j => if j = k then v else f j
theorem nup_same (f : Nat → Nat) (k v : Nat) : nup f k v k = v := by simp [nup]
theorem nup_ne {f : Nat → Nat} {k j v : Nat} (h : j ≠ k) : nup f k v j = f j := by simp [nup, h]
theorem nup_nI (f : Nat → Nat) (k v : Nat) : upd (fun i => nI (f i)) k (nI v) = fun i => nI (nup f k v i) := by
  funext j
  by_cases h : j = k <;> simp [upd, nup, h]
theorem nI_lit (a : Nat) : (OfNat.ofNat a : Int32) = nI a := rfl
theorem nI_or (a b : Nat) : nI a ||| nI b = nI (a ||| b) := by
  apply Int32.toBitVec_inj.1
  show BitVec.ofNat 32 a ||| BitVec.ofNat 32 b = BitVec.ofNat 32 (a ||| b)
  apply BitVec.eq_of_getLsbD_eq
  intro i hi
  simp [hi]
theorem nI_and (a b : Nat) : nI a &&& nI b = nI (a &&& b) := by
  apply Int32.toBitVec_inj.1
  show BitVec.ofNat 32 a &&& BitVec.ofNat 32 b = BitVec.ofNat 32 (a &&& b)
  apply BitVec.eq_of_getLsbD_eq
  intro i hi
  simp [hi]
theorem nI_xor (a b : Nat) : nI a ^^^ nI b = nI (a ^^^ b) := by
  apply Int32.toBitVec_inj.1
  show BitVec.ofNat 32 a ^^^ BitVec.ofNat 32 b = BitVec.ofNat 32 (a ^^^ b)
  apply BitVec.eq_of_getLsbD_eq
  intro i hi
  simp [hi]
theorem nI_s31 : ∀ k, k < 32 → ((nI k &&& 31).toBitVec.smod 32).toNat = k := by decide +kernel
theorem nI_shl (a : Nat) {k : Nat} (hk : k < 32) : nI a <<< (nI k &&& 31) = nI (a <<< k) := by
  apply Int32.toBitVec_inj.mp
  apply BitVec.eq_of_toNat_eq
  rw [pk_shl _ _ k (nI_s31 k hk), Nat.shiftLeft_eq]
  show a % 2 ^ 32 * 2 ^ k % 2 ^ 32 = a * 2 ^ k % 2 ^ 32
  rw [Nat.mod_mul_mod]
theorem nI_shr {a k : Nat} (ha : a < 2147483648) (hk : k < 32) : nI a >>> (nI k &&& 31) = nI (a >>> k) := by
  rw [Nat.shiftRight_eq_div_pow]
  exact pk_shrN (by omega) _ k (nI_s31 k hk)
theorem nI_eqI {a b : Nat} (ha : a < 2147483648) (hb : b < 2147483648) : nI a = nI b ↔ a = b := nI_eq (by omega) (by omega)
theorem zb_eq0 (b : Bool) : zb b = 0 ↔ b = false := by cases b <;> simp [zb] <;> decide
section ZN
variable {X : ZX} {M : ZM} {Q : State → Prop} {pc : Nat} {lv : List (Nat × Value)} {st : List Value} {h : ZH} {n cs sl d RC RS : Nat}
theorem z_top {x y : Int32} (e : x = y) (K : Zc X M Q pc lv (.int y :: st) h n cs sl) : Zc X M Q pc lv (.int x :: st) h n cs sl := e ▸ K
theorem z_topl {x y : Int64} (e : x = y) (K : Zc X M Q pc lv (.long y :: st) h n cs sl) : Zc X M Q pc lv (.long x :: st) h n cs sl := e ▸ K
theorem z_hp {h' : ZH} (e : h = h') (K : Zc X M Q pc lv st h' n cs sl) : Zc X M Q pc lv st h n cs sl := e ▸ K
theorem z_iaddN (C : zOk X M d RC RS) {a b : Nat} (D : decode M.2.1 pc = .ok (.iadd, 1)) (K : Zc X M Q (pc + 1) lv (.int (nI (a + b)) :: st) h n cs sl) : Zc X M Q pc lv (.int (nI b) :: .int (nI a) :: st) h n cs sl := z_iadd C D (z_top (nI_add a b) K)
theorem z_imulN (C : zOk X M d RC RS) {a b : Nat} (D : decode M.2.1 pc = .ok (.imul, 1)) (K : Zc X M Q (pc + 1) lv (.int (nI (a * b)) :: st) h n cs sl) : Zc X M Q pc lv (.int (nI b) :: .int (nI a) :: st) h n cs sl := z_imul C D (z_top (pk_mul a b) K)
theorem z_isubN (C : zOk X M d RC RS) {a b : Nat} (D : decode M.2.1 pc = .ok (.isub, 1)) (hab : b ≤ a) (K : Zc X M Q (pc + 1) lv (.int (nI (a - b)) :: st) h n cs sl) : Zc X M Q pc lv (.int (nI b) :: .int (nI a) :: st) h n cs sl := z_isub C D (z_top (pk_sub hab) K)
theorem z_iorN (C : zOk X M d RC RS) {a b : Nat} (D : decode M.2.1 pc = .ok (.ior, 1)) (K : Zc X M Q (pc + 1) lv (.int (nI (a ||| b)) :: st) h n cs sl) : Zc X M Q pc lv (.int (nI b) :: .int (nI a) :: st) h n cs sl := z_ior C D (z_top (nI_or a b) K)
theorem z_iandN (C : zOk X M d RC RS) {a b : Nat} (D : decode M.2.1 pc = .ok (.iand, 1)) (K : Zc X M Q (pc + 1) lv (.int (nI (a &&& b)) :: st) h n cs sl) : Zc X M Q pc lv (.int (nI b) :: .int (nI a) :: st) h n cs sl := z_iand C D (z_top (nI_and a b) K)
theorem z_ixorN (C : zOk X M d RC RS) {a b : Nat} (D : decode M.2.1 pc = .ok (.ixor, 1)) (K : Zc X M Q (pc + 1) lv (.int (nI (a ^^^ b)) :: st) h n cs sl) : Zc X M Q pc lv (.int (nI b) :: .int (nI a) :: st) h n cs sl := z_ixor C D (z_top (nI_xor a b) K)
theorem z_ishlN (C : zOk X M d RC RS) {a b : Nat} (D : decode M.2.1 pc = .ok (.ishl, 1)) (hb : b < 32) (K : Zc X M Q (pc + 1) lv (.int (nI (a <<< b)) :: st) h n cs sl) : Zc X M Q pc lv (.int (nI b) :: .int (nI a) :: st) h n cs sl := z_ishl C D (z_top (nI_shl a hb) K)
theorem z_ishrN (C : zOk X M d RC RS) {a b : Nat} (D : decode M.2.1 pc = .ok (.ishr, 1)) (ha : a < 2147483648) (hb : b < 32) (K : Zc X M Q (pc + 1) lv (.int (nI (a >>> b)) :: st) h n cs sl) : Zc X M Q pc lv (.int (nI b) :: .int (nI a) :: st) h n cs sl := z_ishr C D (z_top (nI_shr ha hb) K)
theorem z_idivN (C : zOk X M d RC RS) {a b : Nat} (D : decode M.2.1 pc = .ok (.idiv, 1)) (ha : a < 2147483648) (h0 : 0 < b) (hb : b < 2147483648) (K : Zc X M Q (pc + 1) lv (.int (nI (a / b)) :: st) h n cs sl) : Zc X M Q pc lv (.int (nI b) :: .int (nI a) :: st) h n cs sl := z_idiv C D (nI_ne0 h0 (by omega)) (z_top (pk_div (by omega) h0 (by omega)) K)
theorem z_iremN (C : zOk X M d RC RS) {a b : Nat} (D : decode M.2.1 pc = .ok (.irem, 1)) (ha : a < 2147483648) (h0 : 0 < b) (hb : b < 2147483648) (K : Zc X M Q (pc + 1) lv (.int (nI (a % b)) :: st) h n cs sl) : Zc X M Q pc lv (.int (nI b) :: .int (nI a) :: st) h n cs sl := z_irem C D (nI_ne0 h0 (by omega)) (z_top (pk_rem (by omega) h0 (by omega)) K)
theorem z_iincN (C : zOk X M d RC RS) {i : Nat} {c0 : Int} {x : Nat} {lv' : List (Nat × Value)} (k : Nat) (D : decode M.2.1 pc = .ok (.iinc i c0, 3)) (j : Nat) (hk : lv[j]? = some (i, .int (nI x))) (hv : Int32.ofInt c0 = nI k) (hn : i < M.2.2.1) (hl' : (i, Value.int (nI (x + k))) :: lv.filter (fun q => !(q.1 == i) && !(q.1 + 1 == i && q.2.category == 2)) = lv') (K : Zc X M Q (pc + 3) lv' st h n cs sl) : Zc X M Q pc lv st h n cs sl := z_iinc C D j hk (nI (x + k)) (by rw [hv, nI_add]) hn hl' K
theorem z_ialdN (C : zOk X M d RC RS) {a N i : Nat} {f : Nat → Nat} (D : decode M.2.1 pc = .ok (.iaload, 1)) (ha : h a = some (zI N f)) (hi : i < N) (hN : N < 2147483648) (K : Zc X M Q (pc + 1) lv (.int (nI (f i)) :: st) h n cs sl) : Zc X M Q pc lv (.int (nI i) :: .ref a :: st) h n cs sl := by
  refine z_iald C D ha (vp_in_nI hi (by omega)) ?_
  rw [nI_clamp (by omega)]
  exact K
theorem z_ialdI (C : zOk X M d RC RS) {a N i : Nat} {f : Nat → Int32} (D : decode M.2.1 pc = .ok (.iaload, 1)) (ha : h a = some (zI32 N f)) (hi : i < N) (hN : N < 2147483648) (K : Zc X M Q (pc + 1) lv (.int (f i) :: st) h n cs sl) : Zc X M Q pc lv (.int (nI i) :: .ref a :: st) h n cs sl := by
  refine z_iald C D ha (vp_in_nI hi (by omega)) ?_
  rw [nI_clamp (by omega)]
  exact K
theorem z_laldN (C : zOk X M d RC RS) {a N i : Nat} {f : Nat → Int64} (D : decode M.2.1 pc = .ok (.laload, 1)) (ha : h a = some (zL N f)) (hi : i < N) (hN : N < 2147483648) (K : Zc X M Q (pc + 1) lv (.long (f i) :: st) h n cs sl) : Zc X M Q pc lv (.int (nI i) :: .ref a :: st) h n cs sl := by
  refine z_lald C D ha (vp_in_nI hi (by omega)) ?_
  rw [nI_clamp (by omega)]
  exact K
theorem z_aaldN (C : zOk X M d RC RS) {a N i b : Nat} {f : Nat → Option Nat} (D : decode M.2.1 pc = .ok (.aaload, 1)) (ha : h a = some (zS N f)) (hi : i < N) (hN : N < 2147483648) (hf : f i = some b) (K : Zc X M Q (pc + 1) lv (.ref b :: st) h n cs sl) : Zc X M Q pc lv (.int (nI i) :: .ref a :: st) h n cs sl :=
  z_aald C D ha (vp_in_nI hi (by omega)) (by rw [nI_clamp (by omega)]; exact hf) K
theorem z_iastN (C : zOk X M d RC RS) {a N i x : Nat} {f : Nat → Nat} (D : decode M.2.1 pc = .ok (.iastore, 1)) (ha : h a = some (zI N f)) (hi : i < N) (hN : N < 2147483648) (K : Zc X M Q (pc + 1) lv st (zup h a (zI N (nup f i x))) n cs sl) : Zc X M Q pc lv (.int (nI x) :: .int (nI i) :: .ref a :: st) h n cs sl := by
  refine z_iast C D ha (vp_in_nI hi (by omega)) ?_
  rw [nI_clamp (by omega), nup_nI]
  exact K
theorem z_iastI (C : zOk X M d RC RS) {a N i : Nat} {x : Int32} {f : Nat → Int32} (D : decode M.2.1 pc = .ok (.iastore, 1)) (ha : h a = some (zI32 N f)) (hi : i < N) (hN : N < 2147483648) (K : Zc X M Q (pc + 1) lv st (zup h a (zI32 N (upd f i x))) n cs sl) : Zc X M Q pc lv (.int x :: .int (nI i) :: .ref a :: st) h n cs sl := by
  refine z_iast C D ha (vp_in_nI hi (by omega)) ?_
  rw [nI_clamp (by omega)]
  exact K
theorem z_lastN (C : zOk X M d RC RS) {a N i : Nat} {x : Int64} {f : Nat → Int64} (D : decode M.2.1 pc = .ok (.lastore, 1)) (ha : h a = some (zL N f)) (hi : i < N) (hN : N < 2147483648) (K : Zc X M Q (pc + 1) lv st (zup h a (zL N (vp_updL f i x))) n cs sl) : Zc X M Q pc lv (.long x :: .int (nI i) :: .ref a :: st) h n cs sl := by
  refine z_last C D ha (vp_in_nI hi (by omega)) ?_
  rw [nI_clamp (by omega)]
  exact K
theorem z_ifeqB (C : zOk X M d RC RS) {b : Bool} {off : Int} (tgt : Nat) (D : decode M.2.1 pc = .ok (.ifCond .eq off, 3)) (ht : (pc : Int) + off = (tgt : Int)) (KT : b = false → Zc X M Q tgt lv st h n cs sl) (KF : b = true → Zc X M Q (pc + 3) lv st h n cs sl) : Zc X M Q pc lv (.int (zb b) :: st) h n cs sl :=
  z_if_eq C tgt D ht (fun q => KT ((zb_eq0 b).mp q)) (fun q => KF (by cases b; exact absurd rfl q; rfl))
theorem z_ifneB (C : zOk X M d RC RS) {b : Bool} {off : Int} (tgt : Nat) (D : decode M.2.1 pc = .ok (.ifCond .ne off, 3)) (ht : (pc : Int) + off = (tgt : Int)) (KT : b = true → Zc X M Q tgt lv st h n cs sl) (KF : b = false → Zc X M Q (pc + 3) lv st h n cs sl) : Zc X M Q pc lv (.int (zb b) :: st) h n cs sl :=
  z_if_ne C tgt D ht (fun q => KT (by cases b; exact absurd rfl q; rfl)) (fun q => KF ((zb_eq0 b).mp q))
theorem z_ifeqN (C : zOk X M d RC RS) {a : Nat} {off : Int} (tgt : Nat) (D : decode M.2.1 pc = .ok (.ifCond .eq off, 3)) (ht : (pc : Int) + off = (tgt : Int)) (ha : a < 2147483648) (KT : a = 0 → Zc X M Q tgt lv st h n cs sl) (KF : 0 < a → Zc X M Q (pc + 3) lv st h n cs sl) : Zc X M Q pc lv (.int (nI a) :: st) h n cs sl :=
  z_if_eq C tgt D ht (fun q => KT ((nI_eqI (b := 0) ha (by omega)).mp q)) (fun q => KF (Nat.pos_of_ne_zero fun e => q (by rw [e]; rfl)))
theorem z_ifneN (C : zOk X M d RC RS) {a : Nat} {off : Int} (tgt : Nat) (D : decode M.2.1 pc = .ok (.ifCond .ne off, 3)) (ht : (pc : Int) + off = (tgt : Int)) (ha : a < 2147483648) (KT : 0 < a → Zc X M Q tgt lv st h n cs sl) (KF : a = 0 → Zc X M Q (pc + 3) lv st h n cs sl) : Zc X M Q pc lv (.int (nI a) :: st) h n cs sl :=
  z_if_ne C tgt D ht (fun q => KT (Nat.pos_of_ne_zero fun e => q (by rw [e]; rfl))) (fun q => KF ((nI_eqI (b := 0) ha (by omega)).mp q))
theorem z_ifltN (C : zOk X M d RC RS) {a : Nat} {off : Int} (tgt : Nat) (D : decode M.2.1 pc = .ok (.ifCond .lt off, 3)) (ht : (pc : Int) + off = (tgt : Int)) (ha : a < 2147483648) (_KT : False → Zc X M Q tgt lv st h n cs sl) (KF : True → Zc X M Q (pc + 3) lv st h n cs sl) : Zc X M Q pc lv (.int (nI a) :: st) h n cs sl :=
  z_if_lt C tgt D ht (fun q => absurd q (nI_pos (by omega))) (fun _ => KF trivial)
theorem z_ifgeN (C : zOk X M d RC RS) {a : Nat} {off : Int} (tgt : Nat) (D : decode M.2.1 pc = .ok (.ifCond .ge off, 3)) (ht : (pc : Int) + off = (tgt : Int)) (ha : a < 2147483648) (KT : True → Zc X M Q tgt lv st h n cs sl) (_KF : False → Zc X M Q (pc + 3) lv st h n cs sl) : Zc X M Q pc lv (.int (nI a) :: st) h n cs sl :=
  z_if_ge C tgt D ht (fun _ => KT trivial) (fun q => absurd (nI_pos' (by omega)) q)
theorem z_ifltO (C : zOk X M d RC RS) {o : Option Nat} {off : Int} (tgt : Nat) (D : decode M.2.1 pc = .ok (.ifCond .lt off, 3)) (ht : (pc : Int) + off = (tgt : Int)) (ho : ∀ k, o = some k → k < 2147483648) (KT : o = none → Zc X M Q tgt lv st h n cs sl) (KF : (∃ k, o = some k) → Zc X M Q (pc + 3) lv st h n cs sl) : Zc X M Q pc lv (.int (zo o) :: st) h n cs sl := by
  cases o with
  | none => exact z_if_lt C tgt D ht (fun _ => KT rfl) (fun q => absurd (by decide : (-2 : Int32) < 0) q)
  | some k => exact z_if_lt C tgt D ht (fun q => absurd q (nI_pos (by have := ho k rfl; omega))) (fun _ => KF ⟨k, rfl⟩)
theorem z_ifgeO (C : zOk X M d RC RS) {o : Option Nat} {off : Int} (tgt : Nat) (D : decode M.2.1 pc = .ok (.ifCond .ge off, 3)) (ht : (pc : Int) + off = (tgt : Int)) (ho : ∀ k, o = some k → k < 2147483648) (KT : (∃ k, o = some k) → Zc X M Q tgt lv st h n cs sl) (KF : o = none → Zc X M Q (pc + 3) lv st h n cs sl) : Zc X M Q pc lv (.int (zo o) :: st) h n cs sl := by
  cases o with
  | none => exact z_if_ge C tgt D ht (fun q => absurd q (by decide)) (fun _ => KF rfl)
  | some k => exact z_if_ge C tgt D ht (fun _ => KT ⟨k, rfl⟩) (fun q => absurd (nI_pos' (by have := ho k rfl; omega)) q)
theorem z_idecN (C : zOk X M d RC RS) {i : Nat} {x : Nat} {lv' : List (Nat × Value)} (D : decode M.2.1 pc = .ok (.iinc i (-1), 3)) (j : Nat) (hk : lv[j]? = some (i, .int (nI x))) (hx : 1 ≤ x) (hn : i < M.2.2.1) (hl' : (i, Value.int (nI (x - 1))) :: lv.filter (fun q => !(q.1 == i) && !(q.1 + 1 == i && q.2.category == 2)) = lv') (K : Zc X M Q (pc + 3) lv' st h n cs sl) : Zc X M Q pc lv st h n cs sl :=
  z_iinc C D j hk (nI (x - 1)) (by
    obtain ⟨y, rfl⟩ : ∃ y, x = y + 1 := ⟨x - 1, by omega⟩
    show nI (y + 1) + (-1) = nI (y + 1 - 1)
    rw [pk_m1]; rfl) hn hl' K
theorem z_sub {lv' : List (Nat × Value)} (ks : List Nat) (hl' : ks.filterMap (fun k => lv[k]?) = lv') (K : Zc X M Q pc lv' st h n cs sl) : Zc X M Q pc lv st h n cs sl := by
  subst hl'
  obtain ⟨p, l, e, R, s, m, args, below, meth, c, G⟩ := X
  intro H ls locs hh hS hl
  refine K H ls locs hh hS ⟨hl.1, hl.2.1, fun q hq => ?_⟩
  obtain ⟨q0, hq0, rfl⟩ := List.mem_map.mp hq
  obtain ⟨k, -, hk⟩ := List.mem_filterMap.mp hq0
  exact hl.2.2 _ (List.mem_map.mpr ⟨q0, List.mem_of_getElem? hk, rfl⟩)
theorem z_ifgtN (C : zOk X M d RC RS) {a : Nat} {off : Int} (tgt : Nat) (D : decode M.2.1 pc = .ok (.ifCond .gt off, 3)) (ht : (pc : Int) + off = (tgt : Int)) (ha : a < 2147483648) (KT : 0 < a → Zc X M Q tgt lv st h n cs sl) (KF : a = 0 → Zc X M Q (pc + 3) lv st h n cs sl) : Zc X M Q pc lv (.int (nI a) :: st) h n cs sl :=
  z_if_gt C tgt D ht (fun q => KT ((nI_ltI (a := 0) (by omega) (by omega)).mp q)) (fun q => KF (by
    rcases Nat.eq_zero_or_pos a with e | e
    · exact e
    · exact absurd ((nI_ltI (a := 0) (by omega) (by omega)).mpr e) q))
theorem z_ifleN (C : zOk X M d RC RS) {a : Nat} {off : Int} (tgt : Nat) (D : decode M.2.1 pc = .ok (.ifCond .le off, 3)) (ht : (pc : Int) + off = (tgt : Int)) (ha : a < 2147483648) (KT : a = 0 → Zc X M Q tgt lv st h n cs sl) (KF : 0 < a → Zc X M Q (pc + 3) lv st h n cs sl) : Zc X M Q pc lv (.int (nI a) :: st) h n cs sl :=
  z_if_le C tgt D ht (fun q => KT (by
    have := (nI_leI (b := 0) (by omega) (by omega)).mp q
    omega)) (fun q => KF (by
    rcases Nat.eq_zero_or_pos a with e | e
    · exact absurd (by rw [e]; exact (nI_leI (a := 0) (b := 0) (by omega) (by omega)).mpr (Nat.le_refl 0)) q
    · exact e))
theorem z_icmpeqN (C : zOk X M d RC RS) {a b : Nat} {off : Int} (tgt : Nat) (D : decode M.2.1 pc = .ok (.if_icmp .eq off, 3)) (ht : (pc : Int) + off = (tgt : Int)) (ha : a < 2147483648) (hb : b < 2147483648) (KT : a = b → Zc X M Q tgt lv st h n cs sl) (KF : a ≠ b → Zc X M Q (pc + 3) lv st h n cs sl) : Zc X M Q pc lv (.int (nI b) :: .int (nI a) :: st) h n cs sl :=
  z_icmp_eq C tgt D ht (fun q => KT ((nI_eqI ha hb).mp q)) (fun q => KF (fun e => q (by rw [e])))
theorem z_icmpneN (C : zOk X M d RC RS) {a b : Nat} {off : Int} (tgt : Nat) (D : decode M.2.1 pc = .ok (.if_icmp .ne off, 3)) (ht : (pc : Int) + off = (tgt : Int)) (ha : a < 2147483648) (hb : b < 2147483648) (KT : a ≠ b → Zc X M Q tgt lv st h n cs sl) (KF : a = b → Zc X M Q (pc + 3) lv st h n cs sl) : Zc X M Q pc lv (.int (nI b) :: .int (nI a) :: st) h n cs sl :=
  z_icmp_ne C tgt D ht (fun q => KT (fun e => q (by rw [e]))) (fun q => KF ((nI_eqI ha hb).mp q))
theorem z_icmpltN (C : zOk X M d RC RS) {a b : Nat} {off : Int} (tgt : Nat) (D : decode M.2.1 pc = .ok (.if_icmp .lt off, 3)) (ht : (pc : Int) + off = (tgt : Int)) (ha : a < 2147483648) (hb : b < 2147483648) (KT : a < b → Zc X M Q tgt lv st h n cs sl) (KF : b ≤ a → Zc X M Q (pc + 3) lv st h n cs sl) : Zc X M Q pc lv (.int (nI b) :: .int (nI a) :: st) h n cs sl :=
  z_icmp_lt C tgt D ht (fun q => KT ((nI_ltI (by omega) (by omega)).mp q)) (fun q => KF (Nat.not_lt.mp fun e => q (nI_lt e (by omega))))
theorem z_icmpgeN (C : zOk X M d RC RS) {a b : Nat} {off : Int} (tgt : Nat) (D : decode M.2.1 pc = .ok (.if_icmp .ge off, 3)) (ht : (pc : Int) + off = (tgt : Int)) (ha : a < 2147483648) (hb : b < 2147483648) (KT : b ≤ a → Zc X M Q tgt lv st h n cs sl) (KF : a < b → Zc X M Q (pc + 3) lv st h n cs sl) : Zc X M Q pc lv (.int (nI b) :: .int (nI a) :: st) h n cs sl :=
  z_icmp_ge C tgt D ht (fun q => KT ((nI_leI (by omega) (by omega)).mp q)) (fun q => KF (Nat.not_le.mp fun e => q (nI_le e (by omega))))
theorem z_icmpgtN (C : zOk X M d RC RS) {a b : Nat} {off : Int} (tgt : Nat) (D : decode M.2.1 pc = .ok (.if_icmp .gt off, 3)) (ht : (pc : Int) + off = (tgt : Int)) (ha : a < 2147483648) (hb : b < 2147483648) (KT : b < a → Zc X M Q tgt lv st h n cs sl) (KF : a ≤ b → Zc X M Q (pc + 3) lv st h n cs sl) : Zc X M Q pc lv (.int (nI b) :: .int (nI a) :: st) h n cs sl :=
  z_icmp_gt C tgt D ht (fun q => KT ((nI_ltI (by omega) (by omega)).mp q)) (fun q => KF (Nat.not_lt.mp fun e => q (nI_lt e (by omega))))
theorem z_icmpleN (C : zOk X M d RC RS) {a b : Nat} {off : Int} (tgt : Nat) (D : decode M.2.1 pc = .ok (.if_icmp .le off, 3)) (ht : (pc : Int) + off = (tgt : Int)) (ha : a < 2147483648) (hb : b < 2147483648) (KT : a ≤ b → Zc X M Q tgt lv st h n cs sl) (KF : b < a → Zc X M Q (pc + 3) lv st h n cs sl) : Zc X M Q pc lv (.int (nI b) :: .int (nI a) :: st) h n cs sl :=
  z_icmp_le C tgt D ht (fun q => KT ((nI_leI (by omega) (by omega)).mp q)) (fun q => KF (Nat.not_le.mp fun e => q (nI_le e (by omega))))
end ZN
/-- a method that gives this value and leaves this heap -/
def ZD (M : ZM) (d : Nat) (as : List Value) (h : ZH) (v : Option Value) (h' : ZH) : Prop := ∀ n, ZMet M d as h n 0 0 (fun r hh n' => r = v ∧ hh = h' ∧ n' = n)
section ZDC
variable {X : ZX} {M : ZM} {Q : State → Prop} {pc : Nat} {lv : List (Nat × Value)} {st : List Value} {h h' : ZH} {n cs sl d RC RS d' idx na : Nat} {v : Option Value}
theorem z_cV (M' : ZM) (C : zOk X M d RC RS) {a ci : Nat} {fs : List Value} (as : List Value) {rest : List Value} (D : decode M.2.1 pc = .ok (.invokevirtual idx, 3)) (L : Cond.methodLink M.1.cls idx M'.1 ∈ zWS) (F : zMtV M' na ci) (hm : ZD M' d' (.ref a :: as) h v h') (ha : h a = some (.inr (ci, fs))) (hs : st = as.reverse ++ .ref a :: rest) (hn : as.length = na) (hd : d' + 1 ≤ d) (hc : (rest.map fun v => v.category).sum ≤ 8) (h1 : cs ≤ RC) (h2 : sl ≤ RS) (K : Zc X M Q (pc + 3) lv (v.toList ++ rest) h' n cs sl) : Zc X M Q pc lv st h n cs sl :=
  z_callV C D L F (hm n) ha hs hn hd hc ⟨h1, h2⟩ (fun v h' n' q => by obtain ⟨rfl, rfl, rfl⟩ := q; exact K)
theorem z_cVN (M' : ZM) (C : zOk X M d RC RS) {a ci : Nat} {fs : List Value} {host : String} (as : List Value) {rest : List Value} (D : decode M.2.1 pc = .ok (.invokevirtual idx, 3)) (L : Cond.methodLinkNest M.1.cls idx M'.1 host ∈ zNW) (F : zMtV M' na ci) (hm : ZD M' d' (.ref a :: as) h v h') (ha : h a = some (.inr (ci, fs))) (hs : st = as.reverse ++ .ref a :: rest) (hn : as.length = na) (hd : d' + 1 ≤ d) (hc : (rest.map fun v => v.category).sum ≤ 8) (h1 : cs ≤ RC) (h2 : sl ≤ RS) (K : Zc X M Q (pc + 3) lv (v.toList ++ rest) h' n cs sl) : Zc X M Q pc lv st h n cs sl :=
  z_callVN C D L F (hm n) ha hs hn hd hc ⟨h1, h2⟩ (fun v h' n' q => by obtain ⟨rfl, rfl, rfl⟩ := q; exact K)
theorem z_cS (M' : ZM) (C : zOk X M d RC RS) (as : List Value) {rest : List Value} (D : decode M.2.1 pc = .ok (.invokestatic idx, 3)) (L : Cond.methodLink M.1.cls idx M'.1 ∈ zWS) (F : zMtS M' na) (hm : ZD M' d' as h v h') (hs : st = as.reverse ++ rest) (hn : as.length = na) (hd : d' + 1 ≤ d) (hc : (rest.map fun v => v.category).sum ≤ 8) (h1 : cs ≤ RC) (h2 : sl ≤ RS) (K : Zc X M Q (pc + 3) lv (v.toList ++ rest) h' n cs sl) : Zc X M Q pc lv st h n cs sl :=
  z_callS C D L F (hm n) hs hn hd hc ⟨h1, h2⟩ (fun v h' n' q => by obtain ⟨rfl, rfl, rfl⟩ := q; exact K)
theorem z_cSN (M' : ZM) (C : zOk X M d RC RS) {host : String} (as : List Value) {rest : List Value} (D : decode M.2.1 pc = .ok (.invokestatic idx, 3)) (L : Cond.methodLinkNest M.1.cls idx M'.1 host ∈ zNW) (F : zMtS M' na) (hm : ZD M' d' as h v h') (hs : st = as.reverse ++ rest) (hn : as.length = na) (hd : d' + 1 ≤ d) (hc : (rest.map fun v => v.category).sum ≤ 8) (h1 : cs ≤ RC) (h2 : sl ≤ RS) (K : Zc X M Q (pc + 3) lv (v.toList ++ rest) h' n cs sl) : Zc X M Q pc lv st h n cs sl :=
  z_callSN C D L F (hm n) hs hn hd hc ⟨h1, h2⟩ (fun v h' n' q => by obtain ⟨rfl, rfl, rfl⟩ := q; exact K)
end ZDC
