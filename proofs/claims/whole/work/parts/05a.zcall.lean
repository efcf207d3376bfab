section ZDD
variable {X : ZX} {M : ZM} {Q : State → Prop} {pc : Nat} {lv : List (Nat × Value)} {st : List Value} {h h' : ZH} {n cs sl d RC RS d' idx na : Nat} {w : Value}
theorem z_cV1 (M' : ZM) (C : zOk X M d RC RS) {a ci : Nat} {fs : List Value} (as : List Value) {rest : List Value} (D : decode M.2.1 pc = .ok (.invokevirtual idx, 3)) (L : Cond.methodLink M.1.cls idx M'.1 ∈ zWS) (F : zMtV M' na ci) (hm : ZD M' d' (.ref a :: as) h (some w) h') (ha : h a = some (.inr (ci, fs))) (hs : st = as.reverse ++ .ref a :: rest) (hn : as.length = na) (hd : d' + 1 ≤ d) (hc : (rest.map fun v => v.category).sum ≤ 8) (h1 : cs ≤ RC) (h2 : sl ≤ RS) (K : Zc X M Q (pc + 3) lv (w :: rest) h' n cs sl) : Zc X M Q pc lv st h n cs sl :=
  z_cV M' C as D L F hm ha hs hn hd hc h1 h2 K
theorem z_cV0 (M' : ZM) (C : zOk X M d RC RS) {a ci : Nat} {fs : List Value} (as : List Value) {rest : List Value} (D : decode M.2.1 pc = .ok (.invokevirtual idx, 3)) (L : Cond.methodLink M.1.cls idx M'.1 ∈ zWS) (F : zMtV M' na ci) (hm : ZD M' d' (.ref a :: as) h none h') (ha : h a = some (.inr (ci, fs))) (hs : st = as.reverse ++ .ref a :: rest) (hn : as.length = na) (hd : d' + 1 ≤ d) (hc : (rest.map fun v => v.category).sum ≤ 8) (h1 : cs ≤ RC) (h2 : sl ≤ RS) (K : Zc X M Q (pc + 3) lv rest h' n cs sl) : Zc X M Q pc lv st h n cs sl :=
  z_cV M' C as D L F hm ha hs hn hd hc h1 h2 K
theorem z_cVN1 (M' : ZM) (C : zOk X M d RC RS) {a ci : Nat} {fs : List Value} (as : List Value) {rest : List Value} (D : decode M.2.1 pc = .ok (.invokevirtual idx, 3)) (L : Cond.methodLinkNest M.1.cls idx M'.1 RX11 ∈ zNW) (F : zMtV M' na ci) (hm : ZD M' d' (.ref a :: as) h (some w) h') (ha : h a = some (.inr (ci, fs))) (hs : st = as.reverse ++ .ref a :: rest) (hn : as.length = na) (hd : d' + 1 ≤ d) (hc : (rest.map fun v => v.category).sum ≤ 8) (h1 : cs ≤ RC) (h2 : sl ≤ RS) (K : Zc X M Q (pc + 3) lv (w :: rest) h' n cs sl) : Zc X M Q pc lv st h n cs sl :=
  z_cVN M' C as D L F hm ha hs hn hd hc h1 h2 K
theorem z_cVN0 (M' : ZM) (C : zOk X M d RC RS) {a ci : Nat} {fs : List Value} (as : List Value) {rest : List Value} (D : decode M.2.1 pc = .ok (.invokevirtual idx, 3)) (L : Cond.methodLinkNest M.1.cls idx M'.1 RX11 ∈ zNW) (F : zMtV M' na ci) (hm : ZD M' d' (.ref a :: as) h none h') (ha : h a = some (.inr (ci, fs))) (hs : st = as.reverse ++ .ref a :: rest) (hn : as.length = na) (hd : d' + 1 ≤ d) (hc : (rest.map fun v => v.category).sum ≤ 8) (h1 : cs ≤ RC) (h2 : sl ≤ RS) (K : Zc X M Q (pc + 3) lv rest h' n cs sl) : Zc X M Q pc lv st h n cs sl :=
  z_cVN M' C as D L F hm ha hs hn hd hc h1 h2 K
theorem z_cS1 (M' : ZM) (C : zOk X M d RC RS) (as : List Value) {rest : List Value} (D : decode M.2.1 pc = .ok (.invokestatic idx, 3)) (L : Cond.methodLink M.1.cls idx M'.1 ∈ zWS) (F : zMtS M' na) (hm : ZD M' d' as h (some w) h') (hs : st = as.reverse ++ rest) (hn : as.length = na) (hd : d' + 1 ≤ d) (hc : (rest.map fun v => v.category).sum ≤ 8) (h1 : cs ≤ RC) (h2 : sl ≤ RS) (K : Zc X M Q (pc + 3) lv (w :: rest) h' n cs sl) : Zc X M Q pc lv st h n cs sl :=
  z_cS M' C as D L F hm hs hn hd hc h1 h2 K
theorem z_cS0 (M' : ZM) (C : zOk X M d RC RS) (as : List Value) {rest : List Value} (D : decode M.2.1 pc = .ok (.invokestatic idx, 3)) (L : Cond.methodLink M.1.cls idx M'.1 ∈ zWS) (F : zMtS M' na) (hm : ZD M' d' as h none h') (hs : st = as.reverse ++ rest) (hn : as.length = na) (hd : d' + 1 ≤ d) (hc : (rest.map fun v => v.category).sum ≤ 8) (h1 : cs ≤ RC) (h2 : sl ≤ RS) (K : Zc X M Q (pc + 3) lv rest h' n cs sl) : Zc X M Q pc lv st h n cs sl :=
  z_cS M' C as D L F hm hs hn hd hc h1 h2 K
theorem z_cSN1 (M' : ZM) (C : zOk X M d RC RS) (as : List Value) {rest : List Value} (D : decode M.2.1 pc = .ok (.invokestatic idx, 3)) (L : Cond.methodLinkNest M.1.cls idx M'.1 RX11 ∈ zNW) (F : zMtS M' na) (hm : ZD M' d' as h (some w) h') (hs : st = as.reverse ++ rest) (hn : as.length = na) (hd : d' + 1 ≤ d) (hc : (rest.map fun v => v.category).sum ≤ 8) (h1 : cs ≤ RC) (h2 : sl ≤ RS) (K : Zc X M Q (pc + 3) lv (w :: rest) h' n cs sl) : Zc X M Q pc lv st h n cs sl :=
  z_cSN M' C as D L F hm hs hn hd hc h1 h2 K
theorem z_cSN0 (M' : ZM) (C : zOk X M d RC RS) (as : List Value) {rest : List Value} (D : decode M.2.1 pc = .ok (.invokestatic idx, 3)) (L : Cond.methodLinkNest M.1.cls idx M'.1 RX11 ∈ zNW) (F : zMtS M' na) (hm : ZD M' d' as h none h') (hs : st = as.reverse ++ rest) (hn : as.length = na) (hd : d' + 1 ≤ d) (hc : (rest.map fun v => v.category).sum ≤ 8) (h1 : cs ≤ RC) (h2 : sl ≤ RS) (K : Zc X M Q (pc + 3) lv rest h' n cs sl) : Zc X M Q pc lv st h n cs sl :=
  z_cSN M' C as D L F hm hs hn hd hc h1 h2 K
theorem z_ialdE (C : zOk X M d RC RS) {a N i v : Nat} {f : Nat → Nat} (D : decode M.2.1 pc = .ok (.iaload, 1)) (ha : h a = some (zI N f)) (hi : i < N) (hN : N < 2147483648) (he : f i = v) (K : Zc X M Q (pc + 1) lv (.int (nI v) :: st) h n cs sl) : Zc X M Q pc lv (.int (nI i) :: .ref a :: st) h n cs sl := by
  subst he
  exact z_ialdN C D ha hi hN K
end ZDD
/-- a raw argument that is a number below c -/
def zlt (p : Int32) (c : Nat) : Bool := decide (0 ≤ p.toInt ∧ p.toInt < (c : Int))
theorem zlt_of {p : Int32} {c : Nat} (hc : c < 2147483648) (h : zlt p c = true) : ∃ j, j < c ∧ p = nI j := by
  have h := of_decide_eq_true h
  refine ⟨p.toInt.toNat, by omega, ?_⟩
  apply Int32.toInt_inj.mp
  rw [nI_toInt (by omega)]
  omega
theorem zlt_nI {j c : Nat} (hj : j < 2147483648) : zlt (nI j) c = decide (j < c) := by
  unfold zlt
  rw [nI_toInt (by omega)]
  by_cases q : j < c
  · simp [q]
  · simp [q]
theorem zlt_le (p : Int32) {c : Nat} (hc : c < 2147483648) : decide (nI 0 ≤ p ∧ p ≤ nI c - nI 1) = zlt p c := by
  unfold zlt
  congr 1
  have e0 : (nI c - nI 1).toInt = (c : Int) - 1 := by
    rcases Nat.eq_zero_or_pos c with rfl | q
    · rfl
    · rw [pk_sub q, nI_toInt (by omega)]; omega
  rw [Int32.le_iff_toInt_le, Int32.le_iff_toInt_le, e0, show (nI 0).toInt = 0 from rfl]
  apply propext
  omega
theorem zlt_le2 (p : Int32) {c : Nat} (hc : c < 2147483647) : decide (nI 0 ≤ p ∧ p ≤ nI c) = zlt p (c + 1) := by
  unfold zlt
  congr 1
  rw [Int32.le_iff_toInt_le, Int32.le_iff_toInt_le, nI_toInt (n := c) (by omega), show (nI 0).toInt = 0 from rfl]
  apply propext
  omega
