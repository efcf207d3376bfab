abbrev yxL : List Cond := (yx_at RX11 384 RNS "java/lang/RuntimeException" ["java/lang/Exception"]).filter vx_no
theorem yx_good : ∀ w ∈ yxL.filter goodWord, w ∈ zWS := zinr [125, 1247, 1256, 1258, 1261, 1263, 1248, 1249, 135, 136, 1250, 1255, 1259, 1279, 1237, 1280, 1239, 1281, 1241, 1251, 1253, 1243, 1275, 1276, 1278, 1243, 1266, 1267, 1268, 1269, 1269, 1270, 1271, 1272, 1272, 1273, 1274, 1275, 1265, 1226, 1234, 1235, 1236, 1238, 1240, 1242, 1246, 1245, 1244] (by decide +kernel) (by decide +kernel)
abbrev yxB : List Cond := [.declares (Bundle.initS "java/lang/RuntimeException"), .declares (Bundle.initS "java/lang/Exception"), .declares (Bundle.initS Bundle.tN), .castable RNS RNS]
theorem yx_bad : ∀ w ∈ yxL.filter (fun w => !goodWord w), w ∈ yxB := by
  have e : yxL.filter (fun w => !goodWord w) = [.declares (Bundle.initS "java/lang/RuntimeException"), .declares (Bundle.initS "java/lang/Exception"), .declares (Bundle.initS Bundle.tN), .castable RNS RNS] := by decide +kernel
  rw [e]
  exact fun w h => h
theorem yx_k1 : Cond.classLink RX11 380 RNS ∈ zWS := zin 1225 (by decide +kernel) rfl
theorem yx_k2 : Cond.initialized RNS ∈ zWS := zin 128 (by decide +kernel) rfl
theorem yx_k3 : Cond.classLink RL 13 RNS ∈ zWS := zin 1216 (by decide +kernel) rfl
theorem yx_k4 : Cond.codeWith yL_led cL_led 4 (some .int) [(0, 9, 12, 13)] ∈ zWS := zin 1215 (by decide +kernel) rfl
theorem yx_k5 : Cond.static yL_led ∈ zWS := zin 1214 (by decide +kernel) rfl
theorem yx_k6 : Cond.initialized RL ∈ zWS := zin 104 (by decide +kernel) rfl
theorem yx_ot : ∀ w ∈ Cond.classLink RX11 380 RNS :: Cond.initialized RNS :: yxL, vx_ot w = true := List.all_eq_true.mp (by decide +kernel)

/-- the words of the throw that are no good words -/
def yx_Wd (U : State) : Prop := va_Nw (.declares (Bundle.initS "java/lang/RuntimeException")) U ∧ va_Nw (.declares (Bundle.initS "java/lang/Exception")) U ∧ va_Nw (.declares (Bundle.initS Bundle.tN)) U ∧ va_Nw (.castable RNS RNS) U
theorem yx_Wd.to {s U : State} (h : yx_Wd s) (hW : s.WarmedH U.vm) : yx_Wd U := ⟨va_Nw.warmD hW h.1, va_Nw.warmD hW h.2.1, va_Nw.warmD hW h.2.2.1, va_Nw.warmC hW h.2.2.2⟩
theorem yx_Wd.use {s : State} {args : Array Value} (h : yx_Wd s) : ∀ w ∈ yxB, w.before args s = true := vx_c (va_any rfl h.1) (vx_c (va_any rfl h.2.1) (vx_c (va_any rfl h.2.2.1) (vx_c (va_any rfl h.2.2.2) vx_n)))
theorem zHeap.grow {G : ZG} {h : ZH} {n : Nat} {H H1 : Heap} (hh : zHeap G h n H) (hz : H.size ≤ H1.size) (hk : ∀ q : Nat, q < H.size → H1[q]? = H[q]?) : ∃ n1, zHeap G h n1 H1 := by
  obtain ⟨a, b, c⟩ := hh
  refine ⟨n + (H1.size - H.size), by omega, by omega, fun x e hx => ?_⟩
  obtain ⟨c1, c2, c3⟩ := c x e hx
  refine ⟨c1, by omega, ?_⟩
  exact va_at.kept c3 (hk _ (va_at.lt c3))
/-- led throws -/
def yx_X (G : ZG) (h : ZH) : String → State → State → Prop := fun E st t => E = RNS ∧ (∃ n, zHeap G h n t.heap) ∧ st.heap.size ≤ t.heap.size ∧ ∀ q : Nat, q < st.heap.size → ¬ zA G q → t.heap[q]? = st.heap[q]?
theorem yx_blind (G : ZG) (as : List Value) (h : ZH) (n : Nat) : FrameBlind (fun v U => zPc G as h n v U ∧ yx_Wd U) := by
  intro a U g mk q
  obtain ⟨q1, q2⟩ := q
  exact ⟨zBlind G as h n a U g mk q1, q2.to (State.WarmedH.refl U)⟩

set_option maxRecDepth 20000 in
set_option maxHeartbeats 1000000 in
theorem tX11_ledY {h : ZH} {st : Nat} {ic tb fa pl : Int32} {t k : Nat} {R S : Nat → Nat} {i : Int32} (hK : h 1000 = some (zO 7 (kfs st ic tb fa pl))) (hC : Scn h 1051 1052 1053 t R S) (hR : wfR R) (hS : wfS R S) (hA : aLed R S i = some k) (hk : k < 2147483648) : ZD mX11_led 4 [.ref 1000, .int i] h (some (.int (nI k))) h := by
  intro n
  obtain ⟨hT, fl, ft, s0, -⟩ := id hC
  refine z_enter (lv := [(0, _), (1, _)]) (by decide) (Nat.le_of_ble_eq_true rfl) rfl (fun X C => ?_)
  refine z_aload_n (pc := 0) C dX11_led_0 0 rfl ?_
  refine z_getf (pc := 1) C dX11_led_1 fX11_53 hK (by first | rfl | assumption) ?_
  refine z_iload_n (pc := 4) C dX11_led_4 1 rfl ?_
  refine z_cV1 (pc := 5) mX5_soManiethNowhere C [_] dX11_led_5 lX11_377 mtX5_soManiethNowhere (tX5_soManiethNowhere hC hR hS) s0 rfl rfl (by decide) (Nat.le_of_ble_eq_true rfl) (Nat.zero_le _) (Nat.zero_le _) ?_
  rw [hA]
  refine z_top (show zo (some k) = nI k from rfl) ?_
  refine z_istore_n (pc := 8) (lv' := [(2, _), (0, _), (1, _)]) C dX11_led_8 (by decide) rfl ?_
  refine z_iload_n (pc := 9) C dX11_led_9 0 rfl ?_
  first | refine z_ifgeN (pc := 10) C 24 dX11_led_10 (by decide) (by omega) (fun hc10 => ?_) (fun hc10 => ?_) | refine z_if_ge (pc := 10) C 24 dX11_led_10 (by decide) (fun hc10 => ?_) (fun hc10 => ?_)
  · skip
    refine z_iload_n (pc := 24) C dX11_led_24 0 rfl ?_
    refine z_iret (pc := 25) C dX11_led_25 rfl (Nat.zero_le _) (Nat.zero_le _) ⟨?_, ?_, rfl⟩
    · first | rfl | simp_all
    · rfl
  · exact hc10.elim

set_option maxHeartbeats 1000000 in
theorem led_throws {l : Launch} (hl : l.stackTraces = false) (G : ZG) {h : ZH} {n st t : Nat} {ic tb fa pl : Int32} {R S : Nat → Nat} {i : Int32} (hK : h 1000 = some (zO 7 (kfs st ic tb fa pl))) (hC : Scn h 1051 1052 1053 t R S) (hR : wfR R) (hS : wfS R S) (hA : aLed R S i = none) : vx_Met l mX11_led.1 (Cond.code mX11_led.1 mX11_led.2.1 mX11_led.2.2.1 mX11_led.2.2.2 :: zWS) (zrm 8 1 6) (fun v U => zPc G [.ref 1000, .int i] h n v U ∧ yx_Wd U) (fun _ _ _ _ => False) (yx_X G h) 1 6 (zA G) := by
  obtain ⟨hT, fl, ft, s0, -⟩ := id hC
  refine vx_ofW (cc := mX11_led.2.1) (maxL := mX11_led.2.2.1) (ret := mX11_led.2.2.2) (by decide) rfl ?_
  intro p e s m args below meth c s₁ B hml hx0 hP
  obtain ⟨⟨rfl, hw, hh⟩, hE⟩ := hP
  have hts := atoms_spec (ws := Cond.code mX11_led.1 mX11_led.2.1 mX11_led.2.2.1 mX11_led.2.2.2 :: zWS) B.pre
  have hown : s.vm.findClass mX11_led.1.cls = some m.cls := findClass_of_methodNamed B.named
  have C : zOk (p, l, e, (headSpec (Cond.code mX11_led.1 mX11_led.2.1 mX11_led.2.2.1 mX11_led.2.2.2 :: zWS) (zrm 8 1 6)).room, s, m, ([Value.ref 1000, .int i].map (zv G.2.2.1)).toArray, below, meth, c, G) mX11_led 8 1 6 := ⟨B.exec, B.bytes, hml, hown, fun w hw => hts w (List.mem_cons_of_mem _ hw), B.notSynchronized, B.returns, hw, Nat.le_refl _, Nat.le_refl _, rfl, rfl, (name_of_methodNamed B.named B.method).1⟩
  have K : Zc (p, l, e, (headSpec (Cond.code mX11_led.1 mX11_led.2.1 mX11_led.2.2.1 mX11_led.2.2.2 :: zWS) (zrm 8 1 6)).room, s, m, ([Value.ref 1000, .int i].map (zv G.2.2.1)).toArray, below, meth, c, G) mX11_led (vx_MQ below (fun _ _ _ _ => False) (yx_X G h) ([Value.ref 1000, .int i].map (zv G.2.2.1)).toArray s 1 6 (zA G)) 0 [(0, .ref 1000), (1, .int i)] [] h n 0 0 := by
    refine z_aload_n (pc := 0) C dX11_led_0 0 rfl ?_
    refine z_getf (pc := 1) C dX11_led_1 fX11_53 hK (by rfl) ?_
    refine z_iload_n (pc := 4) C dX11_led_4 1 rfl ?_
    refine z_cV1 (pc := 5) mX5_soManiethNowhere C [_] dX11_led_5 lX11_377 mtX5_soManiethNowhere (tX5_soManiethNowhere hC hR hS) s0 rfl rfl (by decide) (Nat.le_of_ble_eq_true rfl) (by decide) (by decide) ?_
    rw [hA]
    refine z_istore_n (pc := 8) (lv' := [(2, _), (0, _), (1, _)]) C dX11_led_8 (by decide) rfl ?_
    refine z_iload_n (pc := 9) C dX11_led_9 0 rfl ?_
    refine z_if_ge (pc := 10) C 24 dX11_led_10 (by decide) (fun q => absurd q (by decide)) (fun _ => ?_)
    intro H ls locs hh1 hS1 hl1
    obtain ⟨hx, hb, hml, hown, hts, hlk, hret, hw, hdf, hdl, hrc, hrs, hnm⟩ := C
    refine yx_throw (own := RX11) (cls := RNS) (sup := "java/lang/RuntimeException") (text := "no such kill stands nowhere") (names := ["java/lang/Exception"]) (ik := 380) (is := 382) (ic := 384) (sa := G.2.2.1 20) (A := zA G) hx hb hl hown (by decide) (by decide) (fun n hn => by cases List.mem_singleton.mp hn; decide) (hts _ yx_k1) (hts _ yx_k2) (hw.2.2.2.2.1 (RX11, 382, "no such kill stands nowhere", 20) (by simp [zSR])) (vx_hat (fun w hw => hts w (yx_good w hw)) yx_bad hE.use) yx_ot hw.2.2.2.2.2.2.2.1.2.2.1 hw.2.2.2.2.2.2.2.1.2.2.2 hS1 (hl1.1.trans hml.symm) dX11_led_13 dX11_led_16 dX11_led_17 dX11_led_20 dX11_led_23 (fun x hx => absurd hx (fun z => hx0 x z)) (by show 1 + 4 < _; exact Nat.lt_of_lt_of_le (by decide) hdf) (by show 0 + (13 * (1 + 2) + 43) ≤ _; exact Nat.le_trans (by decide) hdl) (by rw [hrc]; decide) (by rw [hrs]; decide) hlk (fun t ht hz hk => ?_) (fun z hz => hS1.2.2 z hz) (by decide) (by decide)
    exact ⟨rfl, hh1.grow hz hk, Nat.le_trans hS1.1 hz, fun q q1 q2 => (hk q (Nat.lt_of_lt_of_le q1 hS1.1)).trans (hS1.2.1 q q1 q2)⟩
  have hl2 := lv_entry ([Value.ref 1000, .int i].map (zv G.2.2.1)) (n := mX11_led.2.2.1) (by rw [zlen_sl]; exact Nat.le_of_ble_eq_true rfl)
  rw [lg_entry_eq]
  generalize (lg_sl ([Value.ref 1000, .int i].map (zv G.2.2.1)) ++ List.replicate (mX11_led.2.2.1 - (lg_sl ([Value.ref 1000, .int i].map (zv G.2.2.1))).length) Slot.unset).toArray = ls at hl2 ⊢
  exact K s.heap ls [] hh va_S.rf hl2
