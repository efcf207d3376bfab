theorem InvP.out {h : ZH} {st sl sr t ds dl dr dt ic len un la : Nat} {tb fa pl : Int32} {B R S F I U f1 f2 f3 : Nat → Nat} {v : Nat → Int32} {b : Bool} (hI : InvP h st sl sr t ds dl dr dt ic len un la tb fa pl B R S F I U f1 f2 f3 v b) (f : Nat → Int64) : InvP (zup h 1078 (zL 1 f)) st sl sr t ds dl dr dt ic len un la tb fa pl B R S F I U f1 f2 f3 v b := by
  obtain ⟨i0, ⟨kd, ke, kn⟩, i2, i3, i4, i5, i6, i7, i8, i9, i10, i11, i12, -, i14, i15⟩ := hI
  have N : ∀ a, a < 1078 → zup h 1078 (zL 1 f) a = h a := fun a q => zup_ne (by omega)
  have fr1 : ∀ a, drA st a → zup h 1078 (zL 1 f) a = h a := fun a q => N a (by unfold drA at q; omega)
  have fr2 : ∀ a, drA ds a → zup h 1078 (zL 1 f) a = h a := fun a q => N a (by unfold drA at q; omega)
  exact ⟨(N _ (by decide)).trans i0, ⟨kd, ke, kn⟩, i2.fr (fun a q1 q2 => N a (by omega)), i3.on ke fr2, i4.dr kd fr1, i5.nw kd (N _ (by decide)) (N _ (by decide)) (N _ (by decide)) fr1, i6.fr (N _ (by decide)) (N _ (by decide)) (N _ (by decide)) (N _ (by decide)), i7.fr (N _ (by decide)) (N _ (by decide)), i8.fr (fun a q1 q2 => N a (by omega)), i9.fr kd (N _ (by decide)) (fun a q1 q2 => N a (by omega)) i15.2.2.2.2.2.1.2.2 fr1, (N _ (by decide)).trans i10, i11.fr (fun a q1 q2 => N a (by omega)), i12.on (fun a q1 q2 => N a (by omega)), ⟨f, zup_same _ _ _⟩, i14, i15⟩
abbrev mL_led : ZM := (yL_led, cL_led, 4, some .int)
abbrev ledWs : List Cond := Cond.codeWith yL_led cL_led 4 (some .int) [(0, 9, 12, 13)] :: zWS
/-- what led's frame in the law leaves -/
def ledP (R S : Nat → Nat) (i : Int32) (J : ZH → Prop) : Option Value → ZH → Nat → Prop := fun r h' _ => ∃ x : Bool, r = some (.int (zb x)) ∧ J h' ∧ (match aLed R S i with | some k => x = false ∧ ∃ f : Nat → Int64, h' 1078 = some (zL 1 f) ∧ f 0 = (nI k).toInt64 | none => x = true)
theorem snth_lt {P : Nat → Bool} {i : Int32} {x : Nat} : ∀ k, snth P i k = some x → x < k := by
  intro k
  induction k with
  | zero => intro h; cases h
  | succ k ih =>
    intro h
    rw [snth] at h
    cases q : snth P i k with
    | some y =>
      rw [q] at h
      have h : some y = some x := h
      cases h
      have := ih q
      omega
    | none =>
      rw [q] at h
      have h : (if P k = true ∧ nI (scn P k) = i then some k else none) = some x := h
      split at h
      · cases h; omega
      · cases h
theorem aLed_lt {R S : Nat → Nat} {i : Int32} {k : Nat} (h : aLed R S i = some k) (hR : wfR R) : k < 2147483648 := by
  have w4 := hR.2.2.1
  have := snth_lt _ h
  omega
set_option maxHeartbeats 1000000 in
theorem led_met {l : Launch} (hl : l.stackTraces = false) (G : ZG) {h : ZH} {n : Nat} {st sl sr t ds dl dr dt ic len un la : Nat} {tb fa pl : Int32} {B R S F I U f1 f2 f3 : Nat → Nat} {v : Nat → Int32} {b : Bool} {i : Int32} (hI : InvP h st sl sr t ds dl dr dt ic len un la tb fa pl B R S F I U f1 f2 f3 v b) : vx_Met l yL_led ledWs (zrm 12 1 6) (fun v U => zPc G [.ref 1000, .int i, .ref 1078] h n v U ∧ yx_Wd U) (zQc G (ledP R S i (fun h' => InvP h' st sl sr t ds dl dr dt ic len un la tb fa pl B R S F I U f1 f2 f3 v b))) (fun _ _ _ => False) 1 6 (zA G) := by
  have hI0 := hI
  obtain ⟨i0, ⟨kd, ke, kn⟩, i2, i3, i4, i5, i6, i7, i8, i9, i10, i11, i12, ⟨fo, i13⟩, i14, i15⟩ := hI
  obtain ⟨hb0, hR, hS, -⟩ := i15
  refine vx_ofWH (cc := cL_led) (maxL := 4) (ret := some .int) (hh := [(0, 9, 12, 13)]) (by decide) rfl ?_
  intro p e s m args below meth c s₁ Bd hml hP
  obtain ⟨⟨rfl, hw, hh⟩, hE⟩ := hP
  have hts := atoms_spec (ws := ledWs) Bd.pre
  have hown : s.vm.findClass yL_led.cls = some m.cls := findClass_of_methodNamed Bd.named
  have htb : c.exceptionTable.toList = tableOf [(0, 9, 12, 13)] := vx_table (x := yL_led) Bd (hts _ List.mem_cons_self)
  obtain ⟨R0, hR0⟩ : ∃ z, z = (headSpec ledWs (zrm 12 1 6)).room := ⟨_, rfl⟩
  obtain ⟨A0, hA0⟩ : ∃ z, z = ([Value.ref 1000, .int i, .ref 1078].map (zv G.2.2.1)).toArray := ⟨_, rfl⟩
  rw [← hR0, ← hA0]
  have C : zOk (p, l, e, R0, s, m, A0, below, meth, c, G) mL_led 12 1 6 := by
    rw [hR0, hA0]
    exact ⟨Bd.exec, Bd.bytes, hml, hown, fun w hw => hts w (List.mem_cons_of_mem _ hw), Bd.notSynchronized, Bd.returns, hw, Nat.le_refl _, Nat.le_refl _, rfl, rfl, (name_of_methodNamed Bd.named Bd.method).1⟩
  have hend : ∀ (lv : List (Nat × Value)) (pc : Nat) (x : Bool) (h' : ZH) (n' c9 s9 : Nat), decode cL_led pc = .ok (.ireturn, 1) → c9 ≤ 1 → s9 ≤ 6 → InvP h' st sl sr t ds dl dr dt ic len un la tb fa pl B R S F I U f1 f2 f3 v b → (match aLed R S i with | some k => x = false ∧ ∃ f : Nat → Int64, h' 1078 = some (zL 1 f) ∧ f 0 = (nI k).toInt64 | none => x = true) → Zc (p, l, e, R0, s, m, A0, below, meth, c, G) mL_led (vx_MQ below (zQc G (ledP R S i (fun h' => InvP h' st sl sr t ds dl dr dt ic len un la tb fa pl B R S F I U f1 f2 f3 v b))) (fun _ _ _ => False) A0 s 1 6 (zA G)) pc lv [.int (zb x)] h' n' c9 s9 := by
    intro lv pc x h' n' c9 s9 D h1 h2 hJ hm H ls locs a1 a2 a3
    exact vx_ret (z_iret (X := (p, l, e, R0, s, m, A0, below, meth, c, G)) (M := mL_led) (post := ledP R S i (fun h' => InvP h' st sl sr t ds dl dr dt ic len un la tb fa pl B R S F I U f1 f2 f3 v b)) C D rfl h1 h2 ⟨x, rfl, hJ, hm⟩ H ls locs a1 a2 a3)
  have K : Zc (p, l, e, R0, s, m, A0, below, meth, c, G) mL_led (vx_MQ below (zQc G (ledP R S i (fun h' => InvP h' st sl sr t ds dl dr dt ic len un la tb fa pl B R S F I U f1 f2 f3 v b))) (fun _ _ _ => False) A0 s 1 6 (zA G)) 0 [(0, .ref 1000), (1, .int i), (2, .ref 1078)] [] h n 0 0 := by
    refine z_aload_n (pc := 0) C dL_led_0 2 rfl ?_
    refine z_iconst (pc := 1) C dL_led_1 (nI 0) (by decide) ?_
    refine z_aload_n (pc := 2) C dL_led_2 0 rfl ?_
    refine z_iload_n (pc := 3) C dL_led_3 1 rfl ?_
    rcases hA : aLed R S i with _ | k
    · intro H ls locs hh1 hS1 hl1
      obtain ⟨hx, hb, hml, hown, hts, hlk, hret, hw, hdf, hdl, hrc, hrs, hnm⟩ := id C
      obtain ⟨⟨g1, g2, g3, g4⟩, g5, g6, T, N, g7⟩ := mtX11_led
      have hP := hh1.one i0
      have run := vx_runV (As := [Value.int i]) (rest := [Value.int (nI 0), .ref (G.2.2.1 1078)]) (C := mX11_led.1.cls) (b := G.2.2.1 1000) (g := F0 m 4 ls [.int i, .ref (G.2.2.1 1000), .int (nI 0), .ref (G.2.2.1 1078)]) (below := below) (meth := meth) (locs := locs) (cells := 0) (slots := 0) (e := e) (H := H) ⟨hx, hb, hml, hown, hts⟩ (led_throws hl G (n := n) i0 i5 hR hS hA) (bytes := mX11_led.2.1) (maxL := mX11_led.2.2.1) (ret := mX11_led.2.2.2) (n := 1) ⟨callB_of 1 hts (zGood (M := mL_led) g1) rfl rfl rfl (hts _ g2) (hts _ lL_7) g4 ⟨by show 8 + 1 ≤ R0.frames; omega, by show 8 + (3 + 11) + 64 * 8 ≤ R0.locals; omega⟩, hts _ g5, hts _ g6⟩ ⟨yx_blind _ _ _ _, va_recv (q0 := 0) hw.1 hP g7 rfl, fun U hU hW => ⟨⟨rfl, hw.to hW (by rw [hU]; exact hS1.1) (fun q h1 h2 => by rw [hU]; exact hS1.2.1 q h1 h2), by rw [hU]; exact hh1⟩, hE.to hW⟩⟩ rfl rfl hl1.1 rfl (Nat.le_of_ble_eq_true rfl) dL_led_4 (by rw [hrc, hrs]; decide)
      intro T0 hT0 XX
      rcases run T0 hT0 XX with ⟨v0, st₀, t0, T', L0, -, -, -, -, -, hF, -⟩ | ⟨q, st₀, t0, T', L0, E0, ce, h0, X', hL0, e1, e2, ⟨rfl, ⟨n1, hz1⟩, hs1, hs2⟩, hce, hcv, hcl, stp⟩
      · exact hF.elim
      · rw [h0] at hs1 hs2
        have hS2 : va_S (zA G) s.heap T'.heap (locs ++ L0) := ⟨Nat.le_trans hS1.1 (by rw [e1]; exact hs1), fun q h1 h2 => by rw [e1, hs2 q (Nat.lt_of_lt_of_le h1 hS1.1) h2]; exact hS1.2.1 q h1 h2, fun q hq => by
          rcases List.mem_append.mp hq with h | h
          · exact hS1.2.2 q h
          · exact hL0 q h⟩
        have kk : W p l e R0 s m A0 below meth c T'.heap (locs ++ L0) (0 + 1) (0 + 6) (vx_MQ below (zQc G (ledP R S i (fun h' => InvP h' st sl sr t ds dl dr dt ic len un la tb fa pl B R S F I U f1 f2 f3 v b))) (fun _ _ _ => False) A0 s 1 6 (zA G)) (F0 m 12 ls [.ref q]) := by
          refine lv_astore_n hx hb dL_led_12 rfl hl1 (by decide) rfl (fun ls' hl' => ?_)
          have K2 : Zc (p, l, e, R0, s, m, A0, below, meth, c, G) mL_led (vx_MQ below (zQc G (ledP R S i (fun h' => InvP h' st sl sr t ds dl dr dt ic len un la tb fa pl B R S F I U f1 f2 f3 v b))) (fun _ _ _ => False) A0 s 1 6 (zA G)) 13 [] [] h n1 (0 + 1) (0 + 6) := by
            refine z_iconst (pc := 13) C dL_led_13 (zb true) (by decide) ?_
            exact hend _ 14 true h n1 _ _ dL_led_14 (by decide) (by decide) hI0 (by rw [hA])
          exact K2 T'.heap ls' (locs ++ L0) (by rw [e1]; exact hz1) hS2 ⟨hl'.1, hl'.2.1, fun q hq => nomatch hq⟩
        obtain ⟨t2, a1, b1⟩ := vx_catch (own := RL) (name := RNS) (E := RNS) (ce := ce) (q := q) (pc := 4) (ls := ls) (rest := [Value.int (nI 0), .ref (G.2.2.1 1078)]) hown [] ⟨0, 9, 12, 13⟩ [] htb (fun z hz => nomatch hz) (by decide) (by decide) (hts _ yx_k3) (va_any rfl hE.2.2.2) (by rw [e1]; exact hce) hcv hcl kk T' rfl X'
        exact ⟨t2, stp.trans a1, b1⟩
    · refine z_cV1 (pc := 4) mX11_led C [_] dL_led_4 lL_7 mtX11_led (tX11_ledY i0 i5 hR hS hA (aLed_lt hA hR)) i0 rfl rfl (by decide) (Nat.le_of_ble_eq_true rfl) (by decide) (by decide) ?_
      refine z_i2l (pc := 7) C dL_led_7 ?_
      refine z_lastN (pc := 8) C dL_led_8 i13 (by decide) (by decide) ?_
      refine z_goto (pc := 9) C 15 dL_led_9 (by decide) ?_
      refine z_iconst (pc := 15) C dL_led_15 (zb false) (by decide) ?_
      exact hend _ 16 false _ n _ _ dL_led_16 (by decide) (by decide) (hI0.out _) (by rw [hA]; exact ⟨rfl, _, zup_same _ _ _, by unfold vp_updL; simp⟩)
  have hl2 := lv_entry ([Value.ref 1000, .int i, .ref 1078].map (zv G.2.2.1)) (n := 4) (by rw [zlen_sl]; exact Nat.le_of_ble_eq_true rfl)
  rw [hA0, lg_entry_eq]
  generalize (lg_sl ([Value.ref 1000, .int i, .ref 1078].map (zv G.2.2.1)) ++ List.replicate (4 - (lg_sl ([Value.ref 1000, .int i, .ref 1078].map (zv G.2.2.1))).length) Slot.unset).toArray = ls at hl2 ⊢
  rw [← hA0]
  exact K s.heap ls [] hh va_S.rf hl2
