theorem led_good : GoodIn zWS (va_wsS RL 233 yL_led ledWs) := by
  have hg : ∀ w ∈ zWS, w ∈ zWS ∧ ((w.onTables && w.keeps) = true ∨ ∃ ty, w = .arrayClass ty) := fun w hw => ⟨hw, good_of_word (List.mem_filter.mp hw).2⟩
  intro w hw
  have hw : w ∈ Cond.methodLink RL 233 yL_led :: Cond.static yL_led :: Cond.initialized yL_led.cls :: Cond.codeWith yL_led cL_led 4 (some .int) [(0, 9, 12, 13)] :: zWS := hw
  rcases List.mem_cons.mp hw with rfl | hw
  · exact hg _ lL_233
  rcases List.mem_cons.mp hw with rfl | hw
  · exact hg _ yx_k5
  rcases List.mem_cons.mp hw with rfl | hw
  · exact hg _ yx_k6
  rcases List.mem_cons.mp hw with rfl | hw
  · exact hg _ yx_k4
  exact hg _ hw
set_option maxHeartbeats 1000000 in
theorem led_row {p : Program} {l : Launch} {e : Env} {Rm : Room} {s : State} {m : MethodId} {args : Array Value} {below : List Frame} {meth : Method} {c : Code} {G : ZG} {nm : String} {Q : State → Prop} (hls : l.stackTraces = false) (C : zOk (p, l, e, Rm, s, m, args, below, meth, c, G) (mLw nm) 20 601024 7293034) (hE : yx_Wd s) : LedRow (p, l, e, Rm, s, m, args, below, meth, c, G) nm Q := by
  intro h n cs ss i lv st sl sr t ds dl dr dt ic len un la tb fa pl B R S F I U f1 f2 f3 v b hI h1 h2 K H ls locs hh hS1 hl1
  obtain ⟨hx, hb, hml, hown, hts, hlk, hret, hw, hdf, hdl, hrc, hrs, hnm⟩ := C
  have run := vx_runSX (hh := [(0, 9, 12, 13)]) (As := [Value.ref (G.2.2.1 1000), .int i, .ref (G.2.2.1 1078)]) (rest := []) (g := F0 m 1934 ls [.ref (G.2.2.1 1078), .int i, .ref (G.2.2.1 1000)]) (below := below) (meth := meth) (locs := locs) (cells := cs) (slots := ss) (e := e) (H := H) ⟨hx, hb, hml, hown, hts⟩ (led_met hls G (n := n) (i := i) hI) (bytes := cL_led) (maxL := 4) (ret := some .int) (n := 3) (vx_cwSW 3 hts led_good rfl rfl rfl (by decide +kernel) ⟨by show 12 + 1 ≤ Rm.frames; omega, by show 8 + (4 + 11) + 64 * 12 ≤ Rm.locals; omega⟩) ⟨yx_blind _ _ _ _, fun U hU hW => ⟨⟨rfl, hw.to hW (by rw [hU]; exact hS1.1) (fun q h1 h2 => by rw [hU]; exact hS1.2.1 q h1 h2), by rw [hU]; exact hh⟩, hE.to hW⟩⟩ rfl rfl hl1.1 rfl (Nat.le_of_ble_eq_true rfl) dL_law_1934 (by rw [hrc, hrs]; exact ⟨h1, h2⟩)
  intro T0 hT0 XX
  rcases run T0 hT0 XX with ⟨v0, st₀, t0, T', L0, h0, X', hL0, e1, e2, ⟨v1, h', n1, hv, ⟨x, hx1, hJ, hm⟩, hz, s1, s2⟩, stp⟩ | ⟨q, st₀, t0, T', L0, E0, ce, h0, X', hL0, e1, e2, hF, -⟩
  · subst hx1
    cases hv
    rw [h0] at s1 s2
    obtain ⟨t2, a1, b1⟩ := K x h' n1 hJ hm T'.heap ls (locs ++ L0) (by rw [e1]; exact hz) ⟨Nat.le_trans hS1.1 (by rw [e1]; exact s1), fun q h1 h2 => by rw [e1, s2 q (Nat.lt_of_lt_of_le h1 hS1.1) h2]; exact hS1.2.1 q h1 h2, fun q hq => by
      rcases List.mem_append.mp hq with h | h
      · exact hS1.2.2 q h
      · exact hL0 q h⟩ hl1 T' rfl X'
    exact ⟨t2, stp t2 a1, b1⟩
  · exact hF.elim
