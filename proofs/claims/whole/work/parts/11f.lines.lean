theorem w_ldcSw {p : Program} {l : Launch} {e : Env} {R : Room} {s : State} {m : MethodId} {args : Array Value} {below : List Frame} {meth : Method} {c : Code} {H : Heap} {locs : List Loc} {cells slots : Nat} {Q : State → Prop} {cc : ByteArray} {pc : Nat} {ls : Array Slot} {rest : List Value} {own tx : String} {ix q : Nat} (hx : p.tables.exec = Jvm.exec) (hb : c.code = cc) (hown : s.vm.findClass own = some m.cls) (hZ : vk_R own ix tx q s) (D : decode cc pc = .ok (.ldc_w ix, 3)) (k : W p l e R s m args below meth c H locs cells slots Q (F0 m (pc + 3) ls (.ref q :: rest))) : W p l e R s m args below meth c H locs cells slots Q (F0 m pc ls rest) := by
  intro T hT X
  obtain ⟨t, a1, b1⟩ := k T hT X
  exact ⟨t, X.ldcStringW hx hown (text := tx) (a := q) hZ.1 hZ.2 (g := F0 m pc ls rest) rfl (by rw [hb]; exact D) t a1, b1⟩
theorem z_ldcSw {X : ZX} {M : ZM} {Q : State → Prop} {pc : Nat} {lv : List (Nat × Value)} {st : List Value} {h : ZH} {n cs sl d RC RS : Nat} (C : zOk X M d RC RS) {ix i : Nat} {tx : String} (D : decode M.2.1 pc = .ok (.ldc_w ix, 3)) (L : (M.1.cls, ix, tx, i) ∈ zSR) (K : Zc X M Q (pc + 3) lv (.ref i :: st) h n cs sl) : Zc X M Q pc lv st h n cs sl := by
  obtain ⟨p, l, e, R, s, m, args, below, meth, c, G⟩ := X
  obtain ⟨hx, hb, hml, hown, hts, hlk, hret, hw, hdf, hdl, hrc, hrs, hnm⟩ := C
  intro H ls locs hh hS hl
  exact w_ldcSw hx hb hown (hw.2.2.2.2.1 _ L) D (K H ls locs hh hS hl)
def LQ (h hh : ZH) (v : Nat → Int32) (B : Nat → Nat) (n : Nat) (l : TO × (Nat → Nat) × (Nat → Nat)) : Prop := (∃ v', MO hh v' B n l.1 ∧ rW v v') ∧ (∃ R2 S2, hh 1067 = some (zI 241 R2) ∧ hh 1069 = some (zI 40 S2) ∧ (oF l.1 = false → R2 = l.2.1 ∧ S2 = l.2.2)) ∧ ∀ a, a ≠ 1063 → a ≠ 1065 → a ≠ 1067 → a ≠ 1069 → hh a = h a
theorem LQ.of {h hh : ZH} {v v' : Nat → Int32} {B R2 S2 : Nat → Nat} {n : Nat} {l : TO × (Nat → Nat) × (Nat → Nat)} (a : MO hh v' B n l.1) (b : rW v v') (c : hh 1067 = some (zI 241 R2)) (d : hh 1069 = some (zI 40 S2)) (e : oF l.1 = false → R2 = l.2.1 ∧ S2 = l.2.2) (f : ∀ a, a ≠ 1063 → a ≠ 1065 → a ≠ 1067 → a ≠ 1069 → hh a = h a) : LQ h hh v B n l := ⟨⟨v', a, b⟩, ⟨R2, S2, c, d, e⟩, f⟩
/-- what a reading keeps -/
def RI (R S : Nat → Nat) : Prop := (∀ j, j < 241 → R j < 2147483648) ∧ (R 1 ≤ 7 ∧ R 3 ≤ 4 ∧ R 4 ≤ 6 ∧ R 5 ≤ 3 ∧ R 8 ≤ 1) ∧ (∀ p, p < 7 → R (23 + p) < 128) ∧ (∀ m, m < 4 → S (8 * m) < 7) ∧ ∀ k, k < 6 → S (32 + k) < 4
theorem snm_lt {R B : Nat → Nat} {n : Nat} {t : Nat × Nat × Nat} {x : Nat} (hk : sTk B n t) (hR : ∀ j, j < 241 → R j < 2147483648) : ∀ j, j < 241 → snm R B t x j < 2147483648 := by
  obtain ⟨t1, t2, t3, t4, t5, -⟩ := hk
  intro j hj
  unfold snm nup ncpy
  split
  · omega
  · split
    · have := t5 (t.2.1 + (j - (81 + 8 * x))) (by omega); omega
    · exact hR j hj
theorem snm_ne {R B : Nat → Nat} {t : Nat × Nat × Nat} {x j : Nat} (hj : j < 61) : snm R B t x j = R j := by
  unfold snm
  rw [nup_ne (by omega), ncpy_out _ _ (by omega)]
def nfl (S : Nat → Nat) (i k v : Nat) : Nat → Nat := fun q => if i ≤ q ∧ q < i + k then v else S q
theorem nfl_0 (S : Nat → Nat) (i v : Nat) : nfl S i 0 v = S := by
  funext q
  exact if_neg (by omega)
theorem nfl_s (S : Nat → Nat) (i k v : Nat) : nup (nfl S i k v) (i + k) v = nfl S i (k + 1) v := by
  funext q
  unfold nup nfl
  by_cases e : q = i + k
  · rw [if_pos e, if_pos (by omega)]
  · rw [if_neg e]
    by_cases f : i ≤ q ∧ q < i + k
    · rw [if_pos f, if_pos (by omega)]
    · rw [if_neg f, if_neg (by omega)]
theorem oP_f {B : Nat → Nat} {n : Nat} {o : TO} (h : oF (oP B n o) = false) : oF o = false := oB_f h
theorem oM_f {B : Nat → Nat} {n i : Nat} {o : TO} (h : oF (oM B n o i) = false) : oF o = false := oB_f h
theorem sAf_f {B : Nat → Nat} {n i u : Nat} {o : TO} (h : oF (sAf B n i u o) = false) : oF o = false := oB_f (oB_f h)
theorem oX_f {f : Nat} {o : TO} (h : oF (oX o f) = false) : False := by
  cases o with
  | inl t => cases h
  | inr e => cases h
theorem MO.on {h hh : ZH} {v : Nat → Int32} {B : Nat → Nat} {n : Nat} {o : TO} (hO : MO h v B n o) (e : ∀ a, a = 1063 ∨ a = 1064 ∨ a = 1065 → hh a = h a) : MO hh v B n o := by
  cases o with
  | inl t =>
    obtain ⟨⟨a1, a3, a4, ak, aL, a5, am⟩, b⟩ := hO
    exact ⟨⟨(e _ (by decide)).trans a1, a3, (e _ (by decide)).trans a4, ak, aL, (e _ (by decide)).trans a5, am⟩, b⟩
  | inr x =>
    obtain ⟨a1, a2, a3, a4, aL, a5⟩ := hO
    exact ⟨(e _ (by decide)).trans a1, a2, a3, a4, aL, (e _ (by decide)).trans a5⟩
def lFo (R S B : Nat → Nat) (n : Nat) (t : Nat × Nat × Nat) : TO × (Nat → Nat) × (Nat → Nat) := (if R 8 = 0 then sAf B n 8 100 (.inl (sNx B n t)) else .inr (3, t.2.1), nup (nup R 0 (sAv B n 8 100 (.inl (sNx B n t)))) 8 1, S)
def lPlA (R1 S B : Nat → Nat) (n x : Nat) (o1 : TO) : TO × (Nat → Nat) × (Nat → Nat) :=
  (sAf B n 11 9 (if oW B o1 9 then oT B n o1 9 else oM B n (oT B n o1 9) 10), nup (nup R1 (9 + x) (sAv B n 11 9 (if oW B o1 9 then oT B n o1 9 else oM B n (oT B n o1 9) 10))) 1 (x + 1), nup S 38 (S 38 ||| (if oW B o1 9 then 1 <<< x else 0)))
def lPl (R S B : Nat → Nat) (n : Nat) (o : TO) : TO × (Nat → Nat) × (Nat → Nat) := match o with
  | .inl t => lPlA (snm R B t (R 1)) S B n (R 1) (sNw R B n t)
  | .inr e => (.inr e, R, S)
def lPaO (R B : Nat → Nat) (n : Nat) (o : TO) : TO := oB (oB (oP B n (oB o (sNmd R B 0 6))) (sNmd R B 0 6)) (fun t => if sNv R B 0 6 o = sNv R B 0 6 (oP B n (oB o (sNmd R B 0 6))) ∨ (R (23 + sNv R B 0 6 o)).testBit (sNv R B 0 6 (oP B n (oB o (sNmd R B 0 6)))) = true then .inr (3, t.2.1) else .inl t)
def lPaR (R : Nat → Nat) (a b : Nat) : Nat → Nat := nup (nup (nup R (23 + a) (R (23 + a) ||| 1 <<< b)) (23 + b) (R (23 + b) ||| 1 <<< a)) 2 (R 2 + 1)
def lPa (R S B : Nat → Nat) (n : Nat) (o : TO) : TO × (Nat → Nat) × (Nat → Nat) :=
  (oP B n (lPaO R B n o), lPaR R (sNv R B 0 6 o) (sNv R B 0 6 (oP B n (oB o (sNmd R B 0 6)))), S)
def sKd (B : Nat → Nat) (o : TO) : Option Nat := if oW B o 12 then some 0 else if oW B o 13 then some 1 else if oW B o 14 then some 2 else if oW B o 15 then some 3 else none
def lMaO (B : Nat → Nat) (n : Nat) (o1 : TO) : TO := oM B n (oP B n (if sKd B o1 = none then oX o1 1 else o1)) 16
def lMaA (R1 S B : Nat → Nat) (n x : Nat) (o1 : TO) : TO × (Nat → Nat) × (Nat → Nat) :=
  (oP B n (oB (lMaO B n o1) (sNmd R1 B 0 6)), nup (nup R1 (30 + x) ((sKd B o1).getD 0)) 3 (x + 1), nfl S (8 * x) 8 (sNv R1 B 0 6 (lMaO B n o1)))
def lMa (R S B : Nat → Nat) (n : Nat) (o : TO) : TO × (Nat → Nat) × (Nat → Nat) := match o with
  | .inl t => lMaA (snm R B t (7 + R 3)) S B n (R 3) (sNw R B n t)
  | .inr e => (.inr e, R, S)
def lWaO (R S B : Nat → Nat) (n : Nat) (o : TO) : TO := oB (oB (oP B n (oB o (sNmd R B 7 10))) (sNmd R B 0 6)) (fun t => if (R (23 + S (8 * sNv R B 7 10 o))).testBit (sNv R B 0 6 (oP B n (oB o (sNmd R B 7 10)))) = true then .inl t else .inr (7, t.2.1))
def lWa (R S B : Nat → Nat) (n : Nat) (o : TO) : TO × (Nat → Nat) × (Nat → Nat) :=
  (oP B n (lWaO R S B n o), nup R 6 (R 6 + 1), sgo S (sNv R B 7 10 o) (sNv R B 0 6 (oP B n (oB o (sNmd R B 7 10)))))
def lKiO (R1 B : Nat → Nat) (n : Nat) (o1 : TO) : TO := oP B n (oB (oM B n o1 17) (sNmd R1 B 7 10))
def lKiV (R1 B : Nat → Nat) (n : Nat) (o1 : TO) : Nat := sNv R1 B 7 10 (oM B n o1 17)

set_option maxRecDepth 20000 in
set_option maxHeartbeats 1000000 in
theorem tX12_forestLine {h : ZH} {v : Nat → Int32} {B R S : Nat → Nat} {n0 : Nat} {t : Nat × Nat × Nat} (hS : MS h v B n0 t) (hf : v 13 = zb false) (hR0 : h 1067 = some (zI 241 R)) (hS0 : h 1069 = some (zI 40 S)) (ht : t.1 ≠ 4) (h8 : R 8 ≤ 1) : ZQ0 mX12_forestLine 8 [.ref 1063] h (fun hh => LQ h hh v B n0 (lFo R S B n0 t)) := by
  intro n
  have hM := hS.1
  have hO0 : MO h v B n0 (.inl t) := ⟨hS, hf⟩
  have f0 := hO0.f
  refine z_enter (lv := [(0, _)]) (by decide) (Nat.le_of_ble_eq_true rfl) rfl (fun X C => ?_)
  refine z_aload_n (pc := 0) C dX12_forestLine_0 0 rfl ?_
  refine z_getf (pc := 1) C dX12_forestLine_1 fX12_23 hM (by first | rfl | assumption) ?_
  refine z_bipush (pc := 4) C dX12_forestLine_4 (nI 8) (by decide) ?_
  first | refine z_ialdN (pc := 6) C dX12_forestLine_6 hR0 (by omega) (by decide) ?_ | refine z_ialdI (pc := 6) C dX12_forestLine_6 hR0 (by omega) (by decide) ?_
  first | refine z_ifleN (pc := 7) C 19 dX12_forestLine_7 (by decide) (by omega) (fun hc7 => ?_) (fun hc7 => ?_) | refine z_if_le (pc := 7) C 19 dX12_forestLine_7 (by decide) (fun hc7 => ?_) (fun hc7 => ?_)
  · skip
    have e8 : R 8 = 0 := by omega
    have hM1 := hM
    refine z_aload_n (pc := 19) C dX12_forestLine_19 0 rfl ?_
    refine z_getf (pc := 20) C dX12_forestLine_20 fX12_94 hM1 (by first | rfl | assumption) ?_
    first | rw [f1] | rw [f0]
    first | refine z_ifeqB (pc := 23) C 27 dX12_forestLine_23 (by decide) (fun hc23 => ?_) (fun hc23 => ?_) | refine z_ifeqN (pc := 23) C 27 dX12_forestLine_23 (by decide) (by omega) (fun hc23 => ?_) (fun hc23 => ?_) | refine z_if_eq (pc := 23) C 27 dX12_forestLine_23 (by decide) (fun hc23 => ?_) (fun hc23 => ?_)
    · skip
      refine z_aload_n (pc := 27) C dX12_forestLine_27 0 rfl ?_
      refine z_cV0Q (pc := 28) mX12_goOn C [] dX12_forestLine_28 lX12_115 mtX12_goOn (tX12_goOnQ hS ht) hM rfl rfl (by decide) (Nat.le_of_ble_eq_true rfl) (Nat.zero_le _) (Nat.zero_le _) ?_
      rintro h3 ⟨⟨v3, hS3a, hV3⟩, F3⟩
      have hO3 : MO h3 v3 B n0 (.inl (sNx B n0 t)) := ⟨hS3a, (hV3 13 (by decide)).trans hf⟩
      have hM3 := hO3.m
      have f3 := hO3.f
      have hR3 : h3 1067 = _ := (F3 1067 (by decide) (by decide)).trans hR0
      have hS3 : h3 1069 = _ := (F3 1069 (by decide) (by decide)).trans hS0
      refine z_aload_n (pc := 31) C dX12_forestLine_31 0 rfl ?_
      refine z_getf (pc := 32) C dX12_forestLine_32 fX12_23 hM3 (by first | rfl | assumption) ?_
      refine z_iconst (pc := 35) C dX12_forestLine_35 (nI 0) (by decide) ?_
      refine z_aload_n (pc := 36) C dX12_forestLine_36 0 rfl ?_
      refine z_ldcS (pc := 37) (ix := 217) (i := 8) (tx := "dies") C dX12_forestLine_37 (show (RX12, 217, "dies", 8) ∈ zSR by simp [zSR]) ?_
      refine z_iconst (pc := 39) C dX12_forestLine_39 (nI 0) (by decide) ?_
      refine z_bipush (pc := 40) C dX12_forestLine_40 (nI 100) (by decide) ?_
      refine z_cV1Q (pc := 42) mX12_after C [_, _, _] dX12_forestLine_42 lX12_219 mtX12_after (tX12_after hO3 (by decide) (by decide)) hM3 rfl rfl (by decide) (Nat.le_of_ble_eq_true rfl) (Nat.zero_le _) (Nat.zero_le _) ?_
      rintro _ h4 ⟨rfl, ⟨v4, hO4, hV4⟩, F4⟩
      have hM4 := hO4.m
      have f4 := hO4.f
      have hR4 : h4 1067 = _ := (F4 1067 (by decide) (by decide)).trans hR3
      have hS4 : h4 1069 = _ := (F4 1069 (by decide) (by decide)).trans hS3
      first | refine z_iastN (pc := 45) C dX12_forestLine_45 hR4 (by omega) (by decide) ?_ | refine z_iastI (pc := 45) C dX12_forestLine_45 hR4 (by omega) (by decide) ?_
      generalize eh5 : zup h4 1067 (zI 241 (nup R 0 (sAv B n0 8 100 (.inl (sNx B n0 t))))) = h5
      have G5 : ∀ a, a ≠ 1067 → h5 a = h4 a := fun a q => by rw [← eh5]; exact zup_ne q
      have hO5 := hO4.on (hh := h5) (fun a q => G5 a (by omega))
      have hM5 := hO5.m
      have f5 := f4
      have hR5 : h5 1067 = some (zI 241 (nup R 0 (sAv B n0 8 100 (.inl (sNx B n0 t))))) := by rw [← eh5]; exact zup_same _ _ _
      have hS5 := (G5 1069 (by decide)).trans hS4
      refine z_aload_n (pc := 46) C dX12_forestLine_46 0 rfl ?_
      refine z_getf (pc := 47) C dX12_forestLine_47 fX12_94 hM5 (by first | rfl | assumption) ?_
      rw [f4]
      first | refine z_ifneB (pc := 50) C 61 dX12_forestLine_50 (by decide) (fun hc50 => ?_) (fun hc50 => ?_) | refine z_ifneN (pc := 50) C 61 dX12_forestLine_50 (by decide) (by omega) (fun hc50 => ?_) (fun hc50 => ?_) | refine z_if_ne (pc := 50) C 61 dX12_forestLine_50 (by decide) (fun hc50 => ?_) (fun hc50 => ?_)
      · skip
        refine z_vret (pc := 61) C dX12_forestLine_61 rfl (Nat.zero_le _) (Nat.zero_le _) ⟨rfl, ?_, rfl⟩
        unfold lFo; rw [if_pos e8]; first | exact LQ.of hO6 (hV3.w.tr hV4) hR6 hS6 (fun _ => ⟨rfl, rfl⟩) (fun a q1 q2 q3 _ => (G6 a q3).trans ((G5 a q3).trans ((F4 a q1 q2).trans (F3 a q1 q2)))) | exact LQ.of hO5 (hV3.w.tr hV4) hR5 hS5 (fun z => by rw [hc50] at z; cases z) (fun a q1 q2 q3 _ => (G5 a q3).trans ((F4 a q1 q2).trans (F3 a q1 q2)))
      · skip
        refine z_aload_n (pc := 53) C dX12_forestLine_53 0 rfl ?_
        refine z_getf (pc := 54) C dX12_forestLine_54 fX12_23 hM5 (by first | rfl | assumption) ?_
        refine z_bipush (pc := 57) C dX12_forestLine_57 (nI 8) (by decide) ?_
        refine z_iconst (pc := 59) C dX12_forestLine_59 (nI 1) (by decide) ?_
        first | refine z_iastN (pc := 60) C dX12_forestLine_60 hR5 (by omega) (by decide) ?_ | refine z_iastI (pc := 60) C dX12_forestLine_60 hR5 (by omega) (by decide) ?_
        generalize eh6 : zup h5 1067 (zI 241 (nup (nup R 0 (sAv B n0 8 100 (.inl (sNx B n0 t)))) 8 1)) = h6
        have G6 : ∀ a, a ≠ 1067 → h6 a = h5 a := fun a q => by rw [← eh6]; exact zup_ne q
        have hO6 := hO5.on (hh := h6) (fun a q => G6 a (by omega))
        have hM6 := hO6.m
        have f6 := f5
        have hR6 : h6 1067 = some (zI 241 (nup (nup R 0 (sAv B n0 8 100 (.inl (sNx B n0 t)))) 8 1)) := by rw [← eh6]; exact zup_same _ _ _
        have hS6 := (G6 1069 (by decide)).trans hS5
        refine z_vret (pc := 61) C dX12_forestLine_61 rfl (Nat.zero_le _) (Nat.zero_le _) ⟨rfl, ?_, rfl⟩
        unfold lFo; rw [if_pos e8]; first | exact LQ.of hO6 (hV3.w.tr hV4) hR6 hS6 (fun _ => ⟨rfl, rfl⟩) (fun a q1 q2 q3 _ => (G6 a q3).trans ((G5 a q3).trans ((F4 a q1 q2).trans (F3 a q1 q2)))) | exact LQ.of hO5 (hV3.w.tr hV4) hR5 hS5 (fun z => by rw [hc50] at z; cases z) (fun a q1 q2 q3 _ => (G5 a q3).trans ((F4 a q1 q2).trans (F3 a q1 q2)))
    · cases hc23
  · skip
    have e8 : ¬ R 8 = 0 := by omega
    refine z_aload_n (pc := 10) C dX12_forestLine_10 0 rfl ?_
    refine z_iconst (pc := 11) C dX12_forestLine_11 (nI 3) (by decide) ?_
    refine z_aload_n (pc := 12) C dX12_forestLine_12 0 rfl ?_
    refine z_getf (pc := 13) C dX12_forestLine_13 fX12_75 hM (by first | rfl | assumption) ?_
    refine z_top (hO0.at (t := t) t rfl) ?_
    refine z_cV0Q (pc := 16) mX12_wrong C [_, _] dX12_forestLine_16 lX12_121 mtX12_wrong (tX12_wrongO (f := 3) hO0 (fun t9 ht9 => by cases ht9; rfl)) hM rfl rfl (by decide) (Nat.le_of_ble_eq_true rfl) (Nat.zero_le _) (Nat.zero_le _) ?_
    rintro h1 ⟨⟨v1, hO1, hV1⟩, F1⟩
    have hM1 := hO1.m
    have f1 := hO1.f
    have hR1 : h1 1067 = _ := (F1 1067 (by decide) (by decide)).trans hR0
    have hS1 : h1 1069 = _ := (F1 1069 (by decide) (by decide)).trans hS0
    refine z_aload_n (pc := 19) C dX12_forestLine_19 0 rfl ?_
    refine z_getf (pc := 20) C dX12_forestLine_20 fX12_94 hM1 (by first | rfl | assumption) ?_
    first | rw [f1] | rw [f0]
    first | refine z_ifeqB (pc := 23) C 27 dX12_forestLine_23 (by decide) (fun hc23 => ?_) (fun hc23 => ?_) | refine z_ifeqN (pc := 23) C 27 dX12_forestLine_23 (by decide) (by omega) (fun hc23 => ?_) (fun hc23 => ?_) | refine z_if_eq (pc := 23) C 27 dX12_forestLine_23 (by decide) (fun hc23 => ?_) (fun hc23 => ?_)
    · cases hc23
    · skip
      refine z_vret (pc := 26) C dX12_forestLine_26 rfl (Nat.zero_le _) (Nat.zero_le _) ⟨rfl, ?_, rfl⟩
      unfold lFo; rw [if_neg e8]; exact LQ.of hO1 hV1 hR1 hS1 (fun z => by cases z) (fun a q1 q2 _ _ => F1 a q1 q2)
