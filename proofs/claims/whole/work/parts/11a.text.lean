def zMtJ (M : ZM) (na : Nat) : Prop := zMt M na ∧ Cond.instanceMethod M.1 ∈ zWS ∧ Cond.selects RJ0 M.1 M.1 ∈ zWS
theorem mtJ0_length_8abf5 : zMtJ mJ0_length_8abf5 0 := ⟨mbJ0_length_8abf5, zin 295 (by decide +kernel) rfl, zin 296 (by decide +kernel) rfl⟩
theorem mtJ0_coder_7d493 : zMtJ mJ0_coder_7d493 0 := ⟨mbJ0_coder_7d493, zin 299 (by decide +kernel) rfl, zin 300 (by decide +kernel) rfl⟩
theorem mtJ0_charAt_5068e : zMtJ mJ0_charAt_5068e 1 := ⟨mbJ0_charAt_5068e, zin 306 (by decide +kernel) rfl, zin 307 (by decide +kernel) rfl⟩
theorem mtJ0_isLatin1_aae02 : zMtJ mJ0_isLatin1_aae02 0 := ⟨mbJ0_isLatin1_aae02, zin 310 (by decide +kernel) rfl, zin 311 (by decide +kernel) rfl⟩
theorem sJ0_38 : Cond.fieldLink RJ0 38 RJ0 "COMPACT_STRINGS" "Z" ∈ zWS := zin 302 (by decide +kernel) rfl
theorem sJ0_9 : Cond.fieldLink RJ0 9 RJ0 "value" "[B" ∈ zWS := zin 1950 (by decide +kernel) rfl
theorem sJ0_15 : Cond.fieldLink RJ0 15 RJ0 "coder" "B" ∈ zWS := zin 1951 (by decide +kernel) rfl
theorem sJ0_1053 : Cond.fieldLink RJ0 1053 "jdk/internal/util/Preconditions" "SIOOBE_FORMATTER" "Ljava/util/function/BiFunction;" ∈ zWS := zin 319 (by decide +kernel) rfl
section ZTXT
variable {X : ZX} {M M' : ZM} {Q : State → Prop} {pc : Nat} {lv : List (Nat × Value)} {st : List Value} {h : ZH} {n cs sl d RC RS d' mc ms idx na : Nat} {post : Option Value → ZH → Nat → Prop}
/-- a call on a text -/
theorem z_callJ (C : zOk X M d RC RS) {i : Nat} {as rest : List Value} (hi : i < 20) (D : decode M.2.1 pc = .ok (.invokevirtual idx, 3)) (L : Cond.methodLink M.1.cls idx M'.1 ∈ zWS) (F : zMtJ M' na) (hm : ZMet M' d' (.ref i :: as) h n mc ms post) (hs : st = as.reverse ++ .ref i :: rest) (hn : as.length = na) (hd : d' + 1 ≤ d) (hc : (rest.map fun v => v.category).sum ≤ 8) (hf : cs + mc ≤ RC ∧ sl + ms ≤ RS)
    (K : ∀ v h' n', post v h' n' → Zc X M Q (pc + 3) lv (v.toList ++ rest) h' n' (cs + mc) (sl + ms)) : Zc X M Q pc lv st h n cs sl := by
  obtain ⟨p, l, e, R, s, m, args, below, meth, c, G⟩ := X
  obtain ⟨hx, hb, hml, hown, hts, hlk, hret, hw, hdf, hdl, hrc, hrs, hnm⟩ := C
  intro H ls locs hh hS hl
  subst hs
  obtain ⟨⟨g1, g2, g3, g4⟩, g5, g6⟩ := F
  have hrv : ∃ cell : Cell, H[G.2.2.1 i]? = some cell ∧ cell.vm.isStatics = false ∧ s.vm.findClass RJ0 = some cell.cls := by
    obtain ⟨cell, h1, h2, h3, h4⟩ := (hw.2.2.2.2.2.1 i hi).1
    exact ⟨cell, by rw [hS.2.1 _ (Array.getElem?_eq_some_iff.mp h1).1 h4]; exact h1, h2, h3⟩
  refine z_cont (va_runV (As := as.map (zv G.2.2.1)) (rest := rest.map (zv G.2.2.1)) (C := RJ0) (b := G.2.2.1 i) ⟨hx, hb, hml, hown, hts⟩ (hm l G) (bytes := M'.2.1) (maxL := M'.2.2.1) (ret := M'.2.2.2) (n := na) ⟨callB_of na hts (zGood (M := M) g1) rfl rfl rfl (hts _ g2) (hts _ L) g4 ⟨by show d' + 1 ≤ R.frames; omega, by show 8 + (M'.2.2.1 + 11) + 64 * d' ≤ R.locals; omega⟩, hts _ g5, hts _ g6⟩ ⟨zBlind _ _ _ _, hrv, fun U hU hW => ⟨rfl, hw.to hW (by rw [hU]; exact hS.1) (fun q h1 h2 => by rw [hU]; exact hS.2.1 q h1 h2), by rw [hU]; exact hh⟩⟩ rfl (by rw [List.length_map]; exact hn) hl.1 (by show List.map _ _ = _; rw [List.map_append, List.map_reverse]; rfl) (lv_room (by rw [zcat]; exact hc)) D (by show cs + mc ≤ R.cells ∧ sl + ms ≤ R.slots; rw [hrc, hrs]; exact hf)) hS (fun v h' n' H1 locs1 hp hh1 hS1 => ?_)
  have := K v h' n' hp H1 ls locs1 hh1 hS1 hl
  cases v <;> exact this
theorem z_cJ1 (M' : ZM) (C : zOk X M d RC RS) {i : Nat} (as : List Value) {rest : List Value} {w : Value} {h' : ZH} (hi : i < 20) (D : decode M.2.1 pc = .ok (.invokevirtual idx, 3)) (L : Cond.methodLink M.1.cls idx M'.1 ∈ zWS) (F : zMtJ M' na) (hm : ZD M' d' (.ref i :: as) h (some w) h') (hs : st = as.reverse ++ .ref i :: rest) (hn : as.length = na) (hd : d' + 1 ≤ d) (hc : (rest.map fun v => v.category).sum ≤ 8) (h1 : cs ≤ RC) (h2 : sl ≤ RS) (K : Zc X M Q (pc + 3) lv (w :: rest) h' n cs sl) : Zc X M Q pc lv st h n cs sl :=
  z_callJ C hi D L F (hm n) hs hn hd hc ⟨h1, h2⟩ (fun r hh n' hp => by obtain ⟨rfl, rfl, rfl⟩ := hp; exact K)
theorem z_gtC (C : zOk X M d RC RS) (D : decode M.2.1 pc = .ok (.getstatic 38, 3)) (hc : M.1.cls = RJ0) (K : Zc X M Q (pc + 3) lv (.int (zb true) :: st) h n cs sl) : Zc X M Q pc lv st h n cs sl := by
  obtain ⟨p, l, e, R, s, m, args, below, meth, c, G⟩ := X
  obtain ⟨hx, hb, hml, hown, hts, hlk, hret, hw, hdf, hdl, hrc, hrs, hnm⟩ := C
  intro H ls locs hh hS hl
  rw [hc] at hown
  exact va_gets hx hb hw.2.2.2.2.2.2.2.1.1 hS hown (hts _ sJ0_38) (fun _ q => q) D (K H ls locs hh hS hl)
theorem z_gtV (C : zOk X M d RC RS) {i : Nat} (hi : i < 20) (D : decode M.2.1 pc = .ok (.getfield 9, 3)) (hc : M.1.cls = RJ0) (K : Zc X M Q (pc + 3) lv (.ref (100 + i) :: st) h n cs sl) : Zc X M Q pc lv (.ref i :: st) h n cs sl := by
  obtain ⟨p, l, e, R, s, m, args, below, meth, c, G⟩ := X
  obtain ⟨hx, hb, hml, hown, hts, hlk, hret, hw, hdf, hdl, hrc, hrs, hnm⟩ := C
  intro H ls locs hh hS hl
  rw [hc] at hown
  exact vk_getf hx hb (hw.2.2.2.2.2.1 i hi).2.2.1 hS hown (hts _ sJ0_9) (fun _ q => q) D (K H ls locs hh hS hl)
theorem z_gtD (C : zOk X M d RC RS) {i : Nat} (hi : i < 20) (D : decode M.2.1 pc = .ok (.getfield 15, 3)) (hc : M.1.cls = RJ0) (K : Zc X M Q (pc + 3) lv (.int (nI 0) :: st) h n cs sl) : Zc X M Q pc lv (.ref i :: st) h n cs sl := by
  obtain ⟨p, l, e, R, s, m, args, below, meth, c, G⟩ := X
  obtain ⟨hx, hb, hml, hown, hts, hlk, hret, hw, hdf, hdl, hrc, hrs, hnm⟩ := C
  intro H ls locs hh hS hl
  rw [hc] at hown
  exact vk_getf hx hb (hw.2.2.2.2.2.1 i hi).2.1 hS hown (hts _ sJ0_15) (fun _ q => q) D (K H ls locs hh hS hl)
theorem zLen_le : ∀ i, i < 20 → zLen i ≤ 8 ∧ 1 ≤ zLen i := by decide +kernel
theorem zCh_lt : ∀ i, i < 20 → ∀ j, j < zLen i → 97 ≤ zCh i j ∧ zCh i j ≤ 122 := by decide +kernel
theorem z_gtL (C : zOk X M d RC RS) {i : Nat} (hi : i < 20) (D : decode M.2.1 pc = .ok (.arraylength, 1)) (K : Zc X M Q (pc + 1) lv (.int (nI (zLen i)) :: st) h n cs sl) : Zc X M Q pc lv (.ref (100 + i) :: st) h n cs sl := by
  obtain ⟨p, l, e, R, s, m, args, below, meth, c, G⟩ := X
  obtain ⟨hx, hb, hml, hown, hts, hlk, hret, hw, hdf, hdl, hrc, hrs, hnm⟩ := C
  intro H ls locs hh hS hl
  exact va_tlen hx hb (hw.2.2.2.2.2.1 i hi).2.2.2 hS rfl D (K H ls locs hh hS hl)
theorem z_gtB (C : zOk X M d RC RS) {i j : Nat} (hi : i < 20) (hj : j < zLen i) (D : decode M.2.1 pc = .ok (.baload, 1)) (K : Zc X M Q (pc + 1) lv (.int (nI (zCh i j)) :: st) h n cs sl) : Zc X M Q pc lv (.int (nI j) :: .ref (100 + i) :: st) h n cs sl := by
  obtain ⟨p, l, e, R, s, m, args, below, meth, c, G⟩ := X
  obtain ⟨hx, hb, hml, hown, hts, hlk, hret, hw, hdf, hdl, hrc, hrs, hnm⟩ := C
  intro H ls locs hh hS hl
  have hN := zLen_le i hi
  exact va_tb hx hb (hw.2.2.2.2.2.1 i hi).2.2.2 hS (vp_in_nI hj (by omega)) (v := .int (nI (zCh i j))) (by rw [nI_clamp (by omega)]) D (K H ls locs hh hS hl)
end ZTXT
/-- Preconditions.checkIndex, its third argument never looked at -/
theorem jJ3 {h : ZH} {n i k : Nat} (hi : i < k) (hk : k < 2147483648) (x : Value) (hx1 : x.category = 1) (l : Launch) (G : ZG) : Met l mJ3_checkIndex_8e157.1 (Cond.code mJ3_checkIndex_8e157.1 mJ3_checkIndex_8e157.2.1 mJ3_checkIndex_8e157.2.2.1 mJ3_checkIndex_8e157.2.2.2 :: zWS) (zrm 0 0 0) (fun v U => v = ([.int (nI i), .int (nI k), x] : List Value).toArray ∧ zWorld G U U.heap ∧ zHeap G h n U.heap) (zQc G (fun r hh n' => r = some (.int (nI i)) ∧ hh = h ∧ n' = n)) 0 0 (zA G) := by
  refine Met.ofW (cc := mJ3_checkIndex_8e157.2.1) (maxL := mJ3_checkIndex_8e157.2.2.1) (ret := mJ3_checkIndex_8e157.2.2.2) (by decide) rfl ?_
  intro p e s m args below meth c s₁ B hml hP
  obtain ⟨rfl, hw, hh⟩ := hP
  have hts := atoms_spec (ws := Cond.code mJ3_checkIndex_8e157.1 mJ3_checkIndex_8e157.2.1 mJ3_checkIndex_8e157.2.2.1 mJ3_checkIndex_8e157.2.2.2 :: zWS) B.pre
  have hown : s.vm.findClass mJ3_checkIndex_8e157.1.cls = some m.cls := findClass_of_methodNamed B.named
  have C : zOk (p, l, e, (headSpec (Cond.code mJ3_checkIndex_8e157.1 mJ3_checkIndex_8e157.2.1 mJ3_checkIndex_8e157.2.2.1 mJ3_checkIndex_8e157.2.2.2 :: zWS) (zrm 0 0 0)).room, s, m, ([.int (nI i), .int (nI k), x] : List Value).toArray, below, meth, c, G) mJ3_checkIndex_8e157 0 0 0 := ⟨B.exec, B.bytes, hml, hown, fun w hw => hts w (List.mem_cons_of_mem _ hw), B.notSynchronized, B.returns, hw, Nat.le_refl _, Nat.le_refl _, rfl, rfl, (name_of_methodNamed B.named B.method).1⟩
  have K : Zc (p, l, e, (headSpec (Cond.code mJ3_checkIndex_8e157.1 mJ3_checkIndex_8e157.2.1 mJ3_checkIndex_8e157.2.2.1 mJ3_checkIndex_8e157.2.2.2 :: zWS) (zrm 0 0 0)).room, s, m, ([.int (nI i), .int (nI k), x] : List Value).toArray, below, meth, c, G) mJ3_checkIndex_8e157 (zEnd (p, l, e, (headSpec (Cond.code mJ3_checkIndex_8e157.1 mJ3_checkIndex_8e157.2.1 mJ3_checkIndex_8e157.2.2.1 mJ3_checkIndex_8e157.2.2.2 :: zWS) (zrm 0 0 0)).room, s, m, ([.int (nI i), .int (nI k), x] : List Value).toArray, below, meth, c, G) (fun r hh n' => r = some (.int (nI i)) ∧ hh = h ∧ n' = n) 0 0) 0 [(0, .int (nI i)), (1, .int (nI k))] [] h n 0 0 := by
    refine z_iload_n (pc := 0) C dJ3_checkIndex_8e157_0 0 rfl ?_
    refine z_ifltN (pc := 1) C 9 dJ3_checkIndex_8e157_1 (by decide) (by omega) (fun hc1 => hc1.elim) (fun _ => ?_)
    refine z_iload_n (pc := 4) C dJ3_checkIndex_8e157_4 0 rfl ?_
    refine z_iload_n (pc := 5) C dJ3_checkIndex_8e157_5 1 rfl ?_
    refine z_icmpltN (pc := 6) C 16 dJ3_checkIndex_8e157_6 (by decide) (by omega) (by omega) (fun hc6 => ?_) (fun hc6 => absurd hi (by omega))
    refine z_iload_n (pc := 16) C dJ3_checkIndex_8e157_16 0 rfl ?_
    exact z_iret (pc := 17) C dJ3_checkIndex_8e157_17 rfl (Nat.zero_le _) (Nat.zero_le _) ⟨rfl, rfl, rfl⟩
  have hl := lv_entry ([.int (nI i), .int (nI k), x] : List Value) (n := mJ3_checkIndex_8e157.2.2.1) (by simp only [lg_sl, List.flatMap_cons, List.flatMap_nil, hx1]; exact Nat.le_of_ble_eq_true rfl)
  rw [lg_entry_eq]
  generalize (lg_sl ([.int (nI i), .int (nI k), x] : List Value) ++ List.replicate (mJ3_checkIndex_8e157.2.2.1 - (lg_sl ([.int (nI i), .int (nI k), x] : List Value)).length) Slot.unset).toArray = ls at hl ⊢
  exact K s.heap ls [] hh va_S.rf (lv_sub hl [0, 1] (by simp [lv_pick, lv_args, zv]; exact fun q => absurd (show 1 = 2 from q) (by decide)))
theorem tJ0_checkIndex_df160 {h : ZH} {i k : Nat} (hi : i < k) (hk : k < 2147483648) : ZD mJ0_checkIndex_df160 1 [.int (nI i), .int (nI k)] h none h := by
  intro n
  refine z_enter (lv := [(0, _), (1, _)]) (by decide) (Nat.le_of_ble_eq_true rfl) rfl (fun X C => ?_)
  refine z_iload_n (pc := 0) C dJ0_checkIndex_df160_0 0 rfl ?_
  refine z_iload_n (pc := 1) C dJ0_checkIndex_df160_1 1 rfl ?_
  have K8 : Zc X mJ0_checkIndex_df160 (zEnd X (fun r hh n' => r = none ∧ hh = h ∧ n' = n) 0 0) 8 [(0, .int (nI i)), (1, .int (nI k))] [.int (nI i)] h n 0 0 := by
    refine z_pop (pc := 8) C dJ0_checkIndex_df160_8 rfl ?_
    exact z_vret (pc := 9) C dJ0_checkIndex_df160_9 rfl (Nat.zero_le _) (Nat.zero_le _) ⟨rfl, rfl, rfl⟩
  obtain ⟨p, l, e, R, s, m, args, below, meth, c, G⟩ := X
  obtain ⟨hx, hb, hml, hown, hts, hlk, hret, hw, hdf, hdl, hrc, hrs, hnm⟩ := C
  intro H ls locs hh hS hl
  obtain ⟨⟨g1, g2, g3, g4⟩, g5⟩ := mtJ3_checkIndex_8e157
  have key : ∀ x : Value, x.category = 1 → va_Z "jdk/internal/util/Preconditions" "SIOOBE_FORMATTER" "Ljava/util/function/BiFunction;" x (zA G) s s.heap → W p l e R s m args below meth c H locs 0 0 (zEnd (p, l, e, R, s, m, args, below, meth, c, G) (fun r hh n' => r = none ∧ hh = h ∧ n' = n) 0 0) (F0 m 2 ls [.int (nI k), .int (nI i)]) := by
    intro x hx1 hZ
    refine va_gets hx hb hZ hS hown (hts _ sJ0_1053) (fun _ q => q) dJ0_checkIndex_df160_2 ?_
    refine z_cont (va_runS (As := [.int (nI i), .int (nI k), x]) (rest := []) ⟨hx, hb, hml, hown, hts⟩ (jJ3 (h := h) (n := n) hi hk x hx1 l G) (bytes := mJ3_checkIndex_8e157.2.1) (maxL := mJ3_checkIndex_8e157.2.2.1) (ret := mJ3_checkIndex_8e157.2.2.2) (n := 3) ⟨callB_of 3 hts (zGood (M := mJ0_checkIndex_df160) g1) rfl rfl rfl (hts _ g2) (hts _ lJ0_1059) g4 ⟨by show 0 + 1 ≤ R.frames; omega, by show 8 + (mJ3_checkIndex_8e157.2.2.1 + 11) + 64 * 0 ≤ R.locals; have : mJ3_checkIndex_8e157.2.2.1 = 3 := rfl; omega⟩, hts _ g5⟩ ⟨?_, fun U hU hW => ⟨rfl, hw.to hW (by rw [hU]; exact hS.1) (fun q h1 h2 => by rw [hU]; exact hS.2.1 q h1 h2), by rw [hU]; exact hh⟩⟩ rfl rfl hl.1 rfl (lv_room (by decide)) dJ0_checkIndex_df160_5 (by show 0 + 0 ≤ R.cells ∧ 0 + 0 ≤ R.slots; omega)) hS (fun v h' n' H1 locs1 hp hh1 hS1 => ?_)
    · intro a U g mk q
      obtain ⟨q1, q2, q3⟩ := q
      exact ⟨q1, q2.to (State.WarmedH.refl U) (Nat.le_refl _) (fun _ _ _ => rfl), q3⟩
    · obtain ⟨rfl, rfl, rfl⟩ := hp
      exact K8 H1 ls locs1 hh1 hS1 hl
  rcases hw.2.2.2.2.2.2.2.1.2.1 with hz | ⟨t, hz⟩
  · exact key .null rfl hz
  · exact key (.ref t) rfl hz
theorem tJ0_coder_7d493 {h : ZH} {i : Nat} (hi : i < 20) : ZD mJ0_coder_7d493 0 [.ref i] h (some (.int (nI 0))) h := by
  intro n
  refine z_enter (lv := [(0, _)]) (by decide) (Nat.le_of_ble_eq_true rfl) rfl (fun X C => ?_)
  refine z_gtC (pc := 0) C dJ0_coder_7d493_0 rfl ?_
  refine z_ifeqB (pc := 3) C 13 dJ0_coder_7d493_3 (by decide) (fun q => by cases q) (fun _ => ?_)
  refine z_aload_n (pc := 6) C dJ0_coder_7d493_6 0 rfl ?_
  refine z_gtD (pc := 7) C hi dJ0_coder_7d493_7 rfl ?_
  refine z_goto (pc := 10) C 14 dJ0_coder_7d493_10 (by decide) ?_
  exact z_zret (pc := 14) C dJ0_coder_7d493_14 rfl rfl (Nat.zero_le _) (Nat.zero_le _) ⟨rfl, rfl, rfl⟩
theorem tJ0_isLatin1_aae02 {h : ZH} {i : Nat} (hi : i < 20) : ZD mJ0_isLatin1_aae02 0 [.ref i] h (some (.int (zb true))) h := by
  intro n
  refine z_enter (lv := [(0, _)]) (by decide) (Nat.le_of_ble_eq_true rfl) rfl (fun X C => ?_)
  refine z_gtC (pc := 0) C dJ0_isLatin1_aae02_0 rfl ?_
  refine z_ifeqB (pc := 3) C 17 dJ0_isLatin1_aae02_3 (by decide) (fun q => by cases q) (fun _ => ?_)
  refine z_aload_n (pc := 6) C dJ0_isLatin1_aae02_6 0 rfl ?_
  refine z_gtD (pc := 7) C hi dJ0_isLatin1_aae02_7 rfl ?_
  refine z_ifneN (pc := 10) C 17 dJ0_isLatin1_aae02_10 (by decide) (by decide) (fun q => absurd q (by decide)) (fun _ => ?_)
  refine z_iconst (pc := 13) C dJ0_isLatin1_aae02_13 (zb true) (by decide) ?_
  refine z_goto (pc := 14) C 18 dJ0_isLatin1_aae02_14 (by decide) ?_
  exact z_zret (pc := 18) C dJ0_isLatin1_aae02_18 rfl (zb_nar _) (Nat.zero_le _) (Nat.zero_le _) ⟨rfl, rfl, rfl⟩
theorem tJ0_length_8abf5 {h : ZH} {i : Nat} (hi : i < 20) : ZD mJ0_length_8abf5 1 [.ref i] h (some (.int (nI (zLen i)))) h := by
  intro n
  have e := zLen_le i hi
  refine z_enter (lv := [(0, _)]) (by decide) (Nat.le_of_ble_eq_true rfl) rfl (fun X C => ?_)
  refine z_aload_n (pc := 0) C dJ0_length_8abf5_0 0 rfl ?_
  refine z_gtV (pc := 1) C hi dJ0_length_8abf5_1 rfl ?_
  refine z_gtL (pc := 4) C hi dJ0_length_8abf5_4 ?_
  refine z_aload_n (pc := 5) C dJ0_length_8abf5_5 0 rfl ?_
  refine z_cJ1 (pc := 6) mJ0_coder_7d493 C [] hi dJ0_length_8abf5_6 lJ0_335 mtJ0_coder_7d493 (tJ0_coder_7d493 hi) rfl rfl (by decide) (Nat.le_of_ble_eq_true rfl) (Nat.zero_le _) (Nat.zero_le _) ?_
  refine z_ishrN (pc := 9) C dJ0_length_8abf5_9 (by omega) (by omega) ?_
  exact z_iret (pc := 10) C dJ0_length_8abf5_10 rfl (Nat.zero_le _) (Nat.zero_le _) ⟨rfl, rfl, rfl⟩
theorem c255 : ∀ a : Fin 128, ((nI (a.val &&& 255)).toUInt32 % 65536).toInt32 = nI a.val := by decide +kernel
theorem nar_c : ∀ a : Fin 128, narrow .char (.int (nI a.val)) = .int (nI a.val) := by decide +kernel
theorem tJ1_charAt_3b067 {h : ZH} {i j : Nat} (hi : i < 20) (hj : j < zLen i) : ZD mJ1_charAt_3b067 2 [.ref (100 + i), .int (nI j)] h (some (.int (nI (zCh i j)))) h := by
  intro n
  have e := zLen_le i hi
  have e2 := zCh_lt i hi j hj
  refine z_enter (lv := [(0, _), (1, _)]) (by decide) (Nat.le_of_ble_eq_true rfl) rfl (fun X C => ?_)
  refine z_iload_n (pc := 0) C dJ1_charAt_3b067_0 1 rfl ?_
  refine z_aload_n (pc := 1) C dJ1_charAt_3b067_1 0 rfl ?_
  refine z_gtL (pc := 2) C hi dJ1_charAt_3b067_2 ?_
  refine z_cS0 (pc := 3) mJ0_checkIndex_df160 C [_, _] dJ1_charAt_3b067_3 lJ1_9 mtJ0_checkIndex_df160 (tJ0_checkIndex_df160 hj (by omega)) rfl rfl (by decide) (Nat.le_of_ble_eq_true rfl) (Nat.zero_le _) (Nat.zero_le _) ?_
  refine z_aload_n (pc := 6) C dJ1_charAt_3b067_6 0 rfl ?_
  refine z_iload_n (pc := 7) C dJ1_charAt_3b067_7 1 rfl ?_
  refine z_gtB (pc := 8) C hi hj dJ1_charAt_3b067_8 ?_
  refine z_sipush (pc := 9) C dJ1_charAt_3b067_9 (nI 255) (by decide) ?_
  refine z_iandN (pc := 12) C dJ1_charAt_3b067_12 ?_
  refine z_i2c (pc := 13) C dJ1_charAt_3b067_13 ?_
  refine z_top (c255 ⟨zCh i j, by omega⟩) ?_
  exact z_zret (pc := 14) C dJ1_charAt_3b067_14 rfl (nar_c ⟨zCh i j, by omega⟩) (Nat.zero_le _) (Nat.zero_le _) ⟨rfl, rfl, rfl⟩
theorem tJ0_charAt_5068e {h : ZH} {i j : Nat} (hi : i < 20) (hj : j < zLen i) : ZD mJ0_charAt_5068e 3 [.ref i, .int (nI j)] h (some (.int (nI (zCh i j)))) h := by
  intro n
  have e2 := zCh_lt i hi j hj
  refine z_enter (lv := [(0, _), (1, _)]) (by decide) (Nat.le_of_ble_eq_true rfl) rfl (fun X C => ?_)
  refine z_aload_n (pc := 0) C dJ0_charAt_5068e_0 0 rfl ?_
  refine z_cJ1 (pc := 1) mJ0_isLatin1_aae02 C [] hi dJ0_charAt_5068e_1 lJ0_492 mtJ0_isLatin1_aae02 (tJ0_isLatin1_aae02 hi) rfl rfl (by decide) (Nat.le_of_ble_eq_true rfl) (Nat.zero_le _) (Nat.zero_le _) ?_
  refine z_ifeqB (pc := 4) C 16 dJ0_charAt_5068e_4 (by decide) (fun q => by cases q) (fun _ => ?_)
  refine z_aload_n (pc := 7) C dJ0_charAt_5068e_7 0 rfl ?_
  refine z_gtV (pc := 8) C hi dJ0_charAt_5068e_8 rfl ?_
  refine z_iload_n (pc := 11) C dJ0_charAt_5068e_11 1 rfl ?_
  refine z_cS1 (pc := 12) mJ1_charAt_3b067 C [_, _] dJ0_charAt_5068e_12 lJ0_495 mtJ1_charAt_3b067 (tJ1_charAt_3b067 hi hj) rfl rfl (by decide) (Nat.le_of_ble_eq_true rfl) (Nat.zero_le _) (Nat.zero_le _) ?_
  exact z_zret (pc := 15) C dJ0_charAt_5068e_15 rfl (nar_c ⟨zCh i j, by omega⟩) (Nat.zero_le _) (Nat.zero_le _) ⟨rfl, rfl, rfl⟩
