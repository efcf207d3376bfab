abbrev gvL : List Cond := flatC (Jvm.Cond.and given_1 narrow_1)
def tmX (i : Nat) : Term := .string RX4 (([224, 226, 228, 230, 232, 234, 236, 238, 134, 155, 160, 162, 240, 242, 244, 246, 181, 190, 192, 194] : List Nat).getD i 0)
theorem gv_ex : ∀ i, i < 20 → Cond.exactly (tmX i) "java/lang/String" ∈ gvL := by decide +kernel
theorem gv_co : ∀ i, i < 20 → Cond.eq (.field (tmX i) "java/lang/String" "coder" "B") (.int 0) ∈ gvL := by decide +kernel
theorem gv_ar : ∀ i, i < 20 → Cond.arrayOf (.field (tmX i) "java/lang/String" "value" "[B") .byte ∈ gvL := by decide +kernel
theorem gv_le : ∀ i, i < 20 → Cond.eq (.length (.field (tmX i) "java/lang/String" "value" "[B")) (.int (Int32.ofNat (zLen i))) ∈ gvL := by decide +kernel
theorem gv_el : ∀ i, i < 20 → ∀ j, j < zLen i → Cond.eq (.elem (.field (tmX i) "java/lang/String" "value" "[B") (.int (Int32.ofNat j))) (.int (nI (zCh i j))) ∈ gvL := by decide +kernel
theorem gv_e20 : Cond.exactly (.string RX11 382) "java/lang/String" ∈ gvL := by decide +kernel
theorem gv_pr : ∀ q ∈ ([(224, 125), (134, 217), (226, 127), (228, 128), (230, 130), (236, 132), (232, 134), (238, 136), (234, 138), (155, 227), (160, 229), (162, 231), (240, 240), (242, 242), (244, 244), (246, 246), (181, 248), (190, 256), (192, 258), (194, 260)] : List (Nat × Nat)), Cond.eq (.string RX4 q.1) (.string RX12 q.2) ∈ gvL := by decide +kernel
theorem gv_sa : ∀ i, i < 4 → Cond.arrayOf (.static RX11 (zStN i) "[I") .int ∈ gvL := by decide +kernel
theorem gv_sl : ∀ i, i < 4 → Cond.eq (.length (.static RX11 (zStN i) "[I")) (.int (Int32.ofNat (zStL i))) ∈ gvL := by decide +kernel
theorem gv_se : ∀ i, i < 4 → ∀ j, j < zStL i → Cond.eq (.elem (.static RX11 (zStN i) "[I") (.int (Int32.ofNat j))) (.int (nI (zSt i j))) ∈ gvL := by decide +kernel
theorem gv_cs : Cond.eq (.static "java/lang/String" "COMPACT_STRINGS" "Z") (.int 1) ∈ gvL := by decide +kernel
theorem gv_sf : Cond.isRef (.static "jdk/internal/util/Preconditions" "SIOOBE_FORMATTER" "Ljava/util/function/BiFunction;") ∈ gvL := by decide +kernel
theorem gv_us : Cond.isRef (.static Bundle.tN "UNASSIGNED_STACK" Bundle.steD) ∈ gvL := by decide +kernel
theorem gv_su : Cond.isRef (.static Bundle.tN "SUPPRESSED_SENTINEL" Bundle.listD) ∈ gvL := by decide +kernel
theorem tb_in {ws : List Cond} (is : List Nat) (h : is.map (fun i => lw_tbl[i]?) = ws.map some) : ∀ w ∈ ws, w ∈ lw_tbl := by
  intro w hw
  have h1 : some w ∈ is.map (fun i => lw_tbl[i]?) := by rw [h]; exact List.mem_map.mpr ⟨w, hw, rfl⟩
  obtain ⟨i, -, hi⟩ := List.mem_map.mp h1
  exact List.mem_of_getElem? hi
theorem tb_sr : ∀ w ∈ zSR.map (fun q => Cond.stringRef q.1 q.2.1 q.2.2.1), w ∈ lw_tbl := tb_in [283, 284, 285, 286, 287, 288, 289, 290, 531, 555, 556, 557, 584, 585, 586, 587, 588, 597, 598, 599, 1264, 1437, 1452, 1465, 1486, 1487, 1488, 1489, 1490, 1491, 1496, 1497, 1498, 1522, 1523, 1524, 1525, 1526, 1546, 1547, 1548] (by decide +kernel)
theorem tb_nw : ∀ w ∈ zNW, w ∈ lw_tbl := tb_in [145, 184, 374, 380, 396, 406, 430, 520, 570, 667, 693, 695, 732, 805, 880, 909, 922, 978] (by decide +kernel)
theorem tb_no : ∀ w ∈ zNW, w.onTables = true := List.all_eq_true.mp (by decide +kernel)
theorem tb_ls : ∀ i, i < 4 → Cond.laysStatic RX11 (zStN i) "[I" ∈ lw_tbl := by
  intro i hi
  obtain rfl | rfl | rfl | rfl : i = 0 ∨ i = 1 ∨ i = 2 ∨ i = 3 := by omega
  · exact List.mem_of_getElem? (i := 521) (by decide +kernel)
  · exact List.mem_of_getElem? (i := 694) (by decide +kernel)
  · exact List.mem_of_getElem? (i := 696) (by decide +kernel)
  · exact List.mem_of_getElem? (i := 870) (by decide +kernel)
theorem tb_cs : Cond.laysStatic "java/lang/String" "COMPACT_STRINGS" "Z" ∈ lw_tbl := List.mem_of_getElem? (i := 303) (by decide +kernel)
theorem tb_sf : Cond.laysStatic "jdk/internal/util/Preconditions" "SIOOBE_FORMATTER" "Ljava/util/function/BiFunction;" ∈ lw_tbl := List.mem_of_getElem? (i := 320) (by decide +kernel)
theorem tb_us : Cond.laysStatic Bundle.tN "UNASSIGNED_STACK" Bundle.steD ∈ lw_tbl := List.mem_of_getElem? (i := 1252) (by decide +kernel)
theorem tb_su : Cond.laysStatic Bundle.tN "SUPPRESSED_SENTINEL" Bundle.listD ∈ lw_tbl := List.mem_of_getElem? (i := 1254) (by decide +kernel)
theorem tb_ao : Cond.arrayOver (.object RX5) ∈ lw_tbl := List.mem_of_getElem? (i := 428) (by decide +kernel)
theorem tb_is : Cond.initialized "java/lang/String" ∈ lw_tbl := List.mem_of_getElem? (i := 110) (by decide +kernel)
theorem tb_ip : Cond.initialized "jdk/internal/util/Preconditions" ∈ lw_tbl := List.mem_of_getElem? (i := 112) (by decide +kernel)
theorem tb_it : Cond.initialized Bundle.tN ∈ lw_tbl := List.mem_of_getElem? (i := 125) (by decide +kernel)
theorem tb_ik : Cond.initialized RX11 ∈ lw_tbl := List.mem_of_getElem? (i := 105) (by decide +kernel)
theorem tb_wd : ∀ w ∈ yxB, w ∈ lw_tbl := tb_in [1229, 1231, 1233, 1227] (by decide +kernel)

set_option maxHeartbeats 1000000 in
theorem lw_world {b : Nat} {s : State} (hts : ∀ w ∈ lw_tbl, w.before #[Value.ref b] s = true) (hgv : (Jvm.Cond.and given_1 narrow_1).before #[Value.ref b] s = true) (hb : b < s.heap.size) : ∃ G : ZG, zWorld G s s.heap ∧ G.2.2.1 999 = b ∧ G.2.2.2 = s.heap.size := by
  have hq := flat_of_before _ hgv
  have hzw : ∀ w ∈ zWS, w.before #[Value.ref b] s = true := fun w hw => hts w (List.mem_filter.mp hw).1
  have hA : ∀ a : Nat, a < s.heap.size → ¬ s.heap.size ≤ a := fun a h1 h2 => by omega
  have hcl : ∀ c : Nat, ∃ D : ClassId × (Nat → Nat), ∀ q, vwCl[c]? = some q → u_Kn s q.1 q.2.1 q.2.2 D.1 D.2 := by
    intro c
    obtain rfl | rfl | rfl | rfl | rfl | rfl | rfl | rfl | rfl | h9 : c = 0 ∨ c = 1 ∨ c = 2 ∨ c = 3 ∨ c = 4 ∨ c = 5 ∨ c = 6 ∨ c = 7 ∨ c = 8 ∨ 9 ≤ c := by omega
    · obtain ⟨x, y, z⟩ := u_known (C := RX1) (T := TX1) hzw inRX1 (hzw _ ciRX1)
      exact ⟨(x, y), fun q e => by cases e; exact z⟩
    · obtain ⟨x, y, z⟩ := u_known (C := RX3) (T := TX3) hzw inRX3 (hzw _ ciRX3)
      exact ⟨(x, y), fun q e => by cases e; exact z⟩
    · obtain ⟨x, y, z⟩ := u_known (C := RX4) (T := TX4) hzw inRX4 (hzw _ ciRX4)
      exact ⟨(x, y), fun q e => by cases e; exact z⟩
    · obtain ⟨x, y, z⟩ := u_known (C := RX5) (T := TX5) hzw inRX5 (hzw _ ciRX5)
      exact ⟨(x, y), fun q e => by cases e; exact z⟩
    · obtain ⟨x, y, z⟩ := u_known (C := RX7) (T := TX7) hzw inRX7 (hzw _ ciRX7)
      exact ⟨(x, y), fun q e => by cases e; exact z⟩
    · obtain ⟨x, y, z⟩ := u_known (C := RX8) (T := TX8) hzw inRX8 (hzw _ ciRX8)
      exact ⟨(x, y), fun q e => by cases e; exact z⟩
    · obtain ⟨x, y, z⟩ := u_known (C := RX9) (T := TX9) hzw inRX9 (hzw _ ciRX9)
      exact ⟨(x, y), fun q e => by cases e; exact z⟩
    · obtain ⟨x, y, z⟩ := u_known (C := RX11) (T := TX11) hzw inRX11 (hzw _ ciRX11)
      exact ⟨(x, y), fun q e => by cases e; exact z⟩
    · obtain ⟨x, y, z⟩ := u_known (C := RX12) (T := TX12) hzw inRX12 (hzw _ ciRX12)
      exact ⟨(x, y), fun q e => by cases e; exact z⟩
    · refine ⟨(0, fun _ => 0), fun q e => ?_⟩
      rw [List.getElem?_eq_none (show vwCl.length ≤ c from h9)] at e
      cases e
  obtain ⟨cl, hcl⟩ := Classical.axiomOfChoice hcl
  obtain ⟨c0, k0, p0, f0, g0, d0⟩ := Cond.arrayClass_spec (hzw _ ac_int)
  obtain ⟨c1, k1, p1, f1, g1, d1⟩ := Cond.arrayClass_spec (hzw _ ac_long)
  obtain ⟨p2, c2, k2, m2, -, g2, d2, f2⟩ := Cond.arrayOver_spec (hts _ tb_ao)
  have h1 : ∀ i : Nat, ∃ q : Nat × Nat, i < 20 → (tmX i).eval #[Value.ref b] s none [] s = some (.ref q.1) ∧ va_O "java/lang/String" q.1 (fun q => s.heap.size ≤ q) s s.heap ∧ va_OF "java/lang/String" "coder" "B" (.int 0) q.1 (fun q => s.heap.size ≤ q) s s.heap ∧ va_OF "java/lang/String" "value" "[B" (.ref q.2) q.1 (fun q => s.heap.size ≤ q) s s.heap ∧ va_T .byte q.2 (zLen i) (fun j => .int (nI (zCh i j))) (fun q => s.heap.size ≤ q) s s.heap := by
    intro i
    by_cases hi : i < 20
    · obtain ⟨a, c, cA, kA, q1, q2, q3, q4, q5, q6, -⟩ := Cond.exactly_spec (args := #[Value.ref b]) (first := s) (o := none) (s := s) (idx := []) (t := tmX i) (cls := "java/lang/String") (hq _ (gv_ex i hi))
      obtain ⟨t, ht, hT⟩ := va_Tof (f := fun j => .int (nI (zCh i j))) (A := fun q => s.heap.size ≤ q) (N := zLen i) (by have := zLen_le i hi; omega) (hq _ (gv_ar i hi)) (va_eqt (hq _ (gv_le i hi))) (fun j hj => va_eqt (hq _ (gv_el i hi j hj))) hA
      exact ⟨(a, t), fun _ => ⟨q1, ⟨cA, q3, q5, by rw [q6]; exact q2, hA a (Array.getElem?_eq_some_iff.mp q3).1⟩, vk_OFof q1 (va_eqt (hq _ (gv_co i hi))) hA, vk_OFof q1 ht hA, hT⟩⟩
    · exact ⟨(0, 0), fun h => absurd h hi⟩
  obtain ⟨ad, had⟩ := Classical.axiomOfChoice h1
  obtain ⟨x20, -, cA20, -, q20, -, r20, -, -, -, -⟩ := Cond.exactly_spec (args := #[Value.ref b]) (first := s) (o := none) (s := s) (idx := []) (t := .string RX11 382) (cls := "java/lang/String") (hq _ gv_e20)
  have h2 : ∀ i : Nat, ∃ t : Nat, i < 4 → (Term.static RX11 (zStN i) "[I").eval #[Value.ref b] s none [] s = some (.ref t) ∧ va_T .int t (zStL i) (fun j => .int (nI (zSt i j))) (fun q => s.heap.size ≤ q) s s.heap := by
    intro i
    by_cases hi : i < 4
    · obtain ⟨t, ht, hT⟩ := va_Tof (f := fun j => .int (nI (zSt i j))) (A := fun q => s.heap.size ≤ q) (N := zStL i) (by obtain rfl | rfl | rfl | rfl : i = 0 ∨ i = 1 ∨ i = 2 ∨ i = 3 := (by omega); all_goals decide) (hq _ (gv_sa i hi)) (va_eqt (hq _ (gv_sl i hi))) (fun j hj => va_eqt (hq _ (gv_se i hi j hj))) hA
      exact ⟨t, fun _ => ⟨ht, hT⟩⟩
    · exact ⟨0, fun h => absurd h hi⟩
  obtain ⟨sr, hsr⟩ := Classical.axiomOfChoice h2
  obtain ⟨am, a0, a1, a2, a3, a20, a99, alt⟩ : ∃ am : Nat → Nat, (∀ a, 1000 ≤ a → am a = s.heap.size + (a - 1000)) ∧ (∀ i, i < 20 → am i = (ad i).1) ∧ (∀ i, i < 20 → am (100 + i) = (ad i).2) ∧ (∀ i, i < 4 → am (900 + i) = sr i) ∧ am 20 = x20 ∧ am 999 = b ∧ ∀ a, a < 1000 → am a < s.heap.size := by
    refine ⟨fun a => if 1000 ≤ a then s.heap.size + (a - 1000) else if a < 20 then (ad a).1 else if a = 20 then x20 else if 100 ≤ a ∧ a < 120 then (ad (a - 100)).2 else if 900 ≤ a ∧ a < 904 then sr (a - 900) else b, fun a h => if_pos h, fun i hi => ?_, fun i hi => ?_, fun i hi => ?_, rfl, rfl, fun a ha => ?_⟩
    · show (if 1000 ≤ i then _ else _) = _
      rw [if_neg (by omega), if_pos hi]
    · show (if 1000 ≤ 100 + i then _ else _) = _
      rw [if_neg (by omega), if_neg (by omega), if_neg (by omega), if_pos (by omega), Nat.add_sub_cancel_left]
    · show (if 1000 ≤ 900 + i then _ else _) = _
      rw [if_neg (by omega), if_neg (by omega), if_neg (by omega), if_neg (by omega), if_pos (by omega), Nat.add_sub_cancel_left]
    · show (if 1000 ≤ a then _ else _) < _
      rw [if_neg (by omega)]
      split
      · rename_i q
        obtain ⟨cell, hc, -⟩ := (had a q).2.1
        exact (Array.getElem?_eq_some_iff.mp hc).1
      · split
        · exact (Array.getElem?_eq_some_iff.mp r20).1
        · split
          · rename_i q
            obtain ⟨cell, hc, -⟩ := (had (a - 100) (by omega)).2.2.2.2
            exact (Array.getElem?_eq_some_iff.mp hc).1
          · split
            · rename_i q
              obtain ⟨cell, hc, -⟩ := (hsr (a - 900) (by omega)).2
              exact (Array.getElem?_eq_some_iff.mp hc).1
            · exact hb
  refine ⟨((fun c => (cl c).1, fun c => (cl c).2), (fun k => if k = 0 then c0 else if k = 1 then c1 else c2), am, s.heap.size), ⟨⟨fun c q hc => hcl c q hc, fun k q hk => ?_⟩, ⟨a0, alt⟩, Nat.le_refl _, ⟨fun w hw => va_Nw.of (tb_no w hw) (hts w (tb_nw w hw)), fun q hqz => ?_, fun i hi => ?_, fun i hi => ?_, ⟨va_Zof (hts _ tb_cs) (hts _ tb_is) (va_eqt (hq _ gv_cs)) hA, va_Zqof (hts _ tb_sf) (hts _ tb_ip) (hq _ gv_sf) hA, vx_Zqof (hts _ tb_us) (hts _ tb_it) (hq _ gv_us) hA, vx_Zqof (hts _ tb_su) (hts _ tb_it) (hq _ gv_su) hA⟩, va_AO.of (hts _ tb_ao)⟩⟩, a99, rfl⟩
  · obtain rfl | rfl | rfl | h3 : k = 0 ∨ k = 1 ∨ k = 2 ∨ 3 ≤ k := by omega
    · cases hk
      exact ⟨fun n z => ⟨fun k h => (by cases h), k0, g0, p0, d0⟩, f0⟩
    · cases hk
      exact ⟨fun n z => ⟨fun k h => (by cases h), k1, g1, p1, d1⟩, f1⟩
    · cases hk
      exact ⟨fun n z => ⟨fun k h => (by cases h), k2, g2, p2, d2⟩, k2, p2, g2, d2, m2, f2⟩
    · rw [List.getElem?_eq_none (by exact h3)] at hk
      cases hk
  · refine vk_R.of (hts _ (tb_sr _ (List.mem_map.mpr ⟨q, hqz, rfl⟩))) ?_
    show (Term.string q.1 q.2.1).eval #[Value.ref b] s none [] s = some (.ref (am q.2.2.2))
    simp only [zSR, List.mem_cons, List.not_mem_nil, or_false] at hqz
    rcases hqz with rfl | rfl | rfl | rfl | rfl | rfl | rfl | rfl | rfl | rfl | rfl | rfl | rfl | rfl | rfl | rfl | rfl | rfl | rfl | rfl | rfl | rfl | rfl | rfl | rfl | rfl | rfl | rfl | rfl | rfl | rfl | rfl | rfl | rfl | rfl | rfl | rfl | rfl | rfl | rfl | rfl
    · rw [a1 0 (by decide)]; exact (had 0 (by decide)).1
    · rw [a1 1 (by decide)]; exact (had 1 (by decide)).1
    · rw [a1 2 (by decide)]; exact (had 2 (by decide)).1
    · rw [a1 3 (by decide)]; exact (had 3 (by decide)).1
    · rw [a1 4 (by decide)]; exact (had 4 (by decide)).1
    · rw [a1 5 (by decide)]; exact (had 5 (by decide)).1
    · rw [a1 6 (by decide)]; exact (had 6 (by decide)).1
    · rw [a1 7 (by decide)]; exact (had 7 (by decide)).1
    · rw [a1 8 (by decide)]; exact (had 8 (by decide)).1
    · rw [a1 9 (by decide)]; exact (had 9 (by decide)).1
    · rw [a1 10 (by decide)]; exact (had 10 (by decide)).1
    · rw [a1 11 (by decide)]; exact (had 11 (by decide)).1
    · rw [a1 12 (by decide)]; exact (had 12 (by decide)).1
    · rw [a1 13 (by decide)]; exact (had 13 (by decide)).1
    · rw [a1 14 (by decide)]; exact (had 14 (by decide)).1
    · rw [a1 15 (by decide)]; exact (had 15 (by decide)).1
    · rw [a1 16 (by decide)]; exact (had 16 (by decide)).1
    · rw [a1 17 (by decide)]; exact (had 17 (by decide)).1
    · rw [a1 18 (by decide)]; exact (had 18 (by decide)).1
    · rw [a1 19 (by decide)]; exact (had 19 (by decide)).1
    · rw [a20]; exact q20
    · rw [a1 0 (by decide)]
      obtain ⟨y, z1, z2⟩ := Cond.eq_one (hq _ (gv_pr (224, 125) (by decide)))
      have z3 := (had 0 (by decide)).1.symm.trans z1
      cases z3
      exact z2
    · rw [a1 8 (by decide)]
      obtain ⟨y, z1, z2⟩ := Cond.eq_one (hq _ (gv_pr (134, 217) (by decide)))
      have z3 := (had 8 (by decide)).1.symm.trans z1
      cases z3
      exact z2
    · rw [a1 1 (by decide)]
      obtain ⟨y, z1, z2⟩ := Cond.eq_one (hq _ (gv_pr (226, 127) (by decide)))
      have z3 := (had 1 (by decide)).1.symm.trans z1
      cases z3
      exact z2
    · rw [a1 2 (by decide)]
      obtain ⟨y, z1, z2⟩ := Cond.eq_one (hq _ (gv_pr (228, 128) (by decide)))
      have z3 := (had 2 (by decide)).1.symm.trans z1
      cases z3
      exact z2
    · rw [a1 3 (by decide)]
      obtain ⟨y, z1, z2⟩ := Cond.eq_one (hq _ (gv_pr (230, 130) (by decide)))
      have z3 := (had 3 (by decide)).1.symm.trans z1
      cases z3
      exact z2
    · rw [a1 6 (by decide)]
      obtain ⟨y, z1, z2⟩ := Cond.eq_one (hq _ (gv_pr (236, 132) (by decide)))
      have z3 := (had 6 (by decide)).1.symm.trans z1
      cases z3
      exact z2
    · rw [a1 4 (by decide)]
      obtain ⟨y, z1, z2⟩ := Cond.eq_one (hq _ (gv_pr (232, 134) (by decide)))
      have z3 := (had 4 (by decide)).1.symm.trans z1
      cases z3
      exact z2
    · rw [a1 7 (by decide)]
      obtain ⟨y, z1, z2⟩ := Cond.eq_one (hq _ (gv_pr (238, 136) (by decide)))
      have z3 := (had 7 (by decide)).1.symm.trans z1
      cases z3
      exact z2
    · rw [a1 5 (by decide)]
      obtain ⟨y, z1, z2⟩ := Cond.eq_one (hq _ (gv_pr (234, 138) (by decide)))
      have z3 := (had 5 (by decide)).1.symm.trans z1
      cases z3
      exact z2
    · rw [a1 9 (by decide)]
      obtain ⟨y, z1, z2⟩ := Cond.eq_one (hq _ (gv_pr (155, 227) (by decide)))
      have z3 := (had 9 (by decide)).1.symm.trans z1
      cases z3
      exact z2
    · rw [a1 10 (by decide)]
      obtain ⟨y, z1, z2⟩ := Cond.eq_one (hq _ (gv_pr (160, 229) (by decide)))
      have z3 := (had 10 (by decide)).1.symm.trans z1
      cases z3
      exact z2
    · rw [a1 11 (by decide)]
      obtain ⟨y, z1, z2⟩ := Cond.eq_one (hq _ (gv_pr (162, 231) (by decide)))
      have z3 := (had 11 (by decide)).1.symm.trans z1
      cases z3
      exact z2
    · rw [a1 12 (by decide)]
      obtain ⟨y, z1, z2⟩ := Cond.eq_one (hq _ (gv_pr (240, 240) (by decide)))
      have z3 := (had 12 (by decide)).1.symm.trans z1
      cases z3
      exact z2
    · rw [a1 13 (by decide)]
      obtain ⟨y, z1, z2⟩ := Cond.eq_one (hq _ (gv_pr (242, 242) (by decide)))
      have z3 := (had 13 (by decide)).1.symm.trans z1
      cases z3
      exact z2
    · rw [a1 14 (by decide)]
      obtain ⟨y, z1, z2⟩ := Cond.eq_one (hq _ (gv_pr (244, 244) (by decide)))
      have z3 := (had 14 (by decide)).1.symm.trans z1
      cases z3
      exact z2
    · rw [a1 15 (by decide)]
      obtain ⟨y, z1, z2⟩ := Cond.eq_one (hq _ (gv_pr (246, 246) (by decide)))
      have z3 := (had 15 (by decide)).1.symm.trans z1
      cases z3
      exact z2
    · rw [a1 16 (by decide)]
      obtain ⟨y, z1, z2⟩ := Cond.eq_one (hq _ (gv_pr (181, 248) (by decide)))
      have z3 := (had 16 (by decide)).1.symm.trans z1
      cases z3
      exact z2
    · rw [a1 17 (by decide)]
      obtain ⟨y, z1, z2⟩ := Cond.eq_one (hq _ (gv_pr (190, 256) (by decide)))
      have z3 := (had 17 (by decide)).1.symm.trans z1
      cases z3
      exact z2
    · rw [a1 18 (by decide)]
      obtain ⟨y, z1, z2⟩ := Cond.eq_one (hq _ (gv_pr (192, 258) (by decide)))
      have z3 := (had 18 (by decide)).1.symm.trans z1
      cases z3
      exact z2
    · rw [a1 19 (by decide)]
      obtain ⟨y, z1, z2⟩ := Cond.eq_one (hq _ (gv_pr (194, 260) (by decide)))
      have z3 := (had 19 (by decide)).1.symm.trans z1
      cases z3
      exact z2
  · show va_O _ (am i) _ _ _ ∧ va_OF _ _ _ _ (am i) _ _ _ ∧ va_OF _ _ _ (.ref (am (100 + i))) (am i) _ _ _ ∧ va_T _ (am (100 + i)) _ _ _ _ _
    rw [a1 i hi, a2 i hi]
    exact (had i hi).2
  · show va_Z _ _ _ (.ref (am (900 + i))) _ _ _ ∧ va_T _ (am (900 + i)) _ _ _ _ _
    rw [a3 i hi]
    exact ⟨va_Zref (hts _ (tb_ls i hi)) (hts _ tb_ik) (hsr i hi).1 hA, (hsr i hi).2⟩
theorem lw_wd {b : Nat} {s : State} (hts : ∀ w ∈ lw_tbl, w.before #[Value.ref b] s = true) : yx_Wd s := by
  have h : ∀ w ∈ yxB, w.before #[Value.ref b] s = true := fun w hw => hts w (tb_wd w hw)
  exact ⟨va_Nw.of rfl (h _ (by simp)), va_Nw.of rfl (h _ (by simp)), va_Nw.of rfl (h _ (by simp)), va_Nw.of rfl (h _ (by simp))⟩
