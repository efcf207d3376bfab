def mJ (h : ZH) : Prop := (∃ T : Nat → Nat, h 1073 = some (zI 40 T)) ∧ (∃ T : Nat → Nat, h 1074 = some (zI 240 T)) ∧ (∃ T : Nat → Nat, h 1075 = some (zI 40 T)) ∧ (∃ T : Nat → Nat, h 1076 = some (zI 4 T)) ∧ ∃ T : Nat → Nat, h 1077 = some (zI 4 T)
def mV (v v' : Nat → Int32) : Prop := v' 0 = v 0 ∧ v' 2 = v 2 ∧ v' 9 = v 9 ∧ v' 10 = v 10 ∧ v' 11 = v 11 ∧ v' 14 = v 14 ∧ v' 22 = v 22 ∧ v' 23 = v 23
theorem mV.rf (v : Nat → Int32) : mV v v := ⟨rfl, rfl, rfl, rfl, rfl, rfl, rfl, rfl⟩
theorem mV.tr {a b c : Nat → Int32} (h1 : mV a b) (h2 : mV b c) : mV a c := by
  obtain ⟨a1, a2, a3, a4, a5, a6, a7, a8⟩ := h1
  obtain ⟨b1, b2, b3, b4, b5, b6, b7, b8⟩ := h2
  exact ⟨b1.trans a1, b2.trans a2, b3.trans a3, b4.trans a4, b5.trans a5, b6.trans a6, b7.trans a7, b8.trans a8⟩
theorem mV.up {a b : Nat → Int32} (h : mV a b) (x : Int32) {k : Nat} (hk : k = 27 ∨ k = 30 ∨ k = 31 ∨ k = 32) : mV a (upd b k x) := by
  refine h.tr ?_
  rcases hk with rfl | rfl | rfl | rfl <;> exact ⟨rfl, rfl, rfl, rfl, rfl, rfl, rfl, rfl⟩
theorem mV.t {a b : Nat → Int32} (h : mV a b) (x : Int32) : mV (upd a 11 x) (upd b 11 x) := by
  obtain ⟨a1, a2, a3, a4, a5, a6, a7, a8⟩ := h
  exact ⟨a1, a2, a3, a4, rfl, a6, a7, a8⟩
/-- what calls of the model leave: its lasting numbers; of its scratch rows the shape alone -/
def mQ (h hh : ZH) (v : Nat → Int32) : Prop := (∃ v', hh 1063 = some (zO 8 (mfs v')) ∧ mV v v') ∧ mJ hh ∧ ∀ a, a ≠ 1063 → (a < 1073 ∨ 1077 < a) → hh a = h a
theorem mJ.up {h : ZH} (hJ : mJ h) (c : ZE) : mJ (zup h 1063 c) := by
  obtain ⟨⟨T1, h1⟩, ⟨T2, h2⟩, ⟨T3, h3⟩, ⟨T4, h4⟩, T5, h5⟩ := hJ
  exact ⟨⟨T1, (zup_ne (by decide)).trans h1⟩, ⟨T2, (zup_ne (by decide)).trans h2⟩, ⟨T3, (zup_ne (by decide)).trans h3⟩, ⟨T4, (zup_ne (by decide)).trans h4⟩, T5, (zup_ne (by decide)).trans h5⟩
theorem mJ.fr {h hh : ZH} (hJ : mJ h) {T : Nat → Nat} (h1 : hh 1073 = some (zI 40 T)) (hF : ∀ a, a ≠ 1063 → a ≠ 1073 → hh a = h a) : mJ hh := by
  obtain ⟨-, ⟨T2, h2⟩, ⟨T3, h3⟩, ⟨T4, h4⟩, T5, h5⟩ := hJ
  exact ⟨⟨T, h1⟩, ⟨T2, (hF _ (by decide) (by decide)).trans h2⟩, ⟨T3, (hF _ (by decide) (by decide)).trans h3⟩, ⟨T4, (hF _ (by decide) (by decide)).trans h4⟩, T5, (hF _ (by decide) (by decide)).trans h5⟩
theorem mQ.rf {h : ZH} {v : Nat → Int32} (hM : h 1063 = some (zO 8 (mfs v))) (hJ : mJ h) : mQ h h v := ⟨⟨v, hM, mV.rf v⟩, hJ, fun _ _ _ => rfl⟩
theorem mQ.ok {h h1 h2 : ZH} {v : Nat → Int32} (hg : zup h 1063 (zO 8 (mfs (upd (upd v 0 0) 11 0))) = h1) (hQ : mQ h1 h2 (upd (upd v 0 0) 11 0)) : mQ h h2 (mv v 0) :=
  ⟨hQ.1, hQ.2.1, fun a q1 q2 => (hQ.2.2 a q1 q2).trans (by rw [← hg]; exact zup_ne q1)⟩
theorem mQ.no {h h1 h2 : ZH} {v v2 : Nat → Int32} {w : Int32} (hg : zup h 1063 (zO 8 (mfs (upd (upd v 0 0) 11 0))) = h1) (hM : h2 1063 = some (zO 8 (mfs v2))) (hQ : mQ h1 h2 (upd (upd v 0 0) 11 0)) : mQ h (zup h2 1063 (zO 8 (mfs (upd v2 11 w)))) (mv v w) := by
  obtain ⟨⟨v', h3, hV⟩, hJ, hF⟩ := hQ
  have e : mfs v2 = mfs v' := by
    have := hM.symm.trans h3
    injection this with this
    injection this with this
    injection this
  have hV2 : mV (upd (upd v 0 0) 11 0) v2 := by
    have h0 : ∀ k : Nat, (mfs v2)[k]? = (mfs v')[k]? := fun k => by rw [e]
    obtain ⟨a1, a2, a3, a4, a5, a6, a7, a8⟩ := hV
    have q : ∀ x y : Int32, some (Value.int x) = some (Value.int y) → x = y := fun x y z => by injection z with z; injection z
    exact ⟨(q _ _ (h0 0)).trans a1, (q _ _ (h0 2)).trans a2, (q _ _ (h0 9)).trans a3, (q _ _ (h0 10)).trans a4, (q _ _ (h0 11)).trans a5, (q _ _ (h0 14)).trans a6, (q _ _ (h0 22)).trans a7, (q _ _ (h0 23)).trans a8⟩
  refine ⟨⟨_, zup_same _ _ _, ?_⟩, hJ.up _, fun a q1 q2 => ?_⟩
  · have := hV2.t w
    rw [upd_upd] at this
    exact this
  · rw [zup_ne q1, hF a q1 q2, ← hg, zup_ne q1]
theorem mQ.no0 {h h1 : ZH} {v : Nat → Int32} {w : Int32} (hg : zup h 1063 (zO 8 (mfs (upd (upd v 0 0) 11 0))) = h1) (hJ : mJ h) : mQ h (zup h1 1063 (zO 8 (mfs (upd (upd (upd v 0 0) 11 0) 11 w)))) (mv v w) := by
  have h1M : h1 1063 = some (zO 8 (mfs (upd (upd v 0 0) 11 0))) := by rw [← hg]; exact zup_same _ _ _
  have hJ1 : mJ h1 := by rw [← hg]; exact hJ.up _
  exact mQ.no hg h1M (mQ.rf h1M hJ1)
theorem mQ.eq {h hh : ZH} {v : Nat → Int32} {t t' : Int32} (e : t' = t) (hq : mQ h hh (mv v t)) : mQ h hh (mv v t') := e ▸ hq
def srw (b ok : Bool) : Nat := if b then (if ok then 0 else 2) else 1
theorem srw_0 {b ok : Bool} : srw b ok = 0 ↔ b = true ∧ ok = true := by cases b <;> cases ok <;> decide
theorem srw_le (b ok : Bool) : srw b ok ≤ 2 := by cases b <;> cases ok <;> decide

set_option maxRecDepth 20000 in
set_option maxHeartbeats 1000000 in
theorem tX12_rambleWhyN {h : ZH} {b0 : Bool} {x n0 : Int32} (hn : (b0 && (zlt x 65537 && zlt n0 61)) = false) : ZD mX12_rambleWhy 4 [.ref 1063, .int (zb b0), .int x, .int n0] h (some (.int (nI (srw b0 false)))) h := by
  intro n
  refine z_enter (lv := [(0, _), (1, _), (2, _), (3, _)]) (by decide) (Nat.le_of_ble_eq_true rfl) rfl (fun X C => ?_)
  refine z_iload_n (pc := 0) C dX12_rambleWhy_0 1 rfl ?_
  first | refine z_ifneB (pc := 1) C 6 dX12_rambleWhy_1 (by decide) (fun hc1 => ?_) (fun hc1 => ?_) | refine z_ifneN (pc := 1) C 6 dX12_rambleWhy_1 (by decide) (by omega) (fun hc1 => ?_) (fun hc1 => ?_) | refine z_if_ne (pc := 1) C 6 dX12_rambleWhy_1 (by decide) (fun hc1 => ?_) (fun hc1 => ?_)
  · skip
    refine z_iload_n (pc := 6) C dX12_rambleWhy_6 2 rfl ?_
    refine z_iconst (pc := 7) C dX12_rambleWhy_7 (nI 0) (by decide) ?_
    refine z_ldcw (pc := 8) C dX12_rambleWhy_8 kX12_401 ?_
    refine z_top (show (65536 : Int32) = nI 65536 from rfl) ?_
    refine z_cS1 (pc := 11) mX12_in C [_, _, _] dX12_rambleWhy_11 lX12_146 mtX12_in tX12_in rfl rfl (by decide) (Nat.le_of_ble_eq_true rfl) (Nat.zero_le _) (Nat.zero_le _) ?_
    rw [show decide (nI 0 ≤ x ∧ x ≤ nI 65536) = zlt x 65537 from zlt_le2 x (by omega)]
    first | refine z_ifeqB (pc := 14) C 27 dX12_rambleWhy_14 (by decide) (fun hc14 => ?_) (fun hc14 => ?_) | refine z_ifeqN (pc := 14) C 27 dX12_rambleWhy_14 (by decide) (by omega) (fun hc14 => ?_) (fun hc14 => ?_) | refine z_if_eq (pc := 14) C 27 dX12_rambleWhy_14 (by decide) (fun hc14 => ?_) (fun hc14 => ?_)
    · skip
      refine z_iconst (pc := 27) C dX12_rambleWhy_27 (nI 2) (by decide) ?_
      refine z_iret (pc := 28) C dX12_rambleWhy_28 rfl (Nat.zero_le _) (Nat.zero_le _) ⟨?_, ?_, rfl⟩
      · simp [srw, *]
      · rfl
    · skip
      refine z_iload_n (pc := 17) C dX12_rambleWhy_17 3 rfl ?_
      refine z_iconst (pc := 18) C dX12_rambleWhy_18 (nI 0) (by decide) ?_
      refine z_bipush (pc := 19) C dX12_rambleWhy_19 (nI 60) (by decide) ?_
      refine z_cS1 (pc := 21) mX12_in C [_, _, _] dX12_rambleWhy_21 lX12_146 mtX12_in tX12_in rfl rfl (by decide) (Nat.le_of_ble_eq_true rfl) (Nat.zero_le _) (Nat.zero_le _) ?_
      rw [show decide (nI 0 ≤ n0 ∧ n0 ≤ nI 60) = zlt n0 61 from zlt_le2 n0 (by omega)]
      first | refine z_ifneB (pc := 24) C 29 dX12_rambleWhy_24 (by decide) (fun hc24 => ?_) (fun hc24 => ?_) | refine z_ifneN (pc := 24) C 29 dX12_rambleWhy_24 (by decide) (by omega) (fun hc24 => ?_) (fun hc24 => ?_) | refine z_if_ne (pc := 24) C 29 dX12_rambleWhy_24 (by decide) (fun hc24 => ?_) (fun hc24 => ?_)
      · exact absurd hn (by simp [*])
      · skip
        refine z_iconst (pc := 27) C dX12_rambleWhy_27 (nI 2) (by decide) ?_
        refine z_iret (pc := 28) C dX12_rambleWhy_28 rfl (Nat.zero_le _) (Nat.zero_le _) ⟨?_, ?_, rfl⟩
        · simp [srw, *]
        · rfl
  · skip
    refine z_iconst (pc := 4) C dX12_rambleWhy_4 (nI 1) (by decide) ?_
    refine z_iret (pc := 5) C dX12_rambleWhy_5 rfl (Nat.zero_le _) (Nat.zero_le _) ⟨?_, ?_, rfl⟩
    · simp [srw, *]
    · rfl

set_option maxRecDepth 20000 in
set_option maxHeartbeats 1000000 in
theorem tX12_rambleWhyY {h : ZH} {v : Nat → Int32} {R S T S1 : Nat → Nat} {x c : Nat} (hM : h 1063 = some (zO 8 (mfs v))) (hA : h 1066 = some (zI 241 R)) (hB : h 1070 = some (zI 40 S)) (hT : h 1073 = some (zI 40 T)) (hR : wfR R) (hS : wfS R S) (hS1 : ncpy S T 0 0 40 = S1) (hx : x < 65537) (hc : c ≤ 60) : ZQ1 mX12_rambleWhy 4 [.ref 1063, .int (zb true), .int (nI x), .int (nI c)] h (fun w hh => w = .int (nI 0) ∧ hh 1073 = some (zI 40 (sraN R c (x, S1)).2) ∧ hh 1063 = some (zO 8 (mfs (upd v 32 (zo (sft (fun t => sMet R (sraN R t (x, S1)).2) c))))) ∧ ∀ a, a ≠ 1063 → a ≠ 1073 → hh a = h a) := by
  intro n
  obtain ⟨w1, w3, w4, w5, w0, wP, wM, wK, wX⟩ := id hR
  obtain ⟨wT, wL, wB⟩ := id hS
  have W1 : wfS R S1 := by rw [← hS1]; exact wfS_congr hR hS (fun x hx => ncpy_00 _ _ (by omega))
  refine z_enter (lv := [(0, _), (1, _), (2, _), (3, _)]) (by decide) (Nat.le_of_ble_eq_true rfl) rfl (fun X C => ?_)
  refine z_iload_n (pc := 0) C dX12_rambleWhy_0 1 rfl ?_
  first | refine z_ifneB (pc := 1) C 6 dX12_rambleWhy_1 (by decide) (fun hc1 => ?_) (fun hc1 => ?_) | refine z_ifneN (pc := 1) C 6 dX12_rambleWhy_1 (by decide) (by omega) (fun hc1 => ?_) (fun hc1 => ?_) | refine z_if_ne (pc := 1) C 6 dX12_rambleWhy_1 (by decide) (fun hc1 => ?_) (fun hc1 => ?_)
  · skip
    refine z_iload_n (pc := 6) C dX12_rambleWhy_6 2 rfl ?_
    refine z_iconst (pc := 7) C dX12_rambleWhy_7 (nI 0) (by decide) ?_
    refine z_ldcw (pc := 8) C dX12_rambleWhy_8 kX12_401 ?_
    refine z_top (show (65536 : Int32) = nI 65536 from rfl) ?_
    refine z_cS1 (pc := 11) mX12_in C [_, _, _] dX12_rambleWhy_11 lX12_146 mtX12_in tX12_in rfl rfl (by decide) (Nat.le_of_ble_eq_true rfl) (Nat.zero_le _) (Nat.zero_le _) ?_
    rw [show decide (nI 0 ≤ (nI x) ∧ (nI x) ≤ nI 65536) = zlt (nI x) 65537 from zlt_le2 (nI x) (by omega)]
    rw [zlt_nI (by omega), decide_eq_true hx]
    first | refine z_ifeqB (pc := 14) C 27 dX12_rambleWhy_14 (by decide) (fun hc14 => ?_) (fun hc14 => ?_) | refine z_ifeqN (pc := 14) C 27 dX12_rambleWhy_14 (by decide) (by omega) (fun hc14 => ?_) (fun hc14 => ?_) | refine z_if_eq (pc := 14) C 27 dX12_rambleWhy_14 (by decide) (fun hc14 => ?_) (fun hc14 => ?_)
    · cases hc14
    · skip
      refine z_iload_n (pc := 17) C dX12_rambleWhy_17 3 rfl ?_
      refine z_iconst (pc := 18) C dX12_rambleWhy_18 (nI 0) (by decide) ?_
      refine z_bipush (pc := 19) C dX12_rambleWhy_19 (nI 60) (by decide) ?_
      refine z_cS1 (pc := 21) mX12_in C [_, _, _] dX12_rambleWhy_21 lX12_146 mtX12_in tX12_in rfl rfl (by decide) (Nat.le_of_ble_eq_true rfl) (Nat.zero_le _) (Nat.zero_le _) ?_
      rw [show decide (nI 0 ≤ (nI c) ∧ (nI c) ≤ nI 60) = zlt (nI c) 61 from zlt_le2 (nI c) (by omega)]
      rw [zlt_nI (by omega), decide_eq_true (show c < 60 + 1 by omega)]
      first | refine z_ifneB (pc := 24) C 29 dX12_rambleWhy_24 (by decide) (fun hc24 => ?_) (fun hc24 => ?_) | refine z_ifneN (pc := 24) C 29 dX12_rambleWhy_24 (by decide) (by omega) (fun hc24 => ?_) (fun hc24 => ?_) | refine z_if_ne (pc := 24) C 29 dX12_rambleWhy_24 (by decide) (fun hc24 => ?_) (fun hc24 => ?_)
      · skip
        refine z_aload_n (pc := 29) C dX12_rambleWhy_29 0 rfl ?_
        refine z_getf (pc := 30) C dX12_rambleWhy_30 fX12_32 (by assumption) (by first | rfl | assumption) ?_
        refine z_iconst (pc := 33) C dX12_rambleWhy_33 (nI 0) (by decide) ?_
        refine z_aload_n (pc := 34) C dX12_rambleWhy_34 0 rfl ?_
        refine z_getf (pc := 35) C dX12_rambleWhy_35 fX12_41 (by assumption) (by first | rfl | assumption) ?_
        refine z_iconst (pc := 38) C dX12_rambleWhy_38 (nI 0) (by decide) ?_
        refine z_bipush (pc := 39) C dX12_rambleWhy_39 (nI 40) (by decide) ?_
        refine z_cS0 (pc := 41) mX12_copy C [_, _, _, _, _] dX12_rambleWhy_41 lX12_176 mtX12_copy (tX12_copy hB hT (by decide) (by decide) (by decide) (by decide) (by decide)) rfl rfl (by decide) (Nat.le_of_ble_eq_true rfl) (Nat.zero_le _) (Nat.zero_le _) ?_
        rw [hS1]
        refine z_aload_n (pc := 44) C dX12_rambleWhy_44 0 rfl ?_
        refine z_bipush (pc := 45) C dX12_rambleWhy_45 (zo none) (by decide) ?_
        refine z_putf (pc := 47) (fs' := mfs (upd _ 32 _)) C dX12_rambleWhy_47 gX12_402 ((zup_ne (by decide)).trans hM) (fun _ => ⟨rfl, rfl⟩) (by exact Nat.le_of_ble_eq_true rfl) (mfs_set _ 32 _ (by decide)) ?_
        have F0 : ∀ a, a ≠ 1063 → a ≠ 1073 → zup (zup h 1073 (zI 40 S1)) 1063 (zO 8 (mfs (upd v 32 (zo none)))) a = h a := fun a q1 q2 => (zup_ne q1).trans (zup_ne q2)
        have hM0 := zup_same (zup h 1073 (zI 40 S1)) 1063 (zO 8 (mfs (upd v 32 (zo none))))
        have hT0 : zup (zup h 1073 (zI 40 S1)) 1063 (zO 8 (mfs (upd v 32 (zo none)))) 1073 = some (zI 40 S1) := (zup_ne (by decide)).trans (zup_same _ _ _)
        generalize zup (zup h 1073 (zI 40 S1)) 1063 (zO 8 (mfs (upd v 32 (zo none)))) = h0 at F0 hM0 hT0 ⊢
        refine z_iload_n (pc := 50) C dX12_rambleWhy_50 2 rfl ?_
        refine z_istore (pc := 51) (lv' := [(4, _), (0, _), (1, _), (2, _), (3, _)]) C dX12_rambleWhy_51 (by decide) rfl ?_
        refine z_iconst (pc := 53) C dX12_rambleWhy_53 (nI 1) (by decide) ?_
        refine z_istore (pc := 54) (lv' := [(5, _), (4, _), (0, _), (1, _), (2, _), (3, _)]) C dX12_rambleWhy_54 (by decide) rfl ?_
        refine z_sub (lv' := [(0, _), (1, _), (2, _), (3, _), (4, _), (5, _)]) [2, 3, 4, 5, 1, 0] rfl ?_
        have lp56 : ∀ (f : Nat) (j : Nat) (h1 : ZH), (j + f = c ∧ h1 1063 = some (zO 8 (mfs (upd v 32 (zo (sft (fun t => sMet R (sraN R t (x, S1)).2) j))))) ∧ h1 1073 = some (zI 40 (sraN R j (x, S1)).2) ∧ ∀ a, a ≠ 1063 → a ≠ 1073 → h1 a = h a) → Zc X mX12_rambleWhy (zEnd X (fun r hh n' => ∃ w, r = some w ∧ (w = .int (nI 0) ∧ hh 1073 = some (zI 40 (sraN R c (x, S1)).2) ∧ hh 1063 = some (zO 8 (mfs (upd v 32 (zo (sft (fun t => sMet R (sraN R t (x, S1)).2) c))))) ∧ ∀ a, a ≠ 1063 → a ≠ 1073 → hh a = h a) ∧ n' = n) 0 0) 56 [(0, .ref 1063), (1, .int (zb true)), (2, .int (nI x)), (3, .int (nI c)), (4, .int (nI (sraN R j (x, S1)).1)), (5, .int (nI (j + 1)))] [] h1 n 0 0 := by
          intro f
          induction f using Nat.strongRecOn with
          | _ f ih =>
            intro j h1 hk
            obtain ⟨hk, hM1, hT1, F1⟩ := hk
            refine z_iload (pc := 56) C dX12_rambleWhy_56 5 rfl ?_
            refine z_iload_n (pc := 58) C dX12_rambleWhy_58 3 rfl ?_
            first | refine z_icmpgtN (pc := 59) C 222 dX12_rambleWhy_59 (by decide) (by omega) (by omega) (fun hc59 => ?_) (fun hc59 => ?_) | refine z_icmp_gt (pc := 59) C 222 dX12_rambleWhy_59 (by decide) (fun hc59 => ?_) (fun hc59 => ?_)
            · skip
              refine z_iconst (pc := 222) C dX12_rambleWhy_222 (nI 0) (by decide) ?_
              refine z_iret (pc := 223) C dX12_rambleWhy_223 rfl (Nat.zero_le _) (Nat.zero_le _) ⟨_, rfl, ?_, rfl⟩
              obtain rfl : j = c := (by omega); exact ⟨rfl, hT1, hM1, F1⟩
            · skip
              refine z_iconst (pc := 62) C dX12_rambleWhy_62 (nI 0) (by decide) ?_
              refine z_istore (pc := 63) (lv' := [(6, _), (0, _), (1, _), (2, _), (3, _), (4, _), (5, _)]) C dX12_rambleWhy_63 (by decide) rfl ?_
              refine z_sub (lv' := [(0, _), (1, _), (2, _), (3, _), (4, _), (5, _), (6, _)]) [1, 2, 3, 4, 5, 6, 0] rfl ?_
              have lp65 : ∀ (f2 : Nat) (m : Nat) (h2 : ZH), (m + f2 = R 3 ∧ h2 1063 = some (zO 8 (mfs (upd v 32 (zo (sft (fun t => sMet R (sraN R t (x, S1)).2) j))))) ∧ h2 1073 = some (zI 40 (sram R m (sraN R j (x, S1))).2) ∧ ∀ a, a ≠ 1063 → a ≠ 1073 → h2 a = h a) → Zc X mX12_rambleWhy (zEnd X (fun r hh n' => ∃ w, r = some w ∧ (w = .int (nI 0) ∧ hh 1073 = some (zI 40 (sraN R c (x, S1)).2) ∧ hh 1063 = some (zO 8 (mfs (upd v 32 (zo (sft (fun t => sMet R (sraN R t (x, S1)).2) c))))) ∧ ∀ a, a ≠ 1063 → a ≠ 1073 → hh a = h a) ∧ n' = n) 0 0) 65 [(0, .ref 1063), (1, .int (zb true)), (2, .int (nI x)), (3, .int (nI c)), (4, .int (nI (sram R m (sraN R j (x, S1))).1)), (5, .int (nI (j + 1))), (6, .int (nI m))] [] h2 n 0 0 := by
                intro f2
                induction f2 using Nat.strongRecOn with
                | _ f2 ih2 =>
                  intro m h2 hk2
                  obtain ⟨hk2, hM2, hT2, F2⟩ := hk2
                  have hA2 : h2 1066 = _ := (F2 1066 (by decide) (by decide)).trans hA
                  obtain ⟨hSm, hxm⟩ := sram_wf hR m (by omega) (sraN R j (x, S1)) (sraN_wf hR (s := (x, S1)) W1 hx j).1 (sraN_wf hR (s := (x, S1)) W1 hx j).2
                  refine z_iload (pc := 65) C dX12_rambleWhy_65 6 rfl ?_
                  refine z_aload_n (pc := 67) C dX12_rambleWhy_67 0 rfl ?_
                  refine z_getf (pc := 68) C dX12_rambleWhy_68 fX12_20 (by assumption) (by first | rfl | assumption) ?_
                  refine z_iconst (pc := 71) C dX12_rambleWhy_71 (nI 3) (by decide) ?_
                  first | refine z_ialdN (pc := 72) C dX12_rambleWhy_72 (by assumption) (by omega) (by decide) ?_ | refine z_ialdI (pc := 72) C dX12_rambleWhy_72 (by assumption) (by omega) (by decide) ?_
                  first | refine z_icmpgeN (pc := 73) C 196 dX12_rambleWhy_73 (by decide) (by omega) (by omega) (fun hc73 => ?_) (fun hc73 => ?_) | refine z_icmp_ge (pc := 73) C 196 dX12_rambleWhy_73 (by decide) (fun hc73 => ?_) (fun hc73 => ?_)
                  · skip
                    obtain rfl : m = R 3 := (by omega)
                    refine z_aload_n (pc := 196) C dX12_rambleWhy_196 0 rfl ?_
                    refine z_getf (pc := 197) C dX12_rambleWhy_197 fX12_402 (by assumption) (by first | rfl | assumption) ?_
                    refine z_top (show upd v 32 (zo (sft (fun t => sMet R (sraN R t (x, S1)).2) j)) 32 = zo (sft (fun t => sMet R (sraN R t (x, S1)).2) j) from rfl) ?_
                    first | refine z_ifgeO (pc := 200) C 216 dX12_rambleWhy_200 (by decide) (fun y hy => by have := sft_le _ _ _ hy; omega) (fun hc200 => ?_) (fun hc200 => ?_) | refine z_ifgeN (pc := 200) C 216 dX12_rambleWhy_200 (by decide) (by omega) (fun hc200 => ?_) (fun hc200 => ?_) | refine z_if_ge (pc := 200) C 216 dX12_rambleWhy_200 (by decide) (fun hc200 => ?_) (fun hc200 => ?_)
                    · skip
                      obtain ⟨y, hy⟩ := hc200
                      have e9 := ih (f - 1) (by omega) (j + 1) _ ⟨by omega, by rw [show sft _ (j + 1) = some y from by rw [sft, hy]]; rw [hy] at hM2; exact hM2, hT2, F2⟩
                      first | refine z_iincN (pc := 216) (lv' := [(5, _), (0, _), (1, _), (2, _), (3, _), (4, _), (6, _)]) C 1 dX12_rambleWhy_216 5 rfl (by decide) (by decide) rfl ?_ | refine z_iinc (pc := 216) (lv' := [(5, _), (0, _), (1, _), (2, _), (3, _), (4, _), (6, _)]) C dX12_rambleWhy_216 5 rfl _ rfl (by decide) rfl ?_
                      refine z_goto (pc := 219) C 56 dX12_rambleWhy_219 (by decide) ?_
                      refine z_sub (lv' := [(0, _), (1, _), (2, _), (3, _), (4, _), (5, _)]) [1, 2, 3, 4, 5, 0] rfl ?_
                      exact e9
                    · skip
                      refine z_aload_n (pc := 203) C dX12_rambleWhy_203 0 rfl ?_
                      refine z_cV1 (pc := 204) mX12_areMet C [] dX12_rambleWhy_204 lX12_406 mtX12_areMet (tX12_areMet hM2 hA2 hT2 hR hSm) hM2 rfl rfl (by decide) (Nat.le_of_ble_eq_true rfl) (Nat.zero_le _) (Nat.zero_le _) ?_
                      first | refine z_ifeqB (pc := 207) C 216 dX12_rambleWhy_207 (by decide) (fun hc207 => ?_) (fun hc207 => ?_) | refine z_ifeqN (pc := 207) C 216 dX12_rambleWhy_207 (by decide) (by omega) (fun hc207 => ?_) (fun hc207 => ?_) | refine z_if_eq (pc := 207) C 216 dX12_rambleWhy_207 (by decide) (fun hc207 => ?_) (fun hc207 => ?_)
                      · skip
                        have e9 := ih (f - 1) (by omega) (j + 1) _ ⟨by omega, by rw [show sft _ (j + 1) = none from by rw [sft, hc200]; exact if_neg (fun z => by cases z.symm.trans hc207)]; rw [hc200] at hM2; exact hM2, hT2, F2⟩
                        first | refine z_iincN (pc := 216) (lv' := [(5, _), (0, _), (1, _), (2, _), (3, _), (4, _), (6, _)]) C 1 dX12_rambleWhy_216 5 rfl (by decide) (by decide) rfl ?_ | refine z_iinc (pc := 216) (lv' := [(5, _), (0, _), (1, _), (2, _), (3, _), (4, _), (6, _)]) C dX12_rambleWhy_216 5 rfl _ rfl (by decide) rfl ?_
                        refine z_goto (pc := 219) C 56 dX12_rambleWhy_219 (by decide) ?_
                        refine z_sub (lv' := [(0, _), (1, _), (2, _), (3, _), (4, _), (5, _)]) [1, 2, 3, 4, 5, 0] rfl ?_
                        exact e9
                      · skip
                        refine z_aload_n (pc := 210) C dX12_rambleWhy_210 0 rfl ?_
                        refine z_iload (pc := 211) C dX12_rambleWhy_211 5 rfl ?_
                        refine z_putf (pc := 213) (fs' := mfs (upd _ 32 _)) C dX12_rambleWhy_213 gX12_402 hM2 (fun _ => ⟨rfl, rfl⟩) (by exact Nat.le_of_ble_eq_true rfl) (mfs_set _ 32 _ (by decide)) ?_
                        have e9 := ih (f - 1) (by omega) (j + 1) (zup h2 1063 (zO 8 (mfs (upd (upd v 32 (zo (sft (fun t => sMet R (sraN R t (x, S1)).2) j))) 32 (nI (j + 1)))))) ⟨by omega, by rw [show sft _ (j + 1) = some (j + 1) from by rw [sft, hc200]; exact if_pos hc207]; rw [upd_upd]; exact zup_same _ _ _, (zup_ne (by decide)).trans hT2, fun a q1 q2 => (zup_ne q1).trans (F2 a q1 q2)⟩
                        first | refine z_iincN (pc := 216) (lv' := [(5, _), (0, _), (1, _), (2, _), (3, _), (4, _), (6, _)]) C 1 dX12_rambleWhy_216 5 rfl (by decide) (by decide) rfl ?_ | refine z_iinc (pc := 216) (lv' := [(5, _), (0, _), (1, _), (2, _), (3, _), (4, _), (6, _)]) C dX12_rambleWhy_216 5 rfl _ rfl (by decide) rfl ?_
                        refine z_goto (pc := 219) C 56 dX12_rambleWhy_219 (by decide) ?_
                        refine z_sub (lv' := [(0, _), (1, _), (2, _), (3, _), (4, _), (5, _)]) [1, 2, 3, 4, 5, 0] rfl ?_
                        exact e9
                  · skip
                    have e1 : (sram R m (sraN R j (x, S1))).2 (8 * m) < R 1 := hSm.1 m (by omega) 0 (by omega)
                    have e2 := (wP _ e1).2
                    have e3 := sone_le (R (23 + (sram R m (sraN R j (x, S1))).2 (8 * m))) 8
                    have e4 : (sdraw (sram R m (sraN R j (x, S1))).1 % (1 + sone (R (23 + (sram R m (sraN R j (x, S1))).2 (8 * m))) 8)) < 1 + sone (R (23 + (sram R m (sraN R j (x, S1))).2 (8 * m))) 8 := Nat.mod_lt _ (by omega)
                    have e5 := sdraw_lt (sram R m (sraN R j (x, S1))).1
                    refine z_aload_n (pc := 76) C dX12_rambleWhy_76 0 rfl ?_
                    refine z_getf (pc := 77) C dX12_rambleWhy_77 fX12_41 (by assumption) (by first | rfl | assumption) ?_
                    refine z_bipush (pc := 80) C dX12_rambleWhy_80 (nI 8) (by decide) ?_
                    refine z_iload (pc := 82) C dX12_rambleWhy_82 6 rfl ?_
                    first | refine z_imulN (pc := 84) C dX12_rambleWhy_84 ?_ | refine z_imul (pc := 84) C dX12_rambleWhy_84 ?_
                    first | refine z_ialdN (pc := 85) C dX12_rambleWhy_85 (by assumption) (by omega) (by decide) ?_ | refine z_ialdI (pc := 85) C dX12_rambleWhy_85 (by assumption) (by omega) (by decide) ?_
                    refine z_istore (pc := 86) (lv' := [(7, _), (0, _), (1, _), (2, _), (3, _), (4, _), (5, _), (6, _)]) C dX12_rambleWhy_86 (by decide) rfl ?_
                    refine z_bipush (pc := 88) C dX12_rambleWhy_88 (nI 75) (by decide) ?_
                    refine z_iload (pc := 90) C dX12_rambleWhy_90 5 rfl ?_
                    first | refine z_imulN (pc := 92) C dX12_rambleWhy_92 ?_ | refine z_imul (pc := 92) C dX12_rambleWhy_92 ?_
                    refine z_bipush (pc := 93) C dX12_rambleWhy_93 (nI 74) (by decide) ?_
                    first | refine z_iaddN (pc := 95) C dX12_rambleWhy_95 ?_ | refine z_iadd (pc := 95) C dX12_rambleWhy_95 ?_
                    refine z_ldcw (pc := 96) C dX12_rambleWhy_96 kX12_405 ?_
                    refine z_top (show (65537 : Int32) = nI 65537 from rfl) ?_
                    first | refine z_iremN (pc := 99) C dX12_rambleWhy_99 (by omega) (by omega) (by omega) ?_ | refine z_irem (pc := 99) C dX12_rambleWhy_99 (by decide) ?_
                    refine z_top (show nI ((75 * (sram R m (sraN R j (x, S1))).1 + 74) % 65537) = nI (sdraw (sram R m (sraN R j (x, S1))).1) from rfl) ?_
                    refine z_istore (pc := 100) (lv' := [(4, _), (7, _), (0, _), (1, _), (2, _), (3, _), (5, _), (6, _)]) C dX12_rambleWhy_100 (by decide) rfl ?_
                    refine z_iload (pc := 102) C dX12_rambleWhy_102 0 rfl ?_
                    refine z_iconst (pc := 104) C dX12_rambleWhy_104 (nI 1) (by decide) ?_
                    refine z_aload_n (pc := 105) C dX12_rambleWhy_105 2 rfl ?_
                    refine z_getf (pc := 106) C dX12_rambleWhy_106 fX12_20 (by assumption) (by first | rfl | assumption) ?_
                    refine z_bipush (pc := 109) C dX12_rambleWhy_109 (nI 23) (by decide) ?_
                    refine z_iload (pc := 111) C dX12_rambleWhy_111 1 rfl ?_
                    first | refine z_iaddN (pc := 113) C dX12_rambleWhy_113 ?_ | refine z_iadd (pc := 113) C dX12_rambleWhy_113 ?_
                    first | refine z_ialdN (pc := 114) C dX12_rambleWhy_114 (by assumption) (by omega) (by decide) ?_ | refine z_ialdI (pc := 114) C dX12_rambleWhy_114 (by assumption) (by omega) (by decide) ?_
                    refine z_cS1 (pc := 115) mX12_ones C [_] dX12_rambleWhy_115 lX12_276 mtX12_ones (tX12_ones (by omega)) rfl rfl (by decide) (Nat.le_of_ble_eq_true rfl) (Nat.zero_le _) (Nat.zero_le _) ?_
                    first | refine z_iaddN (pc := 118) C dX12_rambleWhy_118 ?_ | refine z_iadd (pc := 118) C dX12_rambleWhy_118 ?_
                    first | refine z_iremN (pc := 119) C dX12_rambleWhy_119 (by omega) (by omega) (by omega) ?_ | refine z_irem (pc := 119) C dX12_rambleWhy_119 (by decide) ?_
                    refine z_istore (pc := 120) (lv' := [(8, _), (4, _), (7, _), (0, _), (1, _), (2, _), (3, _), (5, _), (6, _)]) C dX12_rambleWhy_120 (by decide) rfl ?_
                    refine z_iload (pc := 122) C dX12_rambleWhy_122 2 rfl ?_
                    refine z_istore (pc := 124) (lv' := [(9, _), (8, _), (4, _), (7, _), (0, _), (1, _), (2, _), (3, _), (5, _), (6, _)]) C dX12_rambleWhy_124 (by decide) rfl ?_
                    refine z_iconst (pc := 126) C dX12_rambleWhy_126 (nI 0) (by decide) ?_
                    refine z_istore (pc := 127) (lv' := [(10, _), (9, _), (8, _), (4, _), (7, _), (0, _), (1, _), (2, _), (3, _), (5, _), (6, _)]) C dX12_rambleWhy_127 (by decide) rfl ?_
                    refine z_sub (lv' := [(0, _), (1, _), (2, _), (3, _), (4, _), (5, _), (6, _), (7, _), (8, _), (9, _), (10, _)]) [5, 6, 7, 8, 3, 9, 10, 4, 2, 1, 0] rfl ?_
                    have lp129 : ∀ (f3 : Nat) (q l p : Nat), (q + f3 = R 1 ∧ l < 100 ∧ p < 7 ∧ snb (R (23 + (sram R m (sraN R j (x, S1))).2 (8 * m))) 7 0 (sdraw (sram R m (sraN R j (x, S1))).1 % (1 + sone (R (23 + (sram R m (sraN R j (x, S1))).2 (8 * m))) 8)) ((sram R m (sraN R j (x, S1))).2 (8 * m)) = snb (R (23 + (sram R m (sraN R j (x, S1))).2 (8 * m))) (7 - q) q l p) → Zc X mX12_rambleWhy (zEnd X (fun r hh n' => ∃ w, r = some w ∧ (w = .int (nI 0) ∧ hh 1073 = some (zI 40 (sraN R c (x, S1)).2) ∧ hh 1063 = some (zO 8 (mfs (upd v 32 (zo (sft (fun t => sMet R (sraN R t (x, S1)).2) c))))) ∧ ∀ a, a ≠ 1063 → a ≠ 1073 → hh a = h a) ∧ n' = n) 0 0) 129 [(0, .ref 1063), (1, .int (zb true)), (2, .int (nI x)), (3, .int (nI c)), (4, .int (nI (sdraw (sram R m (sraN R j (x, S1))).1))), (5, .int (nI (j + 1))), (6, .int (nI m)), (7, .int (nI ((sram R m (sraN R j (x, S1))).2 (8 * m)))), (8, .int (nI l)), (9, .int (nI p)), (10, .int (nI q))] [] h2 n 0 0 := by
                      intro f3
                      induction f3 using Nat.strongRecOn with
                      | _ f3 ih3 =>
                        intro q l p hk3
                        obtain ⟨hk3, hl3, hp3, he3⟩ := hk3
                        refine z_iload (pc := 129) C dX12_rambleWhy_129 10 rfl ?_
                        refine z_aload_n (pc := 131) C dX12_rambleWhy_131 0 rfl ?_
                        refine z_getf (pc := 132) C dX12_rambleWhy_132 fX12_20 (by assumption) (by first | rfl | assumption) ?_
                        refine z_iconst (pc := 135) C dX12_rambleWhy_135 (nI 1) (by decide) ?_
                        first | refine z_ialdN (pc := 136) C dX12_rambleWhy_136 (by assumption) (by omega) (by decide) ?_ | refine z_ialdI (pc := 136) C dX12_rambleWhy_136 (by assumption) (by omega) (by decide) ?_
                        first | refine z_icmpgeN (pc := 137) C 179 dX12_rambleWhy_137 (by decide) (by omega) (by omega) (fun hc137 => ?_) (fun hc137 => ?_) | refine z_icmp_ge (pc := 137) C 179 dX12_rambleWhy_137 (by decide) (fun hc137 => ?_) (fun hc137 => ?_)
                        · skip
                          have e7 : p = snb (R (23 + (sram R m (sraN R j (x, S1))).2 (8 * m))) 7 0 (sdraw (sram R m (sraN R j (x, S1))).1 % (1 + sone (R (23 + (sram R m (sraN R j (x, S1))).2 (8 * m))) 8)) ((sram R m (sraN R j (x, S1))).2 (8 * m)) := by rw [he3]; exact (snb_none _ _ _ _ (fun i hi => by cases z : (R (23 + (sram R m (sraN R j (x, S1))).2 (8 * m))).testBit i with | false => rfl | true => have := e2.2 i z; omega)).symm
                          refine z_aload_n (pc := 179) C dX12_rambleWhy_179 0 rfl ?_
                          refine z_getf (pc := 180) C dX12_rambleWhy_180 fX12_41 (by assumption) (by first | rfl | assumption) ?_
                          refine z_iload (pc := 183) C dX12_rambleWhy_183 6 rfl ?_
                          refine z_iload (pc := 185) C dX12_rambleWhy_185 9 rfl ?_
                          refine z_cS0 (pc := 187) mX12_stepOf C [_, _, _] dX12_rambleWhy_187 lX12_252 mtX12_stepOf (tX12_stepOf hT2 (by omega)) rfl rfl (by decide) (Nat.le_of_ble_eq_true rfl) (Nat.zero_le _) (Nat.zero_le _) ?_
                          have e9 := ih2 (f2 - 1) (by omega) (m + 1) (zup h2 1073 (zI 40 (sgo (sram R m (sraN R j (x, S1))).2 m p))) ⟨by omega, (zup_ne (by decide)).trans hM2, by rw [e7]; exact zup_same _ _ _, fun a q1 q2 => (zup_ne q2).trans (F2 a q1 q2)⟩
                          first | refine z_iincN (pc := 190) (lv' := [(6, _), (0, _), (1, _), (2, _), (3, _), (4, _), (5, _), (7, _), (8, _), (9, _), (10, _)]) C 1 dX12_rambleWhy_190 6 rfl (by decide) (by decide) rfl ?_ | refine z_iinc (pc := 190) (lv' := [(6, _), (0, _), (1, _), (2, _), (3, _), (4, _), (5, _), (7, _), (8, _), (9, _), (10, _)]) C dX12_rambleWhy_190 6 rfl _ rfl (by decide) rfl ?_
                          refine z_goto (pc := 193) C 65 dX12_rambleWhy_193 (by decide) ?_
                          refine z_sub (lv' := [(0, _), (1, _), (2, _), (3, _), (4, _), (5, _), (6, _)]) [1, 2, 3, 4, 5, 6, 0] rfl ?_
                          exact e9
                        · skip
                          refine z_iload (pc := 140) C dX12_rambleWhy_140 8 rfl ?_
                          first | refine z_ifleN (pc := 142) C 179 dX12_rambleWhy_142 (by decide) (by omega) (fun hc142 => ?_) (fun hc142 => ?_) | refine z_if_le (pc := 142) C 179 dX12_rambleWhy_142 (by decide) (fun hc142 => ?_) (fun hc142 => ?_)
                          · skip
                            have e7 : p = snb (R (23 + (sram R m (sraN R j (x, S1))).2 (8 * m))) 7 0 (sdraw (sram R m (sraN R j (x, S1))).1 % (1 + sone (R (23 + (sram R m (sraN R j (x, S1))).2 (8 * m))) 8)) ((sram R m (sraN R j (x, S1))).2 (8 * m)) := by rw [he3, hc142, snb_0]
                            refine z_aload_n (pc := 179) C dX12_rambleWhy_179 0 rfl ?_
                            refine z_getf (pc := 180) C dX12_rambleWhy_180 fX12_41 (by assumption) (by first | rfl | assumption) ?_
                            refine z_iload (pc := 183) C dX12_rambleWhy_183 6 rfl ?_
                            refine z_iload (pc := 185) C dX12_rambleWhy_185 9 rfl ?_
                            refine z_cS0 (pc := 187) mX12_stepOf C [_, _, _] dX12_rambleWhy_187 lX12_252 mtX12_stepOf (tX12_stepOf hT2 (by omega)) rfl rfl (by decide) (Nat.le_of_ble_eq_true rfl) (Nat.zero_le _) (Nat.zero_le _) ?_
                            have e9 := ih2 (f2 - 1) (by omega) (m + 1) (zup h2 1073 (zI 40 (sgo (sram R m (sraN R j (x, S1))).2 m p))) ⟨by omega, (zup_ne (by decide)).trans hM2, by rw [e7]; exact zup_same _ _ _, fun a q1 q2 => (zup_ne q2).trans (F2 a q1 q2)⟩
                            first | refine z_iincN (pc := 190) (lv' := [(6, _), (0, _), (1, _), (2, _), (3, _), (4, _), (5, _), (7, _), (8, _), (9, _), (10, _)]) C 1 dX12_rambleWhy_190 6 rfl (by decide) (by decide) rfl ?_ | refine z_iinc (pc := 190) (lv' := [(6, _), (0, _), (1, _), (2, _), (3, _), (4, _), (5, _), (7, _), (8, _), (9, _), (10, _)]) C dX12_rambleWhy_190 6 rfl _ rfl (by decide) rfl ?_
                            refine z_goto (pc := 193) C 65 dX12_rambleWhy_193 (by decide) ?_
                            refine z_sub (lv' := [(0, _), (1, _), (2, _), (3, _), (4, _), (5, _), (6, _)]) [1, 2, 3, 4, 5, 6, 0] rfl ?_
                            exact e9
                          · skip
                            refine z_aload_n (pc := 145) C dX12_rambleWhy_145 0 rfl ?_
                            refine z_getf (pc := 146) C dX12_rambleWhy_146 fX12_20 (by assumption) (by first | rfl | assumption) ?_
                            refine z_bipush (pc := 149) C dX12_rambleWhy_149 (nI 23) (by decide) ?_
                            refine z_iload (pc := 151) C dX12_rambleWhy_151 7 rfl ?_
                            first | refine z_iaddN (pc := 153) C dX12_rambleWhy_153 ?_ | refine z_iadd (pc := 153) C dX12_rambleWhy_153 ?_
                            first | refine z_ialdN (pc := 154) C dX12_rambleWhy_154 (by assumption) (by omega) (by decide) ?_ | refine z_ialdI (pc := 154) C dX12_rambleWhy_154 (by assumption) (by omega) (by decide) ?_
                            refine z_iload (pc := 155) C dX12_rambleWhy_155 10 rfl ?_
                            refine z_cS1 (pc := 157) mX12_hasBit C [_, _] dX12_rambleWhy_157 lX12_236 mtX12_hasBit (tX12_hasBit (by omega) (by omega)) rfl rfl (by decide) (Nat.le_of_ble_eq_true rfl) (Nat.zero_le _) (Nat.zero_le _) ?_
                            first | refine z_ifneB (pc := 160) C 166 dX12_rambleWhy_160 (by decide) (fun hc160 => ?_) (fun hc160 => ?_) | refine z_ifneN (pc := 160) C 166 dX12_rambleWhy_160 (by decide) (by omega) (fun hc160 => ?_) (fun hc160 => ?_) | refine z_if_ne (pc := 160) C 166 dX12_rambleWhy_160 (by decide) (fun hc160 => ?_) (fun hc160 => ?_)
                            · skip
                              have e8 : snb (R (23 + (sram R m (sraN R j (x, S1))).2 (8 * m))) 7 0 (sdraw (sram R m (sraN R j (x, S1))).1 % (1 + sone (R (23 + (sram R m (sraN R j (x, S1))).2 (8 * m))) 8)) ((sram R m (sraN R j (x, S1))).2 (8 * m)) = snb (R (23 + (sram R m (sraN R j (x, S1))).2 (8 * m))) (7 - (q + 1)) (q + 1) (l - 1) q := by rw [he3, show 7 - q = (7 - (q + 1)) + 1 by omega, snb_t (by omega) hc160]
                              have e9 := ih3 (f3 - 1) (by omega) (q + 1) (l - 1) q ⟨by omega, by omega, by omega, e8⟩
                              first | refine z_idecN (pc := 166) (lv' := [(8, _), (0, _), (1, _), (2, _), (3, _), (4, _), (5, _), (6, _), (7, _), (9, _), (10, _)]) C dX12_rambleWhy_166 8 rfl (by omega) (by decide) rfl ?_ | refine z_iinc (pc := 166) (lv' := [(8, _), (0, _), (1, _), (2, _), (3, _), (4, _), (5, _), (6, _), (7, _), (9, _), (10, _)]) C dX12_rambleWhy_166 8 rfl _ rfl (by decide) rfl ?_
                              refine z_iload (pc := 169) C dX12_rambleWhy_169 10 rfl ?_
                              refine z_istore (pc := 171) (lv' := [(9, _), (8, _), (0, _), (1, _), (2, _), (3, _), (4, _), (5, _), (6, _), (7, _), (10, _)]) C dX12_rambleWhy_171 (by decide) rfl ?_
                              first | refine z_iincN (pc := 173) (lv' := [(10, _), (9, _), (8, _), (0, _), (1, _), (2, _), (3, _), (4, _), (5, _), (6, _), (7, _)]) C 1 dX12_rambleWhy_173 10 rfl (by decide) (by decide) rfl ?_ | refine z_iinc (pc := 173) (lv' := [(10, _), (9, _), (8, _), (0, _), (1, _), (2, _), (3, _), (4, _), (5, _), (6, _), (7, _)]) C dX12_rambleWhy_173 10 rfl _ rfl (by decide) rfl ?_
                              refine z_goto (pc := 176) C 129 dX12_rambleWhy_176 (by decide) ?_
                              refine z_sub (lv' := [(0, _), (1, _), (2, _), (3, _), (4, _), (5, _), (6, _), (7, _), (8, _), (9, _), (10, _)]) [3, 4, 5, 6, 7, 8, 9, 10, 2, 1, 0] rfl ?_
                              exact e9
                            · skip
                              have e8 : snb (R (23 + (sram R m (sraN R j (x, S1))).2 (8 * m))) 7 0 (sdraw (sram R m (sraN R j (x, S1))).1 % (1 + sone (R (23 + (sram R m (sraN R j (x, S1))).2 (8 * m))) 8)) ((sram R m (sraN R j (x, S1))).2 (8 * m)) = snb (R (23 + (sram R m (sraN R j (x, S1))).2 (8 * m))) (7 - (q + 1)) (q + 1) l p := by rw [he3, show 7 - q = (7 - (q + 1)) + 1 by omega, snb_f (by omega) hc160]
                              have e9 := ih3 (f3 - 1) (by omega) (q + 1) l p ⟨by omega, by omega, by omega, e8⟩
                              refine z_goto (pc := 163) C 173 dX12_rambleWhy_163 (by decide) ?_
                              first | refine z_iincN (pc := 173) (lv' := [(10, _), (0, _), (1, _), (2, _), (3, _), (4, _), (5, _), (6, _), (7, _), (8, _), (9, _)]) C 1 dX12_rambleWhy_173 10 rfl (by decide) (by decide) rfl ?_ | refine z_iinc (pc := 173) (lv' := [(10, _), (0, _), (1, _), (2, _), (3, _), (4, _), (5, _), (6, _), (7, _), (8, _), (9, _)]) C dX12_rambleWhy_173 10 rfl _ rfl (by decide) rfl ?_
                              refine z_goto (pc := 176) C 129 dX12_rambleWhy_176 (by decide) ?_
                              refine z_sub (lv' := [(0, _), (1, _), (2, _), (3, _), (4, _), (5, _), (6, _), (7, _), (8, _), (9, _), (10, _)]) [1, 2, 3, 4, 5, 6, 7, 8, 9, 10, 0] rfl ?_
                              exact e9
                    exact lp129 (R 1) 0 (sdraw (sram R m (sraN R j (x, S1))).1 % (1 + sone (R (23 + (sram R m (sraN R j (x, S1))).2 (8 * m))) 8)) ((sram R m (sraN R j (x, S1))).2 (8 * m)) ⟨by omega, by omega, by omega, rfl⟩
              exact lp65 (R 3) 0 h1 ⟨by omega, hM1, hT1, F1⟩
        exact lp56 c 0 h0 ⟨by omega, hM0, hT0, F0⟩
      · cases hc24
  · cases hc1

theorem tX12_rambleWhyQ {h : ZH} {v : Nat → Int32} {R S : Nat → Nat} {b0 : Bool} {x n0 : Int32} (hM : h 1063 = some (zO 8 (mfs v))) (hA : h 1066 = some (zI 241 R)) (hB : h 1070 = some (zI 40 S)) (hJ : mJ h) (hR : wfR R) (hS : wfS R S) :
    ZQ1 mX12_rambleWhy 4 [.ref 1063, .int (zb b0), .int x, .int n0] h (fun w hh => w = .int (nI (srw b0 (zlt x 65537 && zlt n0 61))) ∧ mQ h hh v ∧ (srw b0 (zlt x 65537 && zlt n0 61) = 0 → ∃ T v', hh 1073 = some (zI 40 T) ∧ hh 1063 = some (zO 8 (mfs v')) ∧ (∀ j, j < 40 → T j = (sraN R (pn n0) (pn x, S)).2 j) ∧ v' 32 = zo (sft (fun t => sMet R (sraN R t (pn x, S)).2) (pn n0)))) := by
  cases e : (b0 && (zlt x 65537 && zlt n0 61)) with
  | false =>
    have e2 : srw b0 (zlt x 65537 && zlt n0 61) = srw b0 false ∧ srw b0 (zlt x 65537 && zlt n0 61) ≠ 0 := by
      cases b0
      · exact ⟨rfl, by simp [srw]⟩
      · rw [Bool.true_and] at e; rw [e]; exact ⟨rfl, by decide⟩
    refine (tX12_rambleWhyN e).q1 ⟨by rw [e2.1], mQ.rf hM hJ, fun z => absurd z e2.2⟩
  | true =>
    simp only [Bool.and_eq_true] at e
    obtain ⟨rfl, e1, e2⟩ := e
    obtain ⟨i, hi, rfl⟩ := zlt_of (by decide) e1
    obtain ⟨c, hc, rfl⟩ := zlt_of (by decide) e2
    obtain ⟨T, hT⟩ := hJ.1
    refine (tX12_rambleWhyY hM hA hB hT hR hS rfl hi (by omega)).mono ?_
    rintro w hh ⟨rfl, h1, h2, h3⟩
    have w3 := hR.2.1
    have hq : sEq (i, ncpy S T 0 0 40) (i, S) := ⟨rfl, fun j hj => ncpy_00 _ _ hj⟩
    refine ⟨by rw [e1, e2]; rfl, ⟨⟨_, h2, (mV.rf v).up _ (by decide)⟩, hJ.fr h1 h3, fun a q1 q2 => h3 a q1 (by omega)⟩, fun _ => ⟨_, _, h1, h2, fun j hj => ?_, ?_⟩⟩
    · rw [pn_nI (by omega), pn_nI (by omega)]; exact (sraN_congr w3 hq c).2 j hj
    · rw [pn_nI (by omega), pn_nI (by omega)]
      show zo _ = zo _
      rw [sft_congr (fun t => sMet_congr w3 (sraN_congr w3 hq t).2)]

set_option maxRecDepth 20000 in
set_option maxHeartbeats 1000000 in
theorem tX12_rambles {h : ZH} {v : Nat → Int32} {R S : Nat → Nat} {b : Bool} {m x n0 : Int32} (hM : h 1063 = some (zO 8 (mfs v))) (hA : h 1066 = some (zI 241 R)) (hB : h 1070 = some (zI 40 S)) (hJ : mJ h) (hR : wfR R) (hS : wfS R S) (hF : v 14 = zb b) (hb : wfB b R) : ZQ1 mX12_rambles 6 [.ref 1063, .int m, .int x, .int n0] h (fun w hh => w = .int (aRam R S m x n0).1 ∧ mQ h hh (mv v (aRam R S m x n0).2)) := by
  intro n
  obtain ⟨w1, w3, w4, w5, w0, wP, wM, wK, wX⟩ := id hR
  obtain ⟨wT, wL, wB⟩ := id hS
  refine z_enter (lv := [(0, _), (1, _), (2, _), (3, _)]) (by decide) (Nat.le_of_ble_eq_true rfl) rfl (fun X C => ?_)
  refine z_aload_n (pc := 0) C dX12_rambles_0 0 rfl ?_
  refine z_cV0 (pc := 1) mX12_good C [] dX12_rambles_1 lX12_167 mtX12_good (tX12_good (by first | assumption | omega)) (by assumption) rfl rfl (by decide) (Nat.le_of_ble_eq_true rfl) (Nat.zero_le _) (Nat.zero_le _) ?_
  have hM1 : zup h 1063 (zO 8 (mfs (upd (upd v 0 0) 11 0))) 1063 = some (zO 8 (mfs (upd (upd v 0 0) 11 0))) := zup_same _ _ _
  have hA1 : zup h 1063 (zO 8 (mfs (upd (upd v 0 0) 11 0))) 1066 = some (zI 241 R) := (zup_ne (by decide)).trans hA
  have hB1 : zup h 1063 (zO 8 (mfs (upd (upd v 0 0) 11 0))) 1070 = some (zI 40 S) := (zup_ne (by decide)).trans hB
  have hF1 : upd (upd v 0 0) 11 0 14 = zb b := hF
  generalize hg : zup h 1063 (zO 8 (mfs (upd (upd v 0 0) 11 0))) = h1 at hM1 hA1 hB1 ⊢
  have hJ1 : mJ h1 := by rw [← hg]; exact hJ.up _
  refine z_aload_n (pc := 4) C dX12_rambles_4 0 rfl ?_
  refine z_aload_n (pc := 5) C dX12_rambles_5 0 rfl ?_
  refine z_iload_n (pc := 6) C dX12_rambles_6 1 rfl ?_
  refine z_cV1 (pc := 7) mX12_isMan C [_] dX12_rambles_7 lX12_288 mtX12_isMan (tX12_isMan (by first | assumption | omega) (by first | assumption | omega) (by first | assumption | omega) (by first | assumption | omega)) (by assumption) rfl rfl (by decide) (Nat.le_of_ble_eq_true rfl) (Nat.zero_le _) (Nat.zero_le _) ?_
  rw [wfB_m hb m]
  refine z_iload_n (pc := 10) C dX12_rambles_10 2 rfl ?_
  refine z_iload_n (pc := 11) C dX12_rambles_11 3 rfl ?_
  refine z_cV1Q (pc := 12) mX12_rambleWhy C [_, _, _] dX12_rambles_12 lX12_410 mtX12_rambleWhy (tX12_rambleWhyQ hM1 hA1 hB1 hJ1 hR hS) (by assumption) rfl rfl (by decide) (Nat.le_of_ble_eq_true rfl) (Nat.zero_le _) (Nat.zero_le _) ?_
  rintro _ h2 ⟨rfl, Q2, hY⟩
  obtain ⟨⟨v2, hM2, hV2⟩, hJ2, F2⟩ := id Q2
  have e9 := srw_le (zlt m (R 3)) (zlt x 65537 && zlt n0 61)
  refine z_istore (pc := 15) (lv' := [(4, _), (0, _), (1, _), (2, _), (3, _)]) C dX12_rambles_15 (by decide) rfl ?_
  refine z_iload (pc := 17) C dX12_rambles_17 0 rfl ?_
  first | refine z_ifeqB (pc := 19) C 31 dX12_rambles_19 (by decide) (fun hc19 => ?_) (fun hc19 => ?_) | refine z_ifeqN (pc := 19) C 31 dX12_rambles_19 (by decide) (by omega) (fun hc19 => ?_) (fun hc19 => ?_) | refine z_if_eq (pc := 19) C 31 dX12_rambles_19 (by decide) (fun hc19 => ?_) (fun hc19 => ?_)
  · skip
    obtain ⟨e6, e7⟩ := srw_0.mp hc19
    obtain ⟨T2, v3, hT2, hM3, hE, hU⟩ := hY hc19
    obtain ⟨e8, e10⟩ := (Bool.and_eq_true _ _).mp e7
    obtain ⟨j, hj, rfl⟩ := zlt_of (by omega) e6
    have pj := pn_nI (j := j) (by omega)
    have hEj := hE (8 * j) (by omega)
    refine z_aload_n (pc := 31) C dX12_rambles_31 1 rfl ?_
    refine z_getf (pc := 32) C dX12_rambles_32 fX12_41 hM2 (by first | rfl | assumption) ?_
    refine z_bipush (pc := 35) C dX12_rambles_35 (nI 8) (by decide) ?_
    refine z_iload_n (pc := 37) C dX12_rambles_37 2 rfl ?_
    first | refine z_imulN (pc := 38) C dX12_rambles_38 ?_ | refine z_imul (pc := 38) C dX12_rambles_38 ?_
    first | refine z_ialdN (pc := 39) C dX12_rambles_39 hT2 (by omega) (by decide) ?_ | refine z_ialdI (pc := 39) C dX12_rambles_39 hT2 (by omega) (by decide) ?_
    refine z_iret (pc := 40) C dX12_rambles_40 rfl (Nat.zero_le _) (Nat.zero_le _) ⟨_, rfl, ?_, rfl⟩
    first
      | exact ⟨by simp [aRam, aRm, *], mQ.eq (t := 0) (by simp [aRam, aRm, *]) (mQ.ok hg Q2)⟩
      | skip
        cases z1 : zlt m (R 3) with
        | false => exact ⟨by simp [aRam, aRm, z1], mQ.eq (t := 1) (by simp [aRam, aRm, z1]) (mQ.no hg hM2 Q2)⟩
        | true =>
          cases z2 : (zlt x 65537 && zlt n0 61) with
          | false => exact ⟨by simp [aRam, aRm, z1, z2], mQ.eq (t := 2) (by simp [aRam, aRm, z1, z2]) (mQ.no hg hM2 Q2)⟩
          | true => exact absurd (by rw [z1, z2]; rfl) e5
  · skip
    have e5 : ¬ srw _ _ = 0 := Nat.ne_of_gt hc19
    refine z_aload_n (pc := 22) C dX12_rambles_22 1 rfl ?_
    refine z_iload (pc := 23) C dX12_rambles_23 0 rfl ?_
    refine z_cV1 (pc := 25) mX12_no C [_] dX12_rambles_25 lX12_170 mtX12_no (tX12_no hM2) hM2 rfl rfl (by decide) (Nat.le_of_ble_eq_true rfl) (Nat.zero_le _) (Nat.zero_le _) ?_
    refine z_goto (pc := 28) C 40 dX12_rambles_28 (by decide) ?_
    refine z_iret (pc := 40) C dX12_rambles_40 rfl (Nat.zero_le _) (Nat.zero_le _) ⟨_, rfl, ?_, rfl⟩
    first
      | exact ⟨by simp [aRam, aRm, *], mQ.eq (t := 0) (by simp [aRam, aRm, *]) (mQ.ok hg Q2)⟩
      | skip
        cases z1 : zlt m (R 3) with
        | false => exact ⟨by simp [aRam, aRm, z1], mQ.eq (t := 1) (by simp [aRam, aRm, z1]) (mQ.no hg hM2 Q2)⟩
        | true =>
          cases z2 : (zlt x 65537 && zlt n0 61) with
          | false => exact ⟨by simp [aRam, aRm, z1, z2], mQ.eq (t := 2) (by simp [aRam, aRm, z1, z2]) (mQ.no hg hM2 Q2)⟩
          | true => exact absurd (by rw [z1, z2]; rfl) e5

set_option maxRecDepth 20000 in
set_option maxHeartbeats 1000000 in
theorem tX12_stands {h : ZH} {v : Nat → Int32} {R S : Nat → Nat} {b : Bool} {k x n0 : Int32} (hM : h 1063 = some (zO 8 (mfs v))) (hA : h 1066 = some (zI 241 R)) (hB : h 1070 = some (zI 40 S)) (hJ : mJ h) (hR : wfR R) (hS : wfS R S) (hF : v 14 = zb b) (hb : wfB b R) : ZQ1 mX12_stands 6 [.ref 1063, .int k, .int x, .int n0] h (fun w hh => w = .int (aSta R S k x n0).1 ∧ mQ h hh (mv v (aSta R S k x n0).2)) := by
  intro n
  obtain ⟨w1, w3, w4, w5, w0, wP, wM, wK, wX⟩ := id hR
  obtain ⟨wT, wL, wB⟩ := id hS
  refine z_enter (lv := [(0, _), (1, _), (2, _), (3, _)]) (by decide) (Nat.le_of_ble_eq_true rfl) rfl (fun X C => ?_)
  refine z_aload_n (pc := 0) C dX12_stands_0 0 rfl ?_
  refine z_cV0 (pc := 1) mX12_good C [] dX12_stands_1 lX12_167 mtX12_good (tX12_good (by first | assumption | omega)) (by assumption) rfl rfl (by decide) (Nat.le_of_ble_eq_true rfl) (Nat.zero_le _) (Nat.zero_le _) ?_
  have hM1 : zup h 1063 (zO 8 (mfs (upd (upd v 0 0) 11 0))) 1063 = some (zO 8 (mfs (upd (upd v 0 0) 11 0))) := zup_same _ _ _
  have hA1 : zup h 1063 (zO 8 (mfs (upd (upd v 0 0) 11 0))) 1066 = some (zI 241 R) := (zup_ne (by decide)).trans hA
  have hB1 : zup h 1063 (zO 8 (mfs (upd (upd v 0 0) 11 0))) 1070 = some (zI 40 S) := (zup_ne (by decide)).trans hB
  have hF1 : upd (upd v 0 0) 11 0 14 = zb b := hF
  generalize hg : zup h 1063 (zO 8 (mfs (upd (upd v 0 0) 11 0))) = h1 at hM1 hA1 hB1 ⊢
  have hJ1 : mJ h1 := by rw [← hg]; exact hJ.up _
  refine z_aload_n (pc := 4) C dX12_stands_4 0 rfl ?_
  refine z_aload_n (pc := 5) C dX12_stands_5 0 rfl ?_
  refine z_iload_n (pc := 6) C dX12_stands_6 1 rfl ?_
  refine z_cV1 (pc := 7) mX12_isKill C [_] dX12_stands_7 lX12_300 mtX12_isKill (tX12_isKill (by first | assumption | omega) (by first | assumption | omega) (by first | assumption | omega) (by first | assumption | omega)) (by assumption) rfl rfl (by decide) (Nat.le_of_ble_eq_true rfl) (Nat.zero_le _) (Nat.zero_le _) ?_
  rw [wfB_k hb k]
  refine z_iload_n (pc := 10) C dX12_stands_10 2 rfl ?_
  refine z_iload_n (pc := 11) C dX12_stands_11 3 rfl ?_
  refine z_cV1Q (pc := 12) mX12_rambleWhy C [_, _, _] dX12_stands_12 lX12_410 mtX12_rambleWhy (tX12_rambleWhyQ hM1 hA1 hB1 hJ1 hR hS) (by assumption) rfl rfl (by decide) (Nat.le_of_ble_eq_true rfl) (Nat.zero_le _) (Nat.zero_le _) ?_
  rintro _ h2 ⟨rfl, Q2, hY⟩
  obtain ⟨⟨v2, hM2, hV2⟩, hJ2, F2⟩ := id Q2
  have e9 := srw_le (zlt k (R 4)) (zlt x 65537 && zlt n0 61)
  refine z_istore (pc := 15) (lv' := [(4, _), (0, _), (1, _), (2, _), (3, _)]) C dX12_stands_15 (by decide) rfl ?_
  refine z_iload (pc := 17) C dX12_stands_17 0 rfl ?_
  first | refine z_ifeqB (pc := 19) C 31 dX12_stands_19 (by decide) (fun hc19 => ?_) (fun hc19 => ?_) | refine z_ifeqN (pc := 19) C 31 dX12_stands_19 (by decide) (by omega) (fun hc19 => ?_) (fun hc19 => ?_) | refine z_if_eq (pc := 19) C 31 dX12_stands_19 (by decide) (fun hc19 => ?_) (fun hc19 => ?_)
  · skip
    obtain ⟨e6, e7⟩ := srw_0.mp hc19
    obtain ⟨T2, v3, hT2, hM3, hE, hU⟩ := hY hc19
    obtain ⟨e8, e10⟩ := (Bool.and_eq_true _ _).mp e7
    obtain ⟨j, hj, rfl⟩ := zlt_of (by omega) e6
    have pj := pn_nI (j := j) (by omega)
    have hx := zlt_of (by decide) e8
    obtain ⟨i, hi, hi2⟩ := hx
    have hW := (sraN_wf hR (s := (pn x, S)) hS (by show pn x < _; rw [hi2, pn_nI (by omega)]; exact hi) (pn n0)).1
    have hW2 := wfS_congr hR hW (T := T2) (fun y hy => hE y (by omega))
    have hst := sstd_congr hR hW (T := T2) (fun y hy => hE y (by omega)) hj
    have hA2 : h2 1066 = _ := (F2 1066 (by decide) (by decide)).trans hA1
    clear hi hi2
    refine z_aload_n (pc := 31) C dX12_stands_31 1 rfl ?_
    refine z_aload_n (pc := 32) C dX12_stands_32 1 rfl ?_
    refine z_getf (pc := 33) C dX12_stands_33 fX12_41 hM2 (by first | rfl | assumption) ?_
    refine z_iload_n (pc := 36) C dX12_stands_36 2 rfl ?_
    refine z_cV1 (pc := 37) mX12_standsOf C [_, _] dX12_stands_37 lX12_269 mtX12_standsOf (tX12_standsOf hM2 hA2 hT2 hR hW2 hj) hM2 rfl rfl (by decide) (Nat.le_of_ble_eq_true rfl) (Nat.zero_le _) (Nat.zero_le _) ?_
    refine z_iret (pc := 40) C dX12_stands_40 rfl (Nat.zero_le _) (Nat.zero_le _) ⟨_, rfl, ?_, rfl⟩
    first
      | exact ⟨by simp [aSta, aRm, *], mQ.eq (t := 0) (by simp [aSta, aRm, *]) (mQ.ok hg Q2)⟩
      | skip
        cases z1 : zlt k (R 4) with
        | false => exact ⟨by simp [aSta, aRm, z1], mQ.eq (t := 1) (by simp [aSta, aRm, z1]) (mQ.no hg hM2 Q2)⟩
        | true =>
          cases z2 : (zlt x 65537 && zlt n0 61) with
          | false => exact ⟨by simp [aSta, aRm, z1, z2], mQ.eq (t := 2) (by simp [aSta, aRm, z1, z2]) (mQ.no hg hM2 Q2)⟩
          | true => exact absurd (by rw [z1, z2]; rfl) e5
  · skip
    have e5 : ¬ srw _ _ = 0 := Nat.ne_of_gt hc19
    refine z_aload_n (pc := 22) C dX12_stands_22 1 rfl ?_
    refine z_iload (pc := 23) C dX12_stands_23 0 rfl ?_
    refine z_cV1 (pc := 25) mX12_no C [_] dX12_stands_25 lX12_170 mtX12_no (tX12_no hM2) hM2 rfl rfl (by decide) (Nat.le_of_ble_eq_true rfl) (Nat.zero_le _) (Nat.zero_le _) ?_
    refine z_goto (pc := 28) C 40 dX12_stands_28 (by decide) ?_
    refine z_iret (pc := 40) C dX12_stands_40 rfl (Nat.zero_le _) (Nat.zero_le _) ⟨_, rfl, ?_, rfl⟩
    first
      | exact ⟨by simp [aSta, aRm, *], mQ.eq (t := 0) (by simp [aSta, aRm, *]) (mQ.ok hg Q2)⟩
      | skip
        cases z1 : zlt k (R 4) with
        | false => exact ⟨by simp [aSta, aRm, z1], mQ.eq (t := 1) (by simp [aSta, aRm, z1]) (mQ.no hg hM2 Q2)⟩
        | true =>
          cases z2 : (zlt x 65537 && zlt n0 61) with
          | false => exact ⟨by simp [aSta, aRm, z1, z2], mQ.eq (t := 2) (by simp [aSta, aRm, z1, z2]) (mQ.no hg hM2 Q2)⟩
          | true => exact absurd (by rw [z1, z2]; rfl) e5

set_option maxRecDepth 20000 in
set_option maxHeartbeats 1000000 in
theorem tX12_meet {h : ZH} {v : Nat → Int32} {R S : Nat → Nat} {b : Bool} {x n0 : Int32} (hM : h 1063 = some (zO 8 (mfs v))) (hA : h 1066 = some (zI 241 R)) (hB : h 1070 = some (zI 40 S)) (hJ : mJ h) (hR : wfR R) (hS : wfS R S) (hF : v 14 = zb b) (hb : wfB b R) : ZQ1 mX12_meet 6 [.ref 1063, .int x, .int n0] h (fun w hh => w = .int (aMee R S x n0).1 ∧ mQ h hh (mv v (aMee R S x n0).2)) := by
  intro n
  obtain ⟨w1, w3, w4, w5, w0, wP, wM, wK, wX⟩ := id hR
  obtain ⟨wT, wL, wB⟩ := id hS
  refine z_enter (lv := [(0, _), (1, _), (2, _)]) (by decide) (Nat.le_of_ble_eq_true rfl) rfl (fun X C => ?_)
  refine z_aload_n (pc := 0) C dX12_meet_0 0 rfl ?_
  refine z_cV0 (pc := 1) mX12_good C [] dX12_meet_1 lX12_167 mtX12_good (tX12_good (by first | assumption | omega)) (by assumption) rfl rfl (by decide) (Nat.le_of_ble_eq_true rfl) (Nat.zero_le _) (Nat.zero_le _) ?_
  have hM1 : zup h 1063 (zO 8 (mfs (upd (upd v 0 0) 11 0))) 1063 = some (zO 8 (mfs (upd (upd v 0 0) 11 0))) := zup_same _ _ _
  have hA1 : zup h 1063 (zO 8 (mfs (upd (upd v 0 0) 11 0))) 1066 = some (zI 241 R) := (zup_ne (by decide)).trans hA
  have hB1 : zup h 1063 (zO 8 (mfs (upd (upd v 0 0) 11 0))) 1070 = some (zI 40 S) := (zup_ne (by decide)).trans hB
  have hF1 : upd (upd v 0 0) 11 0 14 = zb b := hF
  generalize hg : zup h 1063 (zO 8 (mfs (upd (upd v 0 0) 11 0))) = h1 at hM1 hA1 hB1 ⊢
  have hJ1 : mJ h1 := by rw [← hg]; exact hJ.up _
  refine z_aload_n (pc := 4) C dX12_meet_4 0 rfl ?_
  refine z_aload_n (pc := 5) C dX12_meet_5 0 rfl ?_
  refine z_getf (pc := 6) C dX12_meet_6 fX12_180 (by assumption) (by first | rfl | assumption) ?_
  rw [hF1, hb.1]
  refine z_iload_n (pc := 9) C dX12_meet_9 1 rfl ?_
  refine z_iload_n (pc := 10) C dX12_meet_10 2 rfl ?_
  refine z_cV1Q (pc := 11) mX12_rambleWhy C [_, _, _] dX12_meet_11 lX12_410 mtX12_rambleWhy (tX12_rambleWhyQ hM1 hA1 hB1 hJ1 hR hS) (by assumption) rfl rfl (by decide) (Nat.le_of_ble_eq_true rfl) (Nat.zero_le _) (Nat.zero_le _) ?_
  rintro _ h2 ⟨rfl, Q2, hY⟩
  obtain ⟨⟨v2, hM2, hV2⟩, hJ2, F2⟩ := id Q2
  have e9 := srw_le (decide (0 < R 1)) (zlt x 65537 && zlt n0 61)
  refine z_istore_n (pc := 14) (lv' := [(3, _), (0, _), (1, _), (2, _)]) C dX12_meet_14 (by decide) rfl ?_
  refine z_iload_n (pc := 15) C dX12_meet_15 0 rfl ?_
  first | refine z_ifeqB (pc := 16) C 27 dX12_meet_16 (by decide) (fun hc16 => ?_) (fun hc16 => ?_) | refine z_ifeqN (pc := 16) C 27 dX12_meet_16 (by decide) (by omega) (fun hc16 => ?_) (fun hc16 => ?_) | refine z_if_eq (pc := 16) C 27 dX12_meet_16 (by decide) (fun hc16 => ?_) (fun hc16 => ?_)
  · skip
    obtain ⟨e6, e7⟩ := srw_0.mp hc16
    obtain ⟨T2, v3, hT2, hM3, hE, hU⟩ := hY hc16
    obtain ⟨e8, e10⟩ := (Bool.and_eq_true _ _).mp e7
    have e6 := of_decide_eq_true e6
    refine z_aload_n (pc := 27) C dX12_meet_27 1 rfl ?_
    refine z_getf (pc := 28) C dX12_meet_28 fX12_402 hM3 (by first | rfl | assumption) ?_
    refine z_iret (pc := 31) C dX12_meet_31 rfl (Nat.zero_le _) (Nat.zero_le _) ⟨_, rfl, ?_, rfl⟩
    first
      | exact ⟨by simp [aMee, aRm, *], mQ.eq (t := 0) (by simp [aMee, aRm, *]) (mQ.ok hg Q2)⟩
      | skip
        cases z1 : decide (0 < R 1) with
        | false => exact ⟨by simp [aMee, aRm, z1], mQ.eq (t := 1) (by simp [aMee, aRm, z1]) (mQ.no hg hM2 Q2)⟩
        | true =>
          cases z2 : (zlt x 65537 && zlt n0 61) with
          | false => exact ⟨by simp [aMee, aRm, z1, z2], mQ.eq (t := 2) (by simp [aMee, aRm, z1, z2]) (mQ.no hg hM2 Q2)⟩
          | true => exact absurd (by rw [z1, z2]; rfl) e5
  · skip
    have e5 : ¬ srw _ _ = 0 := Nat.ne_of_gt hc16
    refine z_aload_n (pc := 19) C dX12_meet_19 1 rfl ?_
    refine z_iload_n (pc := 20) C dX12_meet_20 0 rfl ?_
    refine z_cV1 (pc := 21) mX12_no C [_] dX12_meet_21 lX12_170 mtX12_no (tX12_no hM2) hM2 rfl rfl (by decide) (Nat.le_of_ble_eq_true rfl) (Nat.zero_le _) (Nat.zero_le _) ?_
    refine z_goto (pc := 24) C 31 dX12_meet_24 (by decide) ?_
    refine z_iret (pc := 31) C dX12_meet_31 rfl (Nat.zero_le _) (Nat.zero_le _) ⟨_, rfl, ?_, rfl⟩
    first
      | exact ⟨by simp [aMee, aRm, *], mQ.eq (t := 0) (by simp [aMee, aRm, *]) (mQ.ok hg Q2)⟩
      | skip
        cases z1 : decide (0 < R 1) with
        | false => exact ⟨by simp [aMee, aRm, z1], mQ.eq (t := 1) (by simp [aMee, aRm, z1]) (mQ.no hg hM2 Q2)⟩
        | true =>
          cases z2 : (zlt x 65537 && zlt n0 61) with
          | false => exact ⟨by simp [aMee, aRm, z1, z2], mQ.eq (t := 2) (by simp [aMee, aRm, z1, z2]) (mQ.no hg hM2 Q2)⟩
          | true => exact absurd (by rw [z1, z2]; rfl) e5
