theorem sEn_lt {c B : Nat → Nat} {nc i : Nat} {t : Nat × Nat × Nat} (h : sEn c nc B t = some i) : t.1 = 1 ∧ i < nc := by
  unfold sEn at h
  split at h
  · have := (sfst_some _ _ _ h).2.1
    exact ⟨by assumption, by omega⟩
  · cases h
theorem NTp.c63 {R c so nu ix : Nat → Nat} {nc : Nat} (hT : NTp R c so nu ix nc) (hN : rNm R) : ∀ i, i < nc → c i < 2 ^ 63 := by
  obtain ⟨c1, c2, c3, c4, -⟩ := hT
  intro i hi
  by_cases q : i < 8
  · rw [(c3 i q).1]; exact scd_63 (kw_ok ⟨i, q⟩).1
  · obtain ⟨d1, -, d3, -⟩ := c4 i (by omega) hi
    rw [d3]; exact scd_63 (hN.2 _ d1).1

set_option maxRecDepth 20000 in
set_option maxHeartbeats 1000000 in
theorem tX4_findName {h : ZH} {ff fa : Int32} {nc s len n0 : Nat} {B : Nat → Nat} {t : Nat × Nat × Nat} {R c so nu ix : Nat → Nat} {q lo hi : Nat} (h1 : h 1001 = some (zO 2 (rdf ff fa nc s))) (hT : TpA h len n0 B t) (hN4 : NT h R c so nu) (hNT : NTp R c so nu ix nc) (hNm : rNm R) (hn : nc ≤ 28) (hk : sTk B n0 t) (hq : (q = 1 ∧ lo = 0 ∧ hi = 6) ∨ (q = 3 ∧ lo = 7 ∧ hi = 10) ∨ (q = 4 ∧ lo = 11 ∧ hi = 16)) : ZD mX4_findName 3 [.ref 1001, .int (nI q)] h (some (.int (sFv R B lo hi t))) (fo h nc s (sNmd R B lo hi t)) := by
  intro n
  have h2 := hT.2
  have hS1 := fun hw => sEn_ok hNT hNm hk hw
  have et : t.1 ≤ 4 := hk.1
  refine z_enter (lv := [(0, _), (1, _)]) (by decide) (Nat.le_of_ble_eq_true rfl) rfl (fun X C => ?_)
  refine z_aload_n (pc := 0) C dX4_findName_0 0 rfl ?_
  refine z_cV1 (pc := 1) mX4_entryOfWord C [] dX4_findName_1 lX4_99 mtX4_entryOfWord (tX4_entryOfWord h1 hT hN4.1 hn hk (hNT.c63 hNm)) h1 rfl rfl (by decide) (Nat.le_of_ble_eq_true rfl) (Nat.zero_le _) (Nat.zero_le _) ?_
  rcases hE : sEn c nc B t with _ | i
  · skip
    first | refine z_top (show zm (some i) = nI i from rfl) ?_ | skip
    try have hi0 := sEn_lt hE
    refine z_istore_n (pc := 4) (lv' := [(2, _), (0, _), (1, _)]) C dX4_findName_4 (by decide) rfl ?_
    refine z_aload_n (pc := 5) C dX4_findName_5 1 rfl ?_
    refine z_getf (pc := 6) C dX4_findName_6 fX4_12 h1 (by first | rfl | assumption) ?_
    refine z_getf (pc := 9) C dX4_findName_9 fX4_87 h2 (by first | rfl | assumption) ?_
    refine z_iconst (pc := 12) C dX4_findName_12 (nI 1) (by decide) ?_
    first | refine z_icmpneN (pc := 13) C 26 dX4_findName_13 (by decide) (by omega) (by omega) (fun hc13 => ?_) (fun hc13 => ?_) | refine z_icmp_ne (pc := 13) C 26 dX4_findName_13 (by decide) (fun hc13 => ?_) (fun hc13 => ?_)
    · skip
      have eN : sNmd R B lo hi t = .inr (1, t.2.1) := by unfold sNmd; rw [if_neg (by unfold sIn; rw [decide_eq_false hc13]; simp)]
      refine z_aload_n (pc := 26) C dX4_findName_26 1 rfl ?_
      refine z_iconst (pc := 27) C dX4_findName_27 (nI 1) (by decide) ?_
      refine z_cV1 (pc := 28) mX4_failed C [_] dX4_findName_28 lX4_102 mtX4_failed (tX4_failed h1 hT) h1 rfl rfl (by decide) (Nat.le_of_ble_eq_true rfl) (Nat.zero_le _) (Nat.zero_le _) ?_
      refine z_iret (pc := 31) C dX4_findName_31 rfl (Nat.zero_le _) (Nat.zero_le _) ⟨?_, ?_, rfl⟩
      · unfold sFv; rw [eN]
      · unfold fo; rw [eN]
    · skip
      obtain ⟨S1, S2, S3⟩ := hS1 hc13
      refine z_iload_n (pc := 16) C dX4_findName_16 0 rfl ?_
      first | refine z_ifltO (pc := 17) C 32 dX4_findName_17 (by decide) (by assumption) (fun hc17 => ?_) (fun hc17 => ?_) | refine z_ifltN (pc := 17) C 32 dX4_findName_17 (by decide) (by omega) (fun hc17 => ?_) (fun hc17 => ?_) | refine z_if_lt (pc := 17) C 32 dX4_findName_17 (by decide) (fun hc17 => ?_) (fun hc17 => ?_)
      · skip
        refine z_iload_n (pc := 32) C dX4_findName_32 0 rfl ?_
        first | refine z_ifltO (pc := 33) C 46 dX4_findName_33 (by decide) (by assumption) (fun hc33 => ?_) (fun hc33 => ?_) | refine z_ifltN (pc := 33) C 46 dX4_findName_33 (by decide) (by omega) (fun hc33 => ?_) (fun hc33 => ?_) | refine z_if_lt (pc := 33) C 46 dX4_findName_33 (by decide) (fun hc33 => ?_) (fun hc33 => ?_)
        · skip
          obtain ⟨j4, j5⟩ := S2 hE
          have eN : sNmd R B lo hi t = .inr (2, t.2.1) := by unfold sNmd; rw [if_pos j4, j5]
          refine z_aload_n (pc := 46) C dX4_findName_46 1 rfl ?_
          refine z_iconst (pc := 47) C dX4_findName_47 (nI 2) (by decide) ?_
          refine z_cV1 (pc := 48) mX4_failed C [_] dX4_findName_48 lX4_102 mtX4_failed (tX4_failed h1 hT) h1 rfl rfl (by decide) (Nat.le_of_ble_eq_true rfl) (Nat.zero_le _) (Nat.zero_le _) ?_
          refine z_iret (pc := 51) C dX4_findName_51 rfl (Nat.zero_le _) (Nat.zero_le _) ⟨?_, ?_, rfl⟩
          · unfold sFv; rw [eN]
          · unfold fo; rw [eN]
        · exact absurd (by decide) hc33
      · exact absurd (by decide) hc17
  · skip
    first | refine z_top (show zm (some i) = nI i from rfl) ?_ | skip
    try have hi0 := sEn_lt hE
    refine z_istore_n (pc := 4) (lv' := [(2, _), (0, _), (1, _)]) C dX4_findName_4 (by decide) rfl ?_
    refine z_aload_n (pc := 5) C dX4_findName_5 1 rfl ?_
    refine z_getf (pc := 6) C dX4_findName_6 fX4_12 h1 (by first | rfl | assumption) ?_
    refine z_getf (pc := 9) C dX4_findName_9 fX4_87 h2 (by first | rfl | assumption) ?_
    refine z_iconst (pc := 12) C dX4_findName_12 (nI 1) (by decide) ?_
    first | refine z_icmpneN (pc := 13) C 26 dX4_findName_13 (by decide) (by omega) (by omega) (fun hc13 => ?_) (fun hc13 => ?_) | refine z_icmp_ne (pc := 13) C 26 dX4_findName_13 (by decide) (fun hc13 => ?_) (fun hc13 => ?_)
    · skip
      have eN : sNmd R B lo hi t = .inr (1, t.2.1) := by unfold sNmd; rw [if_neg (by unfold sIn; rw [decide_eq_false hc13]; simp)]
      refine z_aload_n (pc := 26) C dX4_findName_26 1 rfl ?_
      refine z_iconst (pc := 27) C dX4_findName_27 (nI 1) (by decide) ?_
      refine z_cV1 (pc := 28) mX4_failed C [_] dX4_findName_28 lX4_102 mtX4_failed (tX4_failed h1 hT) h1 rfl rfl (by decide) (Nat.le_of_ble_eq_true rfl) (Nat.zero_le _) (Nat.zero_le _) ?_
      refine z_iret (pc := 31) C dX4_findName_31 rfl (Nat.zero_le _) (Nat.zero_le _) ⟨?_, ?_, rfl⟩
      · unfold sFv; rw [eN]
      · unfold fo; rw [eN]
    · skip
      obtain ⟨S1, S2, S3⟩ := hS1 hc13
      refine z_iload_n (pc := 16) C dX4_findName_16 0 rfl ?_
      first | refine z_ifltO (pc := 17) C 32 dX4_findName_17 (by decide) (by assumption) (fun hc17 => ?_) (fun hc17 => ?_) | refine z_ifltN (pc := 17) C 32 dX4_findName_17 (by decide) (by omega) (fun hc17 => ?_) (fun hc17 => ?_) | refine z_if_lt (pc := 17) C 32 dX4_findName_17 (by decide) (fun hc17 => ?_) (fun hc17 => ?_)
      · exact hc17.elim
      · skip
        refine z_iload_n (pc := 20) C dX4_findName_20 0 rfl ?_
        refine z_bipush (pc := 21) C dX4_findName_21 (nI 8) (by decide) ?_
        first | refine z_icmpgeN (pc := 23) C 32 dX4_findName_23 (by decide) (by omega) (by omega) (fun hc23 => ?_) (fun hc23 => ?_) | refine z_icmp_ge (pc := 23) C 32 dX4_findName_23 (by decide) (fun hc23 => ?_) (fun hc23 => ?_)
        · skip
          obtain ⟨j1, -, j3⟩ := S1 i hE
          obtain ⟨j4, j5⟩ := j3 (by omega)
          obtain ⟨-, -, -, d4, -⟩ := id hNT
          obtain ⟨d5, d6, d7, d8, d9⟩ := d4 i (by omega) j1
          obtain ⟨u1, u2, u3, u4⟩ := nSo_in hq d5
          refine z_iload_n (pc := 32) C dX4_findName_32 0 rfl ?_
          first | refine z_ifltO (pc := 33) C 46 dX4_findName_33 (by decide) (by assumption) (fun hc33 => ?_) (fun hc33 => ?_) | refine z_ifltN (pc := 33) C 46 dX4_findName_33 (by decide) (by omega) (fun hc33 => ?_) (fun hc33 => ?_) | refine z_if_lt (pc := 33) C 46 dX4_findName_33 (by decide) (fun hc33 => ?_) (fun hc33 => ?_)
          · exact hc33.elim
          · skip
            refine z_aload_n (pc := 36) C dX4_findName_36 1 rfl ?_
            refine z_getf (pc := 37) C dX4_findName_37 fX4_22 h1 (by first | rfl | assumption) ?_
            refine z_iload_n (pc := 40) C dX4_findName_40 0 rfl ?_
            first | refine z_ialdN (pc := 41) C dX4_findName_41 hN4.2.1 (by omega) (by decide) ?_ | refine z_ialdI (pc := 41) C dX4_findName_41 hN4.2.1 (by omega) (by decide) ?_
            refine z_iload_n (pc := 42) C dX4_findName_42 2 rfl ?_
            first | refine z_icmpeqN (pc := 43) C 52 dX4_findName_43 (by decide) (by omega) (by omega) (fun hc43 => ?_) (fun hc43 => ?_) | refine z_icmp_eq (pc := 43) C 52 dX4_findName_43 (by decide) (fun hc43 => ?_) (fun hc43 => ?_)
            · skip
              have eN : sNmd R B lo hi t = .inl t := by unfold sNmd; rw [if_pos j4, j5]; exact if_pos (u1.mp (d8.symm.trans hc43))
              refine z_aload_n (pc := 52) C dX4_findName_52 1 rfl ?_
              refine z_getf (pc := 53) C dX4_findName_53 fX4_26 h1 (by first | rfl | assumption) ?_
              refine z_iload_n (pc := 56) C dX4_findName_56 0 rfl ?_
              first | refine z_ialdN (pc := 57) C dX4_findName_57 hN4.2.2 (by omega) (by decide) ?_ | refine z_ialdI (pc := 57) C dX4_findName_57 hN4.2.2 (by omega) (by decide) ?_
              refine z_iret (pc := 58) C dX4_findName_58 rfl (Nat.zero_le _) (Nat.zero_le _) ⟨?_, ?_, rfl⟩
              · unfold sFv; rw [eN]; show some (Value.int (nI (nu i))) = some (Value.int (nI (sNv R B lo hi (.inl t)))); unfold sNv; rw [oB_inl, eN]; show some (Value.int (nI (nu i))) = some (Value.int (nI ((sfnd R B t).getD 0 - lo))); rw [j5, d9, u2 (d8.symm.trans hc43)]; rfl
              · unfold fo; rw [eN]
            · skip
              have eN : sNmd R B lo hi t = .inr (2, t.2.1) := by unfold sNmd; rw [if_pos j4, j5]; exact if_neg (fun z => hc43 (d8.trans (u1.mpr z)))
              refine z_aload_n (pc := 46) C dX4_findName_46 1 rfl ?_
              refine z_iconst (pc := 47) C dX4_findName_47 (nI 2) (by decide) ?_
              refine z_cV1 (pc := 48) mX4_failed C [_] dX4_findName_48 lX4_102 mtX4_failed (tX4_failed h1 hT) h1 rfl rfl (by decide) (Nat.le_of_ble_eq_true rfl) (Nat.zero_le _) (Nat.zero_le _) ?_
              refine z_iret (pc := 51) C dX4_findName_51 rfl (Nat.zero_le _) (Nat.zero_le _) ⟨?_, ?_, rfl⟩
              · unfold sFv; rw [eN]
              · unfold fo; rw [eN]
        · skip
          have eN : sNmd R B lo hi t = .inr (1, t.2.1) := by unfold sNmd; rw [if_neg (by unfold sIn; rw [kw_ky.mpr ⟨i, by omega, (S1 i hE).2.1 (by omega)⟩]; simp)]
          refine z_aload_n (pc := 26) C dX4_findName_26 1 rfl ?_
          refine z_iconst (pc := 27) C dX4_findName_27 (nI 1) (by decide) ?_
          refine z_cV1 (pc := 28) mX4_failed C [_] dX4_findName_28 lX4_102 mtX4_failed (tX4_failed h1 hT) h1 rfl rfl (by decide) (Nat.le_of_ble_eq_true rfl) (Nat.zero_le _) (Nat.zero_le _) ?_
          refine z_iret (pc := 31) C dX4_findName_31 rfl (Nat.zero_le _) (Nat.zero_le _) ⟨?_, ?_, rfl⟩
          · unfold sFv; rw [eN]
          · unfold fo; rw [eN]
