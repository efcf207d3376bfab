theorem cpy_n (h : ZH) (a : Nat) (f g : Nat → Nat) (n : Nat) {c : Nat} (hc : c < 2147483648) : zup h a (.inl (0, n, .inl (va_cpy (fun i => nI (f i)) (fun i => nI (g i)) (nI 0).toNatClampNeg (nI 0).toNatClampNeg (nI c).toNatClampNeg))) = zup h a (zI n (ncpy f g 0 0 c)) := by
  suffices e : va_cpy (fun i => nI (f i)) (fun i => nI (g i)) (nI 0).toNatClampNeg (nI 0).toNatClampNeg (nI c).toNatClampNeg = fun i => nI (ncpy f g 0 0 c i) by rw [e]
  funext j
  rw [nI_clamp (by omega), nI_clamp (by omega)]
  by_cases q : j < c
  · rw [pk_cpy_in (by omega) (by omega)]
    show nI (f (0 + (j - 0))) = nI (if 0 ≤ j ∧ j < 0 + c then f (0 + (j - 0)) else g j)
    rw [if_pos (by omega)]
  · rw [pk_cpy_out (by omega)]
    show nI (g j) = nI (if 0 ≤ j ∧ j < 0 + c then f (0 + (j - 0)) else g j)
    rw [if_neg (by omega)]
/-- a step back: the oldest place is given -/
def sgb (S : Nat → Nat) (m b : Nat) : Nat → Nat := fun j => if 8 * m ≤ j ∧ j < 8 * m + 7 then S (j + 1) else if j = 8 * m + 7 then b else S j
def sgc (S : Nat → Nat) (m k : Nat) : Nat → Nat := fun j => if 8 * m ≤ j ∧ j < 8 * m + k then S (j + 1) else S j
theorem sgc_0 (S : Nat → Nat) (m : Nat) : sgc S m 0 = S := by
  funext j
  exact if_neg (by omega)
theorem sgc_s (S : Nat → Nat) (m k : Nat) : nup (sgc S m k) (8 * m + k) (S (8 * m + k + 1)) = sgc S m (k + 1) := by
  funext j
  by_cases e : j = 8 * m + k
  · subst e
    have h : 8 * m ≤ 8 * m + k ∧ 8 * m + k < 8 * m + (k + 1) := by omega
    simp only [nup, sgc, if_pos h, if_true]
  · by_cases q : 8 * m ≤ j ∧ j < 8 * m + k
    · have q2 : 8 * m ≤ j ∧ j < 8 * m + (k + 1) := by omega
      simp only [nup, sgc, if_neg e, if_pos q, if_pos q2]
    · have q2 : ¬ (8 * m ≤ j ∧ j < 8 * m + (k + 1)) := by omega
      simp only [nup, sgc, if_neg e, if_neg q, if_neg q2]
theorem sgc_7 (S : Nat → Nat) (m b : Nat) : nup (sgc S m 7) (8 * m + 7) b = sgb S m b := by
  funext j
  by_cases e : j = 8 * m + 7
  · subst e
    have h : ¬ (8 * m ≤ 8 * m + 7 ∧ 8 * m + 7 < 8 * m + 7) := by omega
    simp only [nup, sgb, if_neg h, if_true]
  · simp only [nup, sgc, sgb, if_neg e]
theorem sgb_sgo (S : Nat → Nat) (m p : Nat) : sgb (sgo S m p) m (S (8 * m + 7)) = S := by
  funext j
  unfold sgb sgo
  by_cases q : 8 * m ≤ j ∧ j < 8 * m + 7
  · rw [if_pos q, if_neg (by omega), if_pos (by omega)]; rfl
  · rw [if_neg q]
    by_cases e : j = 8 * m + 7
    · rw [if_pos e, e]
    · rw [if_neg e, if_neg (by omega), if_neg (by omega)]
def sset (S : Nat → Nat) (m p k : Nat) : Nat → Nat := fun j => if 8 * m ≤ j ∧ j < 8 * m + k then p else S j
theorem sset_0 (S : Nat → Nat) (m p : Nat) : sset S m p 0 = S := by
  funext j
  exact if_neg (by omega)
theorem sset_s (S : Nat → Nat) (m p k : Nat) : nup (sset S m p k) (8 * m + k) p = sset S m p (k + 1) := by
  funext j
  by_cases e : j = 8 * m + k
  · subst e
    have h : 8 * m ≤ 8 * m + k ∧ 8 * m + k < 8 * m + (k + 1) := by omega
    simp only [nup, sset, if_pos h, if_true]
  · by_cases q : 8 * m ≤ j ∧ j < 8 * m + k
    · have q2 : 8 * m ≤ j ∧ j < 8 * m + (k + 1) := by omega
      simp only [nup, sset, if_neg e, if_pos q, if_pos q2]
    · have q2 : ¬ (8 * m ≤ j ∧ j < 8 * m + (k + 1)) := by omega
      simp only [nup, sset, if_neg e, if_neg q, if_neg q2]
theorem zI_ne {m n : Nat} {f g : Nat → Nat} (h : m ≠ n) : some (zI m f) ≠ some (zI n g) := by
  intro e
  injection e with e
  injection e with e
  injection e with _ e
  injection e with e
  exact h e
theorem zIO_ne {m c : Nat} {f : Nat → Nat} {l : List Value} : some (zI m f) ≠ some (zO c l) := by
  intro e
  injection e with e
  cases e
theorem zOO_ne {c d : Nat} {l k : List Value} (h : c ≠ d) : some (zO c l) ≠ some (zO d k) := by
  intro e
  injection e with e
  injection e with e
  injection e with e
  exact h e
theorem ad_ne {h : ZH} {a b : Nat} {x y : Option ZE} (ha : h a = x) (hb : h b = y) (hn : x ≠ y) : a ≠ b := fun e => hn (by rw [← ha, ← hb, e])
/-- a scene's shape: anything in it -/
def Shp (h : ZH) (s le tr : Nat) : Prop := ∃ (t : Nat) (la sp : Int32) (fl ft : Nat → Nat), h s = some (zO 3 [.ref t, .ref le, .int la, .int sp, .ref tr]) ∧ h le = some (zI 6 fl) ∧ h tr = some (zI 32 ft)
theorem Scn.shp {h : ZH} {s le tr t : Nat} {R S : Nat → Nat} (h1 : Scn h s le tr t R S) : Shp h s le tr := by
  obtain ⟨-, fl, ft, s0, s1, s2, -⟩ := h1
  exact ⟨t, _, _, fl, ft, s0, s1, s2⟩
theorem Tld.fr {h h' : ZH} {t : Nat} {R : Nat → Nat} (hT : Tld h t R) (hf : ∀ a, t ≤ a → a ≤ t + 8 → h' a = h a) : Tld h' t R := by
  obtain ⟨fc, fh, fn, fk, fs, ff, fw, fe, t0, t1, t2, t3, t4, t5, t6, t7, t8, r⟩ := hT
  exact ⟨fc, fh, fn, fk, fs, ff, fw, fe, (hf _ (by omega) (by omega)).trans t0, (hf _ (by omega) (by omega)).trans t1, (hf _ (by omega) (by omega)).trans t2, (hf _ (by omega) (by omega)).trans t3, (hf _ (by omega) (by omega)).trans t4, (hf _ (by omega) (by omega)).trans t5, (hf _ (by omega) (by omega)).trans t6, (hf _ (by omega) (by omega)).trans t7, (hf _ (by omega) (by omega)).trans t8, r⟩
theorem Scn.fr {h h' : ZH} {s le tr t : Nat} {R S : Nat → Nat} (hC : Scn h s le tr t R S) (h1 : h' s = h s) (h2 : h' le = h le) (h3 : h' tr = h tr) (hf : ∀ a, t ≤ a → a ≤ t + 8 → h' a = h a) : Scn h' s le tr t R S := by
  obtain ⟨hT, fl, ft, s0, s1, s2, r⟩ := hC
  exact ⟨hT.fr hf, fl, ft, h1.trans s0, h2.trans s1, h3.trans s2, r⟩
theorem sgo_k {S : Nat → Nat} {m p j : Nat} (hm : m < 4) (hj : 32 ≤ j) : sgo S m p j = S j := by
  unfold sgo
  rw [if_neg (by omega), if_neg (by omega)]
theorem sgb_k {S : Nat → Nat} {m p j : Nat} (hm : m < 4) (hj : 32 ≤ j) : sgb S m p j = S j := by
  unfold sgb
  rw [if_neg (by omega), if_neg (by omega)]
theorem sgo_congr {S T : Nat → Nat} {m p n : Nat} (hm : m < n) (h : ∀ j, j < 8 * n → T j = S j) : ∀ j, j < 8 * n → sgo T m p j = sgo S m p j := by
  intro j hj
  unfold sgo
  split
  · rfl
  · split
    · exact h _ (by omega)
    · exact h _ hj
theorem sgb_congr {S T : Nat → Nat} {m p n : Nat} (hm : m < n) (h : ∀ j, j < 8 * n → T j = S j) : ∀ j, j < 8 * n → sgb T m p j = sgb S m p j := by
  intro j hj
  unfold sgb
  split
  · exact h _ (by omega)
  · split
    · rfl
    · exact h _ hj
theorem wfS_go {R S : Nat → Nat} (hR : wfR R) (hS : wfS R S) {m p : Nat} (hm : m < R 3) (hp : p < R 1) : wfS R (sgo S m p) := by
  obtain ⟨h1, h2, h3⟩ := hS
  have w3 := hR.2.1
  refine ⟨fun m' hm' a ha => ?_, fun k hk => ?_, ?_⟩
  · unfold sgo
    split
    · exact hp
    · split
      · rename_i q
        have e : m' = m := by omega
        subst e
        have := h1 m' hm' (a - 1) (by omega)
        rw [show 8 * m' + a - 1 = 8 * m' + (a - 1) by omega]
        exact this
      · exact h1 m' hm' a ha
  · rw [sgo_k (by omega) (by omega)]; exact h2 k hk
  · rw [sgo_k (by omega) (by omega)]; exact h3
/-- a step of a man at a scene -/
theorem Scn.go {h : ZH} {s le tr t : Nat} {R S : Nat → Nat} (hC : Scn h s le tr t R S) (hR : wfR R) {m p : Nat} (hm : m < R 3) : ∃ ft : Nat → Nat, h tr = some (zI 32 ft) ∧ ft (8 * m + 7) = S (8 * m + 7) ∧ Scn (zup h tr (zI 32 (sgo ft m p))) s le tr t R (sgo S m p) := by
  obtain ⟨hT, fl, ft, s0, s1, s2, rl, rt⟩ := hC
  have w3 := hR.2.1
  refine ⟨ft, s2, rt _ (by omega), ?_⟩
  obtain ⟨fc, fh, fn, fk, fs, ff, fw, fe, t0, t1, t2, t3, t4, t5, t6, t7, t8, r⟩ := id hT
  have n0 : s ≠ tr := (ad_ne s2 s0 zIO_ne).symm
  have n1 : le ≠ tr := ad_ne s1 s2 (zI_ne (by decide))
  refine ⟨hT.fr (fun a h1 h2 => zup_ne ?_), fl, sgo ft m p, ?_, (zup_ne n1).trans s1, zup_same _ _ _, fun k hk => by rw [sgo_k (by omega) (by omega)]; exact rl k hk, sgo_congr hm rt⟩
  · rcases (show a = t ∨ a = t + 1 ∨ a = t + 2 ∨ a = t + 3 ∨ a = t + 4 ∨ a = t + 5 ∨ a = t + 6 ∨ a = t + 7 ∨ a = t + 8 by omega) with rfl | rfl | rfl | rfl | rfl | rfl | rfl | rfl | rfl
    · exact (ad_ne s2 t0 zIO_ne).symm
    · exact ad_ne t1 s2 (zI_ne (by decide))
    · exact ad_ne t2 s2 (zI_ne (by decide))
    · exact ad_ne t3 s2 (zI_ne (by decide))
    · exact ad_ne t4 s2 (zI_ne (by decide))
    · exact ad_ne t5 s2 (zI_ne (by decide))
    · exact ad_ne t6 s2 (zI_ne (by decide))
    · exact ad_ne t7 s2 (zI_ne (by decide))
    · exact ad_ne t8 s2 (zI_ne (by decide))
  · rw [zup_ne n0, sgo_k (by omega) (by omega), sgo_k (by omega) (by omega)]; exact s0

set_option maxRecDepth 20000 in
set_option maxHeartbeats 1000000 in
theorem tX5_go {h : ZH} {s le tr t m p : Nat} {la sp : Int32} {ft : Nat → Nat} (s0 : h s = some (zO 3 [.ref t, .ref le, .int la, .int sp, .ref tr])) (s2 : h tr = some (zI 32 ft)) (hm : m < 4) : ZD mX5_go 0 [.ref s, .int (nI m), .int (nI p)] h none (zup h tr (zI 32 (sgo ft m p))) := by
  intro n
  have n0 : s ≠ tr := (ad_ne s2 s0 zIO_ne).symm
  refine z_enter (lv := [(0, _), (1, _), (2, _)]) (by decide) (Nat.le_of_ble_eq_true rfl) rfl (fun X C => ?_)
  refine z_bipush (pc := 0) C dX5_go_0 (nI 7) (by decide) ?_
  refine z_istore_n (pc := 2) (lv' := [(3, _), (0, _), (1, _), (2, _)]) C dX5_go_2 (by decide) rfl ?_
  refine z_sub (lv' := [(0, _), (1, _), (2, _), (3, _)]) [1, 2, 3, 0] rfl ?_
  have lp3 : ∀ (f : Nat) (k : Nat), (k = f ∧ k ≤ 7) → Zc X mX5_go (zEnd X (fun r hh n' => r = none ∧ hh = (zup h tr (zI 32 (sgo ft m p))) ∧ n' = n) 0 0) 3 [(0, .ref s), (1, .int (nI m)), (2, .int (nI p)), (3, .int (nI k))] [] (zup h tr (zI 32 (sgk ft m k))) n 0 0 := by
    intro f
    induction f using Nat.strongRecOn with
    | _ f ih =>
      intro k hk
      obtain ⟨hk, hk2⟩ := hk
      refine z_iload_n (pc := 3) C dX5_go_3 3 rfl ?_
      first | refine z_ifleN (pc := 4) C 37 dX5_go_4 (by decide) (by omega) (fun hc4 => ?_) (fun hc4 => ?_) | refine z_if_le (pc := 4) C 37 dX5_go_4 (by decide) (fun hc4 => ?_) (fun hc4 => ?_)
      · skip
        refine z_aload_n (pc := 37) C dX5_go_37 0 rfl ?_
        refine z_getf (pc := 38) C dX5_go_38 fX5_15 ((zup_ne n0).trans s0) (by first | rfl | assumption) ?_
        refine z_iload_n (pc := 41) C dX5_go_41 1 rfl ?_
        refine z_bipush (pc := 42) C dX5_go_42 (nI 8) (by decide) ?_
        first | refine z_imulN (pc := 44) C dX5_go_44 ?_ | refine z_imul (pc := 44) C dX5_go_44 ?_
        refine z_iload_n (pc := 45) C dX5_go_45 2 rfl ?_
        first | refine z_iastN (pc := 46) C dX5_go_46 (zup_same _ _ _) (by omega) (by decide) ?_ | refine z_iastI (pc := 46) C dX5_go_46 (zup_same _ _ _) (by omega) (by decide) ?_
        refine z_vret (pc := 47) C dX5_go_47 rfl (Nat.zero_le _) (Nat.zero_le _) ⟨?_, ?_, rfl⟩
        · rfl
        · subst hc4; rw [zup_zup, Nat.mul_comm m 8, sgk_0]
      · skip
        refine z_aload_n (pc := 7) C dX5_go_7 0 rfl ?_
        refine z_getf (pc := 8) C dX5_go_8 fX5_15 ((zup_ne n0).trans s0) (by first | rfl | assumption) ?_
        refine z_iload_n (pc := 11) C dX5_go_11 1 rfl ?_
        refine z_bipush (pc := 12) C dX5_go_12 (nI 8) (by decide) ?_
        first | refine z_imulN (pc := 14) C dX5_go_14 ?_ | refine z_imul (pc := 14) C dX5_go_14 ?_
        refine z_iload_n (pc := 15) C dX5_go_15 3 rfl ?_
        first | refine z_iaddN (pc := 16) C dX5_go_16 ?_ | refine z_iadd (pc := 16) C dX5_go_16 ?_
        refine z_aload_n (pc := 17) C dX5_go_17 0 rfl ?_
        refine z_getf (pc := 18) C dX5_go_18 fX5_15 ((zup_ne n0).trans s0) (by first | rfl | assumption) ?_
        refine z_iload_n (pc := 21) C dX5_go_21 1 rfl ?_
        refine z_bipush (pc := 22) C dX5_go_22 (nI 8) (by decide) ?_
        first | refine z_imulN (pc := 24) C dX5_go_24 ?_ | refine z_imul (pc := 24) C dX5_go_24 ?_
        refine z_iload_n (pc := 25) C dX5_go_25 3 rfl ?_
        first | refine z_iaddN (pc := 26) C dX5_go_26 ?_ | refine z_iadd (pc := 26) C dX5_go_26 ?_
        refine z_iconst (pc := 27) C dX5_go_27 (nI 1) (by decide) ?_
        first | refine z_isubN (pc := 28) C dX5_go_28 (by omega) ?_ | refine z_isub (pc := 28) C dX5_go_28 ?_
        first | refine z_ialdN (pc := 29) C dX5_go_29 (zup_same _ _ _) (by omega) (by decide) ?_ | refine z_ialdI (pc := 29) C dX5_go_29 (zup_same _ _ _) (by omega) (by decide) ?_
        first | refine z_iastN (pc := 30) C dX5_go_30 (zup_same _ _ _) (by omega) (by decide) ?_ | refine z_iastI (pc := 30) C dX5_go_30 (zup_same _ _ _) (by omega) (by decide) ?_
        first | refine z_idecN (pc := 31) (lv' := [(3, _), (0, _), (1, _), (2, _)]) C dX5_go_31 3 rfl (by omega) (by decide) rfl ?_ | refine z_iinc (pc := 31) (lv' := [(3, _), (0, _), (1, _), (2, _)]) C dX5_go_31 3 rfl _ rfl (by decide) rfl ?_
        refine z_goto (pc := 34) C 3 dX5_go_34 (by decide) ?_
        refine z_sub (lv' := [(0, _), (1, _), (2, _), (3, _)]) [1, 2, 3, 0] rfl ?_
        (obtain ⟨k, rfl⟩ : ∃ q, k = q + 1 := ⟨k - 1, by omega⟩; refine z_hp (show _ = zup h tr (zI 32 (sgk ft m k)) from by rw [zup_zup, Nat.mul_comm m 8, show sgk ft m (k + 1) (8 * m + (k + 1) - 1) = ft (8 * m + (k + 1) - 1) from if_neg (by omega), sgk_s ft m (by omega)]) ?_; exact ih k (by omega) k ⟨rfl, by omega⟩)
  (refine z_hp (show h = zup h tr (zI 32 (sgk ft m 7)) from by rw [sgk_7]; exact (zup_id s2).symm) ?_; exact lp3 7 7 ⟨rfl, by omega⟩)

set_option maxRecDepth 20000 in
set_option maxHeartbeats 1000000 in
theorem tX5_goBack {h : ZH} {s le tr t m p : Nat} {la sp : Int32} {ft : Nat → Nat} (s0 : h s = some (zO 3 [.ref t, .ref le, .int la, .int sp, .ref tr])) (s2 : h tr = some (zI 32 ft)) (hm : m < 4) : ZD mX5_goBack 0 [.ref s, .int (nI m), .int (nI p)] h none (zup h tr (zI 32 (sgb ft m p))) := by
  intro n
  have n0 : s ≠ tr := (ad_ne s2 s0 zIO_ne).symm
  refine z_enter (lv := [(0, _), (1, _), (2, _)]) (by decide) (Nat.le_of_ble_eq_true rfl) rfl (fun X C => ?_)
  refine z_iconst (pc := 0) C dX5_goBack_0 (nI 0) (by decide) ?_
  refine z_istore_n (pc := 1) (lv' := [(3, _), (0, _), (1, _), (2, _)]) C dX5_goBack_1 (by decide) rfl ?_
  refine z_sub (lv' := [(0, _), (1, _), (2, _), (3, _)]) [1, 2, 3, 0] rfl ?_
  have lp2 : ∀ (f : Nat) (k : Nat), (k + f = 7) → Zc X mX5_goBack (zEnd X (fun r hh n' => r = none ∧ hh = (zup h tr (zI 32 (sgb ft m p))) ∧ n' = n) 0 0) 2 [(0, .ref s), (1, .int (nI m)), (2, .int (nI p)), (3, .int (nI k))] [] (zup h tr (zI 32 (sgc ft m k))) n 0 0 := by
    intro f
    induction f using Nat.strongRecOn with
    | _ f ih =>
      intro k hk
      refine z_iload_n (pc := 2) C dX5_goBack_2 3 rfl ?_
      refine z_bipush (pc := 3) C dX5_goBack_3 (nI 7) (by decide) ?_
      first | refine z_icmpgeN (pc := 5) C 38 dX5_goBack_5 (by decide) (by omega) (by omega) (fun hc5 => ?_) (fun hc5 => ?_) | refine z_icmp_ge (pc := 5) C 38 dX5_goBack_5 (by decide) (fun hc5 => ?_) (fun hc5 => ?_)
      · skip
        refine z_aload_n (pc := 38) C dX5_goBack_38 0 rfl ?_
        refine z_getf (pc := 39) C dX5_goBack_39 fX5_15 ((zup_ne n0).trans s0) (by first | rfl | assumption) ?_
        refine z_iload_n (pc := 42) C dX5_goBack_42 1 rfl ?_
        refine z_bipush (pc := 43) C dX5_goBack_43 (nI 8) (by decide) ?_
        first | refine z_imulN (pc := 45) C dX5_goBack_45 ?_ | refine z_imul (pc := 45) C dX5_goBack_45 ?_
        refine z_bipush (pc := 46) C dX5_goBack_46 (nI 8) (by decide) ?_
        first | refine z_iaddN (pc := 48) C dX5_goBack_48 ?_ | refine z_iadd (pc := 48) C dX5_goBack_48 ?_
        refine z_iconst (pc := 49) C dX5_goBack_49 (nI 1) (by decide) ?_
        first | refine z_isubN (pc := 50) C dX5_goBack_50 (by omega) ?_ | refine z_isub (pc := 50) C dX5_goBack_50 ?_
        refine z_iload_n (pc := 51) C dX5_goBack_51 2 rfl ?_
        first | refine z_iastN (pc := 52) C dX5_goBack_52 (zup_same _ _ _) (by omega) (by decide) ?_ | refine z_iastI (pc := 52) C dX5_goBack_52 (zup_same _ _ _) (by omega) (by decide) ?_
        refine z_vret (pc := 53) C dX5_goBack_53 rfl (Nat.zero_le _) (Nat.zero_le _) ⟨?_, ?_, rfl⟩
        · rfl
        · obtain rfl : k = 7 := (by omega); rw [zup_zup, Nat.mul_comm m 8, show 8 * m + 8 - 1 = 8 * m + 7 from rfl, sgc_7]
      · skip
        refine z_aload_n (pc := 8) C dX5_goBack_8 0 rfl ?_
        refine z_getf (pc := 9) C dX5_goBack_9 fX5_15 ((zup_ne n0).trans s0) (by first | rfl | assumption) ?_
        refine z_iload_n (pc := 12) C dX5_goBack_12 1 rfl ?_
        refine z_bipush (pc := 13) C dX5_goBack_13 (nI 8) (by decide) ?_
        first | refine z_imulN (pc := 15) C dX5_goBack_15 ?_ | refine z_imul (pc := 15) C dX5_goBack_15 ?_
        refine z_iload_n (pc := 16) C dX5_goBack_16 3 rfl ?_
        first | refine z_iaddN (pc := 17) C dX5_goBack_17 ?_ | refine z_iadd (pc := 17) C dX5_goBack_17 ?_
        refine z_aload_n (pc := 18) C dX5_goBack_18 0 rfl ?_
        refine z_getf (pc := 19) C dX5_goBack_19 fX5_15 ((zup_ne n0).trans s0) (by first | rfl | assumption) ?_
        refine z_iload_n (pc := 22) C dX5_goBack_22 1 rfl ?_
        refine z_bipush (pc := 23) C dX5_goBack_23 (nI 8) (by decide) ?_
        first | refine z_imulN (pc := 25) C dX5_goBack_25 ?_ | refine z_imul (pc := 25) C dX5_goBack_25 ?_
        refine z_iload_n (pc := 26) C dX5_goBack_26 3 rfl ?_
        first | refine z_iaddN (pc := 27) C dX5_goBack_27 ?_ | refine z_iadd (pc := 27) C dX5_goBack_27 ?_
        refine z_iconst (pc := 28) C dX5_goBack_28 (nI 1) (by decide) ?_
        first | refine z_iaddN (pc := 29) C dX5_goBack_29 ?_ | refine z_iadd (pc := 29) C dX5_goBack_29 ?_
        first | refine z_ialdN (pc := 30) C dX5_goBack_30 (zup_same _ _ _) (by omega) (by decide) ?_ | refine z_ialdI (pc := 30) C dX5_goBack_30 (zup_same _ _ _) (by omega) (by decide) ?_
        first | refine z_iastN (pc := 31) C dX5_goBack_31 (zup_same _ _ _) (by omega) (by decide) ?_ | refine z_iastI (pc := 31) C dX5_goBack_31 (zup_same _ _ _) (by omega) (by decide) ?_
        first | refine z_iincN (pc := 32) (lv' := [(3, _), (0, _), (1, _), (2, _)]) C 1 dX5_goBack_32 3 rfl (by decide) (by decide) rfl ?_ | refine z_iinc (pc := 32) (lv' := [(3, _), (0, _), (1, _), (2, _)]) C dX5_goBack_32 3 rfl _ rfl (by decide) rfl ?_
        refine z_goto (pc := 35) C 2 dX5_goBack_35 (by decide) ?_
        refine z_sub (lv' := [(0, _), (1, _), (2, _), (3, _)]) [1, 2, 3, 0] rfl ?_
        (refine z_hp (show _ = zup h tr (zI 32 (sgc ft m (k + 1))) from by rw [zup_zup, Nat.mul_comm m 8, show sgc ft m k (8 * m + k + 1) = ft (8 * m + k + 1) from if_neg (by omega), sgc_s ft m]) ?_; exact ih (f - 1) (by omega) (k + 1) (by omega))
  (refine z_hp (show h = zup h tr (zI 32 (sgc ft m 0)) from by rw [sgc_0]; exact (zup_id s2).symm) ?_; exact lp2 7 0 rfl)

set_option maxRecDepth 20000 in
set_option maxHeartbeats 1000000 in
theorem tX5_settleAt {h : ZH} {s le tr t m p : Nat} {la sp : Int32} {ft : Nat → Nat} (s0 : h s = some (zO 3 [.ref t, .ref le, .int la, .int sp, .ref tr])) (s2 : h tr = some (zI 32 ft)) (hm : m < 4) : ZD mX5_settleAt 0 [.ref s, .int (nI m), .int (nI p)] h none (zup h tr (zI 32 (sset ft m p 8))) := by
  intro n
  have n0 : s ≠ tr := (ad_ne s2 s0 zIO_ne).symm
  refine z_enter (lv := [(0, _), (1, _), (2, _)]) (by decide) (Nat.le_of_ble_eq_true rfl) rfl (fun X C => ?_)
  refine z_iconst (pc := 0) C dX5_settleAt_0 (nI 0) (by decide) ?_
  refine z_istore_n (pc := 1) (lv' := [(3, _), (0, _), (1, _), (2, _)]) C dX5_settleAt_1 (by decide) rfl ?_
  refine z_sub (lv' := [(0, _), (1, _), (2, _), (3, _)]) [1, 2, 3, 0] rfl ?_
  have lp2 : ∀ (f : Nat) (k : Nat), (k + f = 8) → Zc X mX5_settleAt (zEnd X (fun r hh n' => r = none ∧ hh = (zup h tr (zI 32 (sset ft m p 8))) ∧ n' = n) 0 0) 2 [(0, .ref s), (1, .int (nI m)), (2, .int (nI p)), (3, .int (nI k))] [] (zup h tr (zI 32 (sset ft m p k))) n 0 0 := by
    intro f
    induction f using Nat.strongRecOn with
    | _ f ih =>
      intro k hk
      refine z_iload_n (pc := 2) C dX5_settleAt_2 3 rfl ?_
      refine z_bipush (pc := 3) C dX5_settleAt_3 (nI 8) (by decide) ?_
      first | refine z_icmpgeN (pc := 5) C 26 dX5_settleAt_5 (by decide) (by omega) (by omega) (fun hc5 => ?_) (fun hc5 => ?_) | refine z_icmp_ge (pc := 5) C 26 dX5_settleAt_5 (by decide) (fun hc5 => ?_) (fun hc5 => ?_)
      · skip
        refine z_vret (pc := 26) C dX5_settleAt_26 rfl (Nat.zero_le _) (Nat.zero_le _) ⟨?_, ?_, rfl⟩
        · rfl
        · obtain rfl : k = 8 := (by omega); rfl
      · skip
        refine z_aload_n (pc := 8) C dX5_settleAt_8 0 rfl ?_
        refine z_getf (pc := 9) C dX5_settleAt_9 fX5_15 ((zup_ne n0).trans s0) (by first | rfl | assumption) ?_
        refine z_iload_n (pc := 12) C dX5_settleAt_12 1 rfl ?_
        refine z_bipush (pc := 13) C dX5_settleAt_13 (nI 8) (by decide) ?_
        first | refine z_imulN (pc := 15) C dX5_settleAt_15 ?_ | refine z_imul (pc := 15) C dX5_settleAt_15 ?_
        refine z_iload_n (pc := 16) C dX5_settleAt_16 3 rfl ?_
        first | refine z_iaddN (pc := 17) C dX5_settleAt_17 ?_ | refine z_iadd (pc := 17) C dX5_settleAt_17 ?_
        refine z_iload_n (pc := 18) C dX5_settleAt_18 2 rfl ?_
        first | refine z_iastN (pc := 19) C dX5_settleAt_19 (zup_same _ _ _) (by omega) (by decide) ?_ | refine z_iastI (pc := 19) C dX5_settleAt_19 (zup_same _ _ _) (by omega) (by decide) ?_
        first | refine z_iincN (pc := 20) (lv' := [(3, _), (0, _), (1, _), (2, _)]) C 1 dX5_settleAt_20 3 rfl (by decide) (by decide) rfl ?_ | refine z_iinc (pc := 20) (lv' := [(3, _), (0, _), (1, _), (2, _)]) C dX5_settleAt_20 3 rfl _ rfl (by decide) rfl ?_
        refine z_goto (pc := 23) C 2 dX5_settleAt_23 (by decide) ?_
        refine z_sub (lv' := [(0, _), (1, _), (2, _), (3, _)]) [1, 2, 3, 0] rfl ?_
        (refine z_hp (show _ = zup h tr (zI 32 (sset ft m p (k + 1))) from by rw [zup_zup, Nat.mul_comm m 8, sset_s ft m]) ?_; exact ih (f - 1) (by omega) (k + 1) (by omega))
  (refine z_hp (show h = zup h tr (zI 32 (sset ft m p 0)) from by rw [sset_0]; exact (zup_id s2).symm) ?_; exact lp2 8 0 rfl)

set_option maxRecDepth 20000 in
set_option maxHeartbeats 1000000 in
theorem tX5_turnLamp {h : ZH} {s le tr t p a : Nat} {sp : Int32} (s0 : h s = some (zO 3 [.ref t, .ref le, .int (nI a), .int sp, .ref tr])) (hp : p < 32) : ZD mX5_turnLamp 0 [.ref s, .int (nI p)] h none (zup h s (zO 3 [.ref t, .ref le, .int (nI (a ^^^ 1 <<< p)), .int sp, .ref tr])) := by
  intro n
  refine z_enter (lv := [(0, _), (1, _)]) (by decide) (Nat.le_of_ble_eq_true rfl) rfl (fun X C => ?_)
  refine z_aload_n (pc := 0) C dX5_turnLamp_0 0 rfl ?_
  refine z_dup (pc := 1) C dX5_turnLamp_1 rfl ?_
  refine z_getf (pc := 2) C dX5_turnLamp_2 fX5_28 (by assumption) (by first | rfl | assumption) ?_
  refine z_iconst (pc := 5) C dX5_turnLamp_5 (nI 1) (by decide) ?_
  refine z_iload_n (pc := 6) C dX5_turnLamp_6 1 rfl ?_
  first | refine z_ishlN (pc := 7) C dX5_turnLamp_7 (by omega) ?_ | refine z_ishl (pc := 7) C dX5_turnLamp_7 ?_
  first | refine z_ixorN (pc := 8) C dX5_turnLamp_8 ?_ | refine z_ixor (pc := 8) C dX5_turnLamp_8 ?_
  refine z_putf (pc := 9) (fs' := [_, _, _, _, _]) C dX5_turnLamp_9 gX5_28 (by assumption) (fun _ => ⟨rfl, rfl⟩) (by exact Nat.le_of_ble_eq_true rfl) (by rfl) ?_
  refine z_vret (pc := 12) C dX5_turnLamp_12 rfl (Nat.zero_le _) (Nat.zero_le _) ⟨?_, ?_, rfl⟩
  · rfl
  · rfl

set_option maxRecDepth 20000 in
set_option maxHeartbeats 1000000 in
theorem tX5_become {h : ZH} {s le tr t s1 le1 tr1 t1 : Nat} {la sp la1 sp1 : Int32} {fl ft fl1 ft1 : Nat → Nat} (s0 : h s = some (zO 3 [.ref t, .ref le, .int la, .int sp, .ref tr])) (a1 : h le = some (zI 6 fl)) (a2 : h tr = some (zI 32 ft)) (s9 : h s1 = some (zO 3 [.ref t1, .ref le1, .int la1, .int sp1, .ref tr1])) (b1 : h le1 = some (zI 6 fl1)) (b2 : h tr1 = some (zI 32 ft1)) (hd : s1 ≠ s ∧ le1 ≠ le ∧ tr1 ≠ tr) : ZD mX5_become 1 [.ref s, .ref s1] h none (zup (zup (zup h le (zI 6 (ncpy fl1 fl 0 0 6))) tr (zI 32 (ncpy ft1 ft 0 0 32))) s (zO 3 [.ref t1, .ref le, .int la1, .int sp1, .ref tr])) := by
  intro n
  obtain ⟨d1, d2, d3⟩ := hd
  have n1 := ad_ne a1 s0 zIO_ne
  have n2 := ad_ne a2 s0 zIO_ne
  have n3 := ad_ne b1 s0 zIO_ne
  have n4 := ad_ne b2 s0 zIO_ne
  have n5 := ad_ne a1 s9 zIO_ne
  have n6 := ad_ne a2 s9 zIO_ne
  have n7 := ad_ne a1 a2 (zI_ne (by decide))
  have n8 := ad_ne a1 b2 (zI_ne (by decide))
  have n9 := ad_ne b1 a2 (zI_ne (by decide))
  refine z_enter (lv := [(0, _), (1, _)]) (by decide) (Nat.le_of_ble_eq_true rfl) rfl (fun X C => ?_)
  refine z_aload_n (pc := 0) C dX5_become_0 0 rfl ?_
  refine z_aload_n (pc := 1) C dX5_become_1 1 rfl ?_
  refine z_getf (pc := 2) C dX5_become_2 fX5_18 (by assumption) (by first | rfl | assumption) ?_
  refine z_putf (pc := 5) (fs' := [_, _, _, _, _]) C dX5_become_5 gX5_18 (by assumption) (fun _ => ⟨rfl, rfl⟩) (by exact Nat.le_of_ble_eq_true rfl) (by rfl) ?_
  refine z_aload_n (pc := 8) C dX5_become_8 1 rfl ?_
  refine z_getf (pc := 9) C dX5_become_9 fX5_9 ((zup_ne d1).trans s9) (by first | rfl | assumption) ?_
  refine z_iconst (pc := 12) C dX5_become_12 (nI 0) (by decide) ?_
  refine z_aload_n (pc := 13) C dX5_become_13 0 rfl ?_
  refine z_getf (pc := 14) C dX5_become_14 fX5_9 (zup_same _ _ _) (by first | rfl | assumption) ?_
  refine z_iconst (pc := 17) C dX5_become_17 (nI 0) (by decide) ?_
  refine z_bipush (pc := 18) C dX5_become_18 (nI 6) (by decide) ?_
  refine z_copy (pc := 20) C dX5_become_20 lX5_22 zw_cp_n zw_cp_s zw_si (by decide) (Nat.le_of_ble_eq_true rfl) ((zup_ne n3).trans b1) ((zup_ne n1).trans a1) (by decide) (by decide) (by decide) (by decide) (by decide) ?_
  refine z_hp (cpy_n _ _ _ _ _ (by decide)) ?_
  refine z_aload_n (pc := 23) C dX5_become_23 1 rfl ?_
  refine z_getf (pc := 24) C dX5_become_24 fX5_15 ((zup_ne n5.symm).trans ((zup_ne d1).trans s9)) (by first | rfl | assumption) ?_
  refine z_iconst (pc := 27) C dX5_become_27 (nI 0) (by decide) ?_
  refine z_aload_n (pc := 28) C dX5_become_28 0 rfl ?_
  refine z_getf (pc := 29) C dX5_become_29 fX5_15 ((zup_ne n1.symm).trans (zup_same _ _ _)) (by first | rfl | assumption) ?_
  refine z_iconst (pc := 32) C dX5_become_32 (nI 0) (by decide) ?_
  refine z_bipush (pc := 33) C dX5_become_33 (nI 32) (by decide) ?_
  refine z_copy (pc := 35) C dX5_become_35 lX5_22 zw_cp_n zw_cp_s zw_si (by decide) (Nat.le_of_ble_eq_true rfl) ((zup_ne n8.symm).trans ((zup_ne n4).trans b2)) ((zup_ne n7.symm).trans ((zup_ne n2).trans a2)) (by decide) (by decide) (by decide) (by decide) (by decide) ?_
  refine z_hp (cpy_n _ _ _ _ _ (by decide)) ?_
  refine z_aload_n (pc := 38) C dX5_become_38 0 rfl ?_
  refine z_aload_n (pc := 39) C dX5_become_39 1 rfl ?_
  refine z_getf (pc := 40) C dX5_become_40 fX5_28 ((zup_ne n6.symm).trans ((zup_ne n5.symm).trans ((zup_ne d1).trans s9))) (by first | rfl | assumption) ?_
  refine z_putf (pc := 43) (fs' := [_, _, _, _, _]) C dX5_become_43 gX5_28 ((zup_ne n2.symm).trans ((zup_ne n1.symm).trans (zup_same _ _ _))) (fun _ => ⟨rfl, rfl⟩) (by exact Nat.le_of_ble_eq_true rfl) (by rfl) ?_
  refine z_aload_n (pc := 46) C dX5_become_46 0 rfl ?_
  refine z_aload_n (pc := 47) C dX5_become_47 1 rfl ?_
  refine z_getf (pc := 48) C dX5_become_48 fX5_32 ((zup_ne d1).trans ((zup_ne n6.symm).trans ((zup_ne n5.symm).trans ((zup_ne d1).trans s9)))) (by first | rfl | assumption) ?_
  refine z_putf (pc := 51) (fs' := [_, _, _, _, _]) C dX5_become_51 gX5_32 (zup_same _ _ _) (fun _ => ⟨rfl, rfl⟩) (by exact Nat.le_of_ble_eq_true rfl) (by rfl) ?_
  refine z_vret (pc := 54) C dX5_become_54 rfl (Nat.zero_le _) (Nat.zero_le _) ⟨?_, ?_, rfl⟩
  · rfl
  · rw [zup_zup, zup_comm h _ _ n1.symm, zup_comm _ _ _ n2.symm, zup_zup]

/-- a scene becomes another -/
theorem tX5_becomeX {h : ZH} {s le tr s1 le1 tr1 t : Nat} {R S : Nat → Nat} (hR : wfR R) (hs : Shp h s le tr) (hC : Scn h s1 le1 tr1 t R S) (hd : s1 ≠ s ∧ le1 ≠ le ∧ tr1 ≠ tr) (hl : le < t ∨ t + 8 < le) : ∃ h', ZD mX5_become 1 [.ref s, .ref s1] h none h' ∧ Scn h' s le tr t R S ∧ ∀ a, a ≠ s → a ≠ le → a ≠ tr → h' a = h a := by
  obtain ⟨t0, la, sp, fl, ft, s0, a1, a2⟩ := hs
  obtain ⟨hT, fl1, ft1, s9, b1, b2, rl, rt⟩ := id hC
  have w3 := hR.2.1
  have w4 := hR.2.2.1
  have n1 := ad_ne a1 s0 zIO_ne
  have n2 := ad_ne a2 s0 zIO_ne
  have n7 := ad_ne a1 a2 (zI_ne (by decide))
  obtain ⟨fc, fh, fn, fk, fs, ff, fw, fe, t0, t1, t2, t3, t4, t5, t6, t7, t8, r⟩ := id hT
  refine ⟨_, tX5_become s0 a1 a2 s9 b1 b2 hd, ⟨hT.fr (fun a q1 q2 => ?_), ncpy fl1 fl 0 0 6, ncpy ft1 ft 0 0 32, zup_same _ _ _, ?_, ?_, fun k hk => ?_, fun j hj => ?_⟩, fun a q1 q2 q3 => by rw [zup_ne q1, zup_ne q3, zup_ne q2]⟩
  · have e0 : h a ≠ h s ∧ h a ≠ h tr := by
      rw [s0, a2]
      rcases (show a = t ∨ a = t + 1 ∨ a = t + 2 ∨ a = t + 3 ∨ a = t + 4 ∨ a = t + 5 ∨ a = t + 6 ∨ a = t + 7 ∨ a = t + 8 by omega) with rfl | rfl | rfl | rfl | rfl | rfl | rfl | rfl | rfl
      · rw [t0]; exact ⟨zOO_ne (by decide), zIO_ne.symm⟩
      · rw [t1]; exact ⟨zIO_ne, zI_ne (by decide)⟩
      · rw [t2]; exact ⟨zIO_ne, zI_ne (by decide)⟩
      · rw [t3]; exact ⟨zIO_ne, zI_ne (by decide)⟩
      · rw [t4]; exact ⟨zIO_ne, zI_ne (by decide)⟩
      · rw [t5]; exact ⟨zIO_ne, zI_ne (by decide)⟩
      · rw [t6]; exact ⟨zIO_ne, zI_ne (by decide)⟩
      · rw [t7]; exact ⟨zIO_ne, zI_ne (by decide)⟩
      · rw [t8]; exact ⟨zIO_ne, zI_ne (by decide)⟩
    have q0 : ∀ b, h a ≠ h b → a ≠ b := fun b z e => z (by rw [e])
    rw [zup_ne (q0 _ e0.1), zup_ne (q0 _ e0.2), zup_ne (by omega)]
  · rw [zup_ne n1, zup_ne n7, zup_same]
  · rw [zup_ne n2, zup_same]
  · show (if 0 ≤ k ∧ k < 0 + 6 then fl1 (0 + (k - 0)) else fl k) = _
    rw [if_pos (by omega), show 0 + (k - 0) = k by omega]; exact rl k hk
  · show (if 0 ≤ j ∧ j < 0 + 32 then ft1 (0 + (j - 0)) else ft j) = _
    rw [if_pos (by omega), show 0 + (j - 0) = j by omega]; exact rt j hj

theorem min16 {a : Nat} (h : a ≤ 16) : (if nI 16 < nI (a + 1) then nI 16 else nI (a + 1)) = nI (min (a + 1) 16) := by
  by_cases z : 16 < a + 1
  · rw [if_pos (nI_lt z (by omega)), Nat.min_eq_right (by omega)]
  · rw [if_neg (nI_nlt (by omega) (by omega)), Nat.min_eq_left (by omega)]
/-- the class's past: how many, the latest, acts, whose, before -/
def Pst (h : ZH) (un la : Nat) (f1 f2 f3 : Nat → Nat) : Prop := h 1034 = some (zO 1 [.int (nI un), .ref 1035, .ref 1036, .ref 1037, .int (nI la)]) ∧ h 1035 = some (zI 16 f1) ∧ h 1036 = some (zI 16 f2) ∧ h 1037 = some (zI 16 f3)
def pkH (h : ZH) (un la : Nat) (f1 f2 f3 : Nat → Nat) : ZH := zup (zup (zup (zup h 1035 (zI 16 f1)) 1036 (zI 16 f2)) 1037 (zI 16 f3)) 1034 (zO 1 [.int (nI un), .ref 1035, .ref 1036, .ref 1037, .int (nI la)])
theorem pkH_pst (h : ZH) (un la : Nat) (f1 f2 f3 : Nat → Nat) : Pst (pkH h un la f1 f2 f3) un la f1 f2 f3 := by
  refine ⟨zup_same _ _ _, ?_, ?_, ?_⟩ <;> simp [pkH, zup]
theorem pkH_ne (h : ZH) (un la : Nat) (f1 f2 f3 : Nat → Nat) {a : Nat} (ha : a < 1034 ∨ 1037 < a) : pkH h un la f1 f2 f3 a = h a := by
  unfold pkH
  rw [zup_ne (by omega), zup_ne (by omega), zup_ne (by omega), zup_ne (by omega)]

set_option maxRecDepth 20000 in
set_option maxHeartbeats 1000000 in
theorem tX3_keep {h : ZH} {un la x1 x2 x3 : Nat} {f1 f2 f3 : Nat → Nat} (hP : Pst h un la f1 f2 f3) (hu : un ≤ 16) (hl : la < 16) : ZD mX3_keep 1 [.ref 1034, .int (nI x1), .int (nI x2), .int (nI x3)] h none (pkH h (min (un + 1) 16) ((la + 1) % 16) (nup f1 ((la + 1) % 16) x1) (nup f2 ((la + 1) % 16) x2) (nup f3 ((la + 1) % 16) x3)) := by
  intro n
  obtain ⟨p0, p1, p2, p3⟩ := hP
  refine z_enter (lv := [(0, _), (1, _), (2, _), (3, _)]) (by decide) (Nat.le_of_ble_eq_true rfl) rfl (fun X C => ?_)
  refine z_aload_n (pc := 0) C dX3_keep_0 0 rfl ?_
  refine z_aload_n (pc := 1) C dX3_keep_1 0 rfl ?_
  refine z_getf (pc := 2) C dX3_keep_2 fX3_23 (by assumption) (by first | rfl | assumption) ?_
  refine z_iconst (pc := 5) C dX3_keep_5 (nI 1) (by decide) ?_
  first | refine z_iaddN (pc := 6) C dX3_keep_6 ?_ | refine z_iadd (pc := 6) C dX3_keep_6 ?_
  refine z_bipush (pc := 7) C dX3_keep_7 (nI 16) (by decide) ?_
  first | refine z_iremN (pc := 9) C dX3_keep_9 (by omega) (by omega) (by omega) ?_ | refine z_irem (pc := 9) C dX3_keep_9 (by decide) ?_
  refine z_putf (pc := 10) (fs' := [_, _, _, _, _]) C dX3_keep_10 gX3_23 (by assumption) (fun _ => ⟨rfl, rfl⟩) (by exact Nat.le_of_ble_eq_true rfl) (by rfl) ?_
  refine z_aload_n (pc := 13) C dX3_keep_13 0 rfl ?_
  refine z_getf (pc := 14) C dX3_keep_14 fX3_9 (zup_same _ _ _) (by first | rfl | assumption) ?_
  refine z_aload_n (pc := 17) C dX3_keep_17 0 rfl ?_
  refine z_getf (pc := 18) C dX3_keep_18 fX3_23 (zup_same _ _ _) (by first | rfl | assumption) ?_
  refine z_iload_n (pc := 21) C dX3_keep_21 1 rfl ?_
  first | refine z_iastN (pc := 22) C dX3_keep_22 ((zup_ne (by decide)).trans p1) (by omega) (by decide) ?_ | refine z_iastI (pc := 22) C dX3_keep_22 ((zup_ne (by decide)).trans p1) (by omega) (by decide) ?_
  refine z_aload_n (pc := 23) C dX3_keep_23 0 rfl ?_
  refine z_getf (pc := 24) C dX3_keep_24 fX3_13 ((zup_ne (by decide)).trans (zup_same _ _ _)) (by first | rfl | assumption) ?_
  refine z_aload_n (pc := 27) C dX3_keep_27 0 rfl ?_
  refine z_getf (pc := 28) C dX3_keep_28 fX3_23 ((zup_ne (by decide)).trans (zup_same _ _ _)) (by first | rfl | assumption) ?_
  refine z_iload_n (pc := 31) C dX3_keep_31 2 rfl ?_
  first | refine z_iastN (pc := 32) C dX3_keep_32 ((zup_ne (by decide)).trans ((zup_ne (by decide)).trans p2)) (by omega) (by decide) ?_ | refine z_iastI (pc := 32) C dX3_keep_32 ((zup_ne (by decide)).trans ((zup_ne (by decide)).trans p2)) (by omega) (by decide) ?_
  refine z_aload_n (pc := 33) C dX3_keep_33 0 rfl ?_
  refine z_getf (pc := 34) C dX3_keep_34 fX3_16 ((zup_ne (by decide)).trans ((zup_ne (by decide)).trans (zup_same _ _ _))) (by first | rfl | assumption) ?_
  refine z_aload_n (pc := 37) C dX3_keep_37 0 rfl ?_
  refine z_getf (pc := 38) C dX3_keep_38 fX3_23 ((zup_ne (by decide)).trans ((zup_ne (by decide)).trans (zup_same _ _ _))) (by first | rfl | assumption) ?_
  refine z_iload_n (pc := 41) C dX3_keep_41 3 rfl ?_
  first | refine z_iastN (pc := 42) C dX3_keep_42 ((zup_ne (by decide)).trans ((zup_ne (by decide)).trans ((zup_ne (by decide)).trans p3))) (by omega) (by decide) ?_ | refine z_iastI (pc := 42) C dX3_keep_42 ((zup_ne (by decide)).trans ((zup_ne (by decide)).trans ((zup_ne (by decide)).trans p3))) (by omega) (by decide) ?_
  refine z_aload_n (pc := 43) C dX3_keep_43 0 rfl ?_
  refine z_aload_n (pc := 44) C dX3_keep_44 0 rfl ?_
  refine z_getf (pc := 45) C dX3_keep_45 fX3_19 ((zup_ne (by decide)).trans ((zup_ne (by decide)).trans ((zup_ne (by decide)).trans (zup_same _ _ _)))) (by first | rfl | assumption) ?_
  refine z_iconst (pc := 48) C dX3_keep_48 (nI 1) (by decide) ?_
  first | refine z_iaddN (pc := 49) C dX3_keep_49 ?_ | refine z_iadd (pc := 49) C dX3_keep_49 ?_
  refine z_bipush (pc := 50) C dX3_keep_50 (nI 16) (by decide) ?_
  refine z_mmin (pc := 52) C dX3_keep_52 lX3_26 zw_mn_s zw_mi zw_mn_c (by decide) (Nat.le_of_ble_eq_true rfl) (Nat.zero_le _) (Nat.zero_le _) ?_
  refine z_top (min16 hu) ?_
  refine z_putf (pc := 55) (fs' := [_, _, _, _, _]) C dX3_keep_55 gX3_19 ((zup_ne (by decide)).trans ((zup_ne (by decide)).trans ((zup_ne (by decide)).trans (zup_same _ _ _)))) (fun _ => ⟨rfl, rfl⟩) (by exact Nat.le_of_ble_eq_true rfl) (by rfl) ?_
  refine z_vret (pc := 58) C dX3_keep_58 rfl (Nat.zero_le _) (Nat.zero_le _) ⟨?_, ?_, rfl⟩
  · rfl
  · unfold pkH; rw [zup_comm h _ _ (show 1034 ≠ 1035 by decide), zup_comm _ _ _ (show 1034 ≠ 1036 by decide), zup_comm _ _ _ (show 1034 ≠ 1037 by decide), zup_zup]

set_option maxRecDepth 20000 in
set_option maxHeartbeats 1000000 in
theorem tX3_forget {h : ZH} {un la : Int32} (p0 : h 1034 = some (zO 1 [.int un, .ref 1035, .ref 1036, .ref 1037, .int la])) : ZD mX3_forget 0 [.ref 1034] h none (zup h 1034 (zO 1 [.int (nI 0), .ref 1035, .ref 1036, .ref 1037, .int la])) := by
  intro n
  refine z_enter (lv := [(0, _)]) (by decide) (Nat.le_of_ble_eq_true rfl) rfl (fun X C => ?_)
  refine z_aload_n (pc := 0) C dX3_forget_0 0 rfl ?_
  refine z_iconst (pc := 1) C dX3_forget_1 (nI 0) (by decide) ?_
  refine z_putf (pc := 2) (fs' := [_, _, _, _, _]) C dX3_forget_2 gX3_19 (by assumption) (fun _ => ⟨rfl, rfl⟩) (by exact Nat.le_of_ble_eq_true rfl) (by rfl) ?_
  refine z_vret (pc := 5) C dX3_forget_5 rfl (Nat.zero_le _) (Nat.zero_le _) ⟨?_, ?_, rfl⟩
  · rfl
  · rfl

set_option maxRecDepth 20000 in
set_option maxHeartbeats 1000000 in
theorem tX9_begin {h : ZH} {h1 : ZH} {s : Nat} {x1 x2 : Int32} {la sp : Int32} {t0 : Nat} (q0 : h 1019 = some (zO 6 [.ref 1020, .int x1, .int x2])) (q1 : h 1020 = some (zO 3 [.ref t0, .ref 1030, .int la, .int sp, .ref 1031])) (Z1 : ZD mX5_become 1 [.ref 1020, .ref s] h none h1) : ZD mX9_begin 2 [.ref 1019, .ref s] h none h1 := by
  intro n
  refine z_enter (lv := [(0, _), (1, _)]) (by decide) (Nat.le_of_ble_eq_true rfl) rfl (fun X C => ?_)
  refine z_aload_n (pc := 0) C dX9_begin_0 0 rfl ?_
  refine z_getf (pc := 1) C dX9_begin_1 fX9_17 (by assumption) (by first | rfl | assumption) ?_
  refine z_aload_n (pc := 4) C dX9_begin_4 1 rfl ?_
  refine z_cV0 (pc := 5) mX5_become C [_] dX9_begin_5 lX9_23 mtX5_become Z1 q1 rfl rfl (by decide) (Nat.le_of_ble_eq_true rfl) (Nat.zero_le _) (Nat.zero_le _) ?_
  refine z_vret (pc := 8) C dX9_begin_8 rfl (Nat.zero_le _) (Nat.zero_le _) ⟨?_, ?_, rfl⟩
  · rfl
  · rfl

set_option maxRecDepth 20000 in
set_option maxHeartbeats 1000000 in
theorem tX3_takeBackS {h : ZH} {un la w b1 le tr t X38 X39 : Nat} {f1 f2 f3 fl ft : Nat → Nat} (hP : Pst h un la f1 f2 f3) (hu : 0 < un ∧ un ≤ 16) (hl : la < 16) (s0 : h 1051 = some (zO 3 [.ref t, .ref 1052, .int (nI X38), .int (nI X39), .ref 1053])) (s1 : h 1052 = some (zI 6 fl)) (s2 : h 1053 = some (zI 32 ft)) (hw : f2 la = w) (hb : f3 la = b1) (ha : f1 la = 0) (hm : w < 4) (h39 : 0 < X39) : ZD mX3_takeBack 1 [.ref 1034, .ref 1051] h (some (.int (zb true))) (zup (zup (zup h 1053 (zI 32 (sgb ft w b1))) 1051 (zO 3 [.ref t, .ref 1052, .int (nI X38), .int (nI (X39 - 1)), .ref 1053])) 1034 (zO 1 [.int (nI (un - 1)), .ref 1035, .ref 1036, .ref 1037, .int (nI ((la + 16 - 1) % 16))])) := by
  intro n
  obtain ⟨p0, p1, p2, p3⟩ := hP
  have e9 : (la + 16 - 1) % 16 < 16 := Nat.mod_lt _ (by decide)
  refine z_enter (lv := [(0, _), (1, _)]) (by decide) (Nat.le_of_ble_eq_true rfl) rfl (fun X C => ?_)
  refine z_aload_n (pc := 0) C dX3_takeBack_0 0 rfl ?_
  refine z_getf (pc := 1) C dX3_takeBack_1 fX3_19 (by assumption) (by first | rfl | assumption) ?_
  first | refine z_ifneB (pc := 4) C 9 dX3_takeBack_4 (by decide) (fun hc4 => ?_) (fun hc4 => ?_) | refine z_ifneN (pc := 4) C 9 dX3_takeBack_4 (by decide) (by omega) (fun hc4 => ?_) (fun hc4 => ?_) | refine z_if_ne (pc := 4) C 9 dX3_takeBack_4 (by decide) (fun hc4 => ?_) (fun hc4 => ?_)
  · skip
    refine z_aload_n (pc := 9) C dX3_takeBack_9 0 rfl ?_
    refine z_getf (pc := 10) C dX3_takeBack_10 fX3_13 (by assumption) (by first | rfl | assumption) ?_
    refine z_aload_n (pc := 13) C dX3_takeBack_13 0 rfl ?_
    refine z_getf (pc := 14) C dX3_takeBack_14 fX3_23 (by assumption) (by first | rfl | assumption) ?_
    refine z_ialdE (pc := 17) C dX3_takeBack_17 (by assumption) (by omega) (by decide) hw ?_
    refine z_istore_n (pc := 18) (lv' := [(2, _), (0, _), (1, _)]) C dX3_takeBack_18 (by decide) rfl ?_
    refine z_aload_n (pc := 19) C dX3_takeBack_19 1 rfl ?_
    refine z_getf (pc := 20) C dX3_takeBack_20 fX3_9 (by assumption) (by first | rfl | assumption) ?_
    refine z_aload_n (pc := 23) C dX3_takeBack_23 1 rfl ?_
    refine z_getf (pc := 24) C dX3_takeBack_24 fX3_23 (by assumption) (by first | rfl | assumption) ?_
    refine z_ialdE (pc := 27) C dX3_takeBack_27 (by assumption) (by omega) (by decide) ha ?_
    first | refine z_ifneB (pc := 28) C 58 dX3_takeBack_28 (by decide) (fun hc28 => ?_) (fun hc28 => ?_) | refine z_ifneN (pc := 28) C 58 dX3_takeBack_28 (by decide) (by omega) (fun hc28 => ?_) (fun hc28 => ?_) | refine z_if_ne (pc := 28) C 58 dX3_takeBack_28 (by decide) (fun hc28 => ?_) (fun hc28 => ?_)
    · exact absurd hc28 (by decide)
    · skip
      refine z_aload_n (pc := 31) C dX3_takeBack_31 2 rfl ?_
      refine z_iload_n (pc := 32) C dX3_takeBack_32 0 rfl ?_
      refine z_aload_n (pc := 33) C dX3_takeBack_33 1 rfl ?_
      refine z_getf (pc := 34) C dX3_takeBack_34 fX3_16 (by assumption) (by first | rfl | assumption) ?_
      refine z_aload_n (pc := 37) C dX3_takeBack_37 1 rfl ?_
      refine z_getf (pc := 38) C dX3_takeBack_38 fX3_23 (by assumption) (by first | rfl | assumption) ?_
      refine z_ialdE (pc := 41) C dX3_takeBack_41 (by assumption) (by omega) (by decide) hb ?_
      refine z_cV0 (pc := 42) mX5_goBack C [_, _] dX3_takeBack_42 lX3_32 mtX5_goBack (tX5_goBack s0 s2 hm) (by assumption) rfl rfl (by decide) (Nat.le_of_ble_eq_true rfl) (Nat.zero_le _) (Nat.zero_le _) ?_
      refine z_aload_n (pc := 45) C dX3_takeBack_45 2 rfl ?_
      refine z_dup (pc := 46) C dX3_takeBack_46 rfl ?_
      refine z_getf (pc := 47) C dX3_takeBack_47 fX3_38 ((zup_ne (by decide)).trans s0) (by first | rfl | assumption) ?_
      refine z_iconst (pc := 50) C dX3_takeBack_50 (nI 1) (by decide) ?_
      first | refine z_isubN (pc := 51) C dX3_takeBack_51 (by omega) ?_ | refine z_isub (pc := 51) C dX3_takeBack_51 ?_
      refine z_putf (pc := 52) (fs' := [_, _, _, _, _]) C dX3_takeBack_52 gX3_38 ((zup_ne (by decide)).trans s0) (fun _ => ⟨rfl, rfl⟩) (by exact Nat.le_of_ble_eq_true rfl) (by rfl) ?_
      refine z_goto (pc := 55) C 94 dX3_takeBack_55 (by decide) ?_
      refine z_aload_n (pc := 94) C dX3_takeBack_94 1 rfl ?_
      refine z_aload_n (pc := 95) C dX3_takeBack_95 1 rfl ?_
      refine z_getf (pc := 96) C dX3_takeBack_96 fX3_23 ((zup_ne (by decide)).trans ((zup_ne (by decide)).trans p0)) (by first | rfl | assumption) ?_
      refine z_bipush (pc := 99) C dX3_takeBack_99 (nI 16) (by decide) ?_
      first | refine z_iaddN (pc := 101) C dX3_takeBack_101 ?_ | refine z_iadd (pc := 101) C dX3_takeBack_101 ?_
      refine z_iconst (pc := 102) C dX3_takeBack_102 (nI 1) (by decide) ?_
      first | refine z_isubN (pc := 103) C dX3_takeBack_103 (by omega) ?_ | refine z_isub (pc := 103) C dX3_takeBack_103 ?_
      refine z_bipush (pc := 104) C dX3_takeBack_104 (nI 16) (by decide) ?_
      first | refine z_iremN (pc := 106) C dX3_takeBack_106 (by omega) (by omega) (by omega) ?_ | refine z_irem (pc := 106) C dX3_takeBack_106 (by decide) ?_
      refine z_putf (pc := 107) (fs' := [_, _, _, _, _]) C dX3_takeBack_107 gX3_23 ((zup_ne (by decide)).trans ((zup_ne (by decide)).trans p0)) (fun _ => ⟨rfl, rfl⟩) (by exact Nat.le_of_ble_eq_true rfl) (by rfl) ?_
      refine z_aload_n (pc := 110) C dX3_takeBack_110 1 rfl ?_
      refine z_dup (pc := 111) C dX3_takeBack_111 rfl ?_
      refine z_getf (pc := 112) C dX3_takeBack_112 fX3_19 (zup_same _ _ _) (by first | rfl | assumption) ?_
      refine z_iconst (pc := 115) C dX3_takeBack_115 (nI 1) (by decide) ?_
      first | refine z_isubN (pc := 116) C dX3_takeBack_116 (by omega) ?_ | refine z_isub (pc := 116) C dX3_takeBack_116 ?_
      refine z_putf (pc := 117) (fs' := [_, _, _, _, _]) C dX3_takeBack_117 gX3_19 (zup_same _ _ _) (fun _ => ⟨rfl, rfl⟩) (by exact Nat.le_of_ble_eq_true rfl) (by rfl) ?_
      refine z_iconst (pc := 120) C dX3_takeBack_120 (zb true) (by decide) ?_
      refine z_zret (pc := 121) C dX3_takeBack_121 rfl (by first | exact zb_nar _ | rfl) (Nat.zero_le _) (Nat.zero_le _) ⟨?_, ?_, rfl⟩
      · first | rfl | simp_all
      · rw [zup_zup]
  · omega

set_option maxRecDepth 20000 in
set_option maxHeartbeats 1000000 in
theorem tX3_takeBackT {h : ZH} {un la w b1 le tr t X38 X39 : Nat} {f1 f2 f3 fl ft : Nat → Nat} (hP : Pst h un la f1 f2 f3) (hu : 0 < un ∧ un ≤ 16) (hl : la < 16) (s0 : h 1051 = some (zO 3 [.ref t, .ref 1052, .int (nI X38), .int (nI X39), .ref 1053])) (s1 : h 1052 = some (zI 6 fl)) (s2 : h 1053 = some (zI 32 ft)) (hw : f2 la = w) (hb : f3 la = b1) (ha : f1 la = 1) (hm : w < 6) : ZD mX3_takeBack 1 [.ref 1034, .ref 1051] h (some (.int (zb true))) (zup (zup h 1052 (zI 6 (nup fl w b1))) 1034 (zO 1 [.int (nI (un - 1)), .ref 1035, .ref 1036, .ref 1037, .int (nI ((la + 16 - 1) % 16))])) := by
  intro n
  obtain ⟨p0, p1, p2, p3⟩ := hP
  have e9 : (la + 16 - 1) % 16 < 16 := Nat.mod_lt _ (by decide)
  refine z_enter (lv := [(0, _), (1, _)]) (by decide) (Nat.le_of_ble_eq_true rfl) rfl (fun X C => ?_)
  refine z_aload_n (pc := 0) C dX3_takeBack_0 0 rfl ?_
  refine z_getf (pc := 1) C dX3_takeBack_1 fX3_19 (by assumption) (by first | rfl | assumption) ?_
  first | refine z_ifneB (pc := 4) C 9 dX3_takeBack_4 (by decide) (fun hc4 => ?_) (fun hc4 => ?_) | refine z_ifneN (pc := 4) C 9 dX3_takeBack_4 (by decide) (by omega) (fun hc4 => ?_) (fun hc4 => ?_) | refine z_if_ne (pc := 4) C 9 dX3_takeBack_4 (by decide) (fun hc4 => ?_) (fun hc4 => ?_)
  · skip
    refine z_aload_n (pc := 9) C dX3_takeBack_9 0 rfl ?_
    refine z_getf (pc := 10) C dX3_takeBack_10 fX3_13 (by assumption) (by first | rfl | assumption) ?_
    refine z_aload_n (pc := 13) C dX3_takeBack_13 0 rfl ?_
    refine z_getf (pc := 14) C dX3_takeBack_14 fX3_23 (by assumption) (by first | rfl | assumption) ?_
    refine z_ialdE (pc := 17) C dX3_takeBack_17 (by assumption) (by omega) (by decide) hw ?_
    refine z_istore_n (pc := 18) (lv' := [(2, _), (0, _), (1, _)]) C dX3_takeBack_18 (by decide) rfl ?_
    refine z_aload_n (pc := 19) C dX3_takeBack_19 1 rfl ?_
    refine z_getf (pc := 20) C dX3_takeBack_20 fX3_9 (by assumption) (by first | rfl | assumption) ?_
    refine z_aload_n (pc := 23) C dX3_takeBack_23 1 rfl ?_
    refine z_getf (pc := 24) C dX3_takeBack_24 fX3_23 (by assumption) (by first | rfl | assumption) ?_
    refine z_ialdE (pc := 27) C dX3_takeBack_27 (by assumption) (by omega) (by decide) ha ?_
    first | refine z_ifneB (pc := 28) C 58 dX3_takeBack_28 (by decide) (fun hc28 => ?_) (fun hc28 => ?_) | refine z_ifneN (pc := 28) C 58 dX3_takeBack_28 (by decide) (by omega) (fun hc28 => ?_) (fun hc28 => ?_) | refine z_if_ne (pc := 28) C 58 dX3_takeBack_28 (by decide) (fun hc28 => ?_) (fun hc28 => ?_)
    · skip
      refine z_aload_n (pc := 58) C dX3_takeBack_58 1 rfl ?_
      refine z_getf (pc := 59) C dX3_takeBack_59 fX3_9 (by assumption) (by first | rfl | assumption) ?_
      refine z_aload_n (pc := 62) C dX3_takeBack_62 1 rfl ?_
      refine z_getf (pc := 63) C dX3_takeBack_63 fX3_23 (by assumption) (by first | rfl | assumption) ?_
      refine z_ialdE (pc := 66) C dX3_takeBack_66 (by assumption) (by omega) (by decide) ha ?_
      refine z_iconst (pc := 67) C dX3_takeBack_67 (nI 1) (by decide) ?_
      first | refine z_icmpneN (pc := 68) C 89 dX3_takeBack_68 (by decide) (by omega) (by omega) (fun hc68 => ?_) (fun hc68 => ?_) | refine z_icmp_ne (pc := 68) C 89 dX3_takeBack_68 (by decide) (fun hc68 => ?_) (fun hc68 => ?_)
      · exact absurd rfl hc68
      · skip
        refine z_aload_n (pc := 71) C dX3_takeBack_71 2 rfl ?_
        refine z_getf (pc := 72) C dX3_takeBack_72 fX3_41 (by assumption) (by first | rfl | assumption) ?_
        refine z_iload_n (pc := 75) C dX3_takeBack_75 0 rfl ?_
        refine z_aload_n (pc := 76) C dX3_takeBack_76 1 rfl ?_
        refine z_getf (pc := 77) C dX3_takeBack_77 fX3_16 (by assumption) (by first | rfl | assumption) ?_
        refine z_aload_n (pc := 80) C dX3_takeBack_80 1 rfl ?_
        refine z_getf (pc := 81) C dX3_takeBack_81 fX3_23 (by assumption) (by first | rfl | assumption) ?_
        refine z_ialdE (pc := 84) C dX3_takeBack_84 (by assumption) (by omega) (by decide) hb ?_
        first | refine z_iastN (pc := 85) C dX3_takeBack_85 (by assumption) (by omega) (by decide) ?_ | refine z_iastI (pc := 85) C dX3_takeBack_85 (by assumption) (by omega) (by decide) ?_
        refine z_goto (pc := 86) C 94 dX3_takeBack_86 (by decide) ?_
        refine z_aload_n (pc := 94) C dX3_takeBack_94 1 rfl ?_
        refine z_aload_n (pc := 95) C dX3_takeBack_95 1 rfl ?_
        refine z_getf (pc := 96) C dX3_takeBack_96 fX3_23 ((zup_ne (by decide)).trans p0) (by first | rfl | assumption) ?_
        refine z_bipush (pc := 99) C dX3_takeBack_99 (nI 16) (by decide) ?_
        first | refine z_iaddN (pc := 101) C dX3_takeBack_101 ?_ | refine z_iadd (pc := 101) C dX3_takeBack_101 ?_
        refine z_iconst (pc := 102) C dX3_takeBack_102 (nI 1) (by decide) ?_
        first | refine z_isubN (pc := 103) C dX3_takeBack_103 (by omega) ?_ | refine z_isub (pc := 103) C dX3_takeBack_103 ?_
        refine z_bipush (pc := 104) C dX3_takeBack_104 (nI 16) (by decide) ?_
        first | refine z_iremN (pc := 106) C dX3_takeBack_106 (by omega) (by omega) (by omega) ?_ | refine z_irem (pc := 106) C dX3_takeBack_106 (by decide) ?_
        refine z_putf (pc := 107) (fs' := [_, _, _, _, _]) C dX3_takeBack_107 gX3_23 ((zup_ne (by decide)).trans p0) (fun _ => ⟨rfl, rfl⟩) (by exact Nat.le_of_ble_eq_true rfl) (by rfl) ?_
        refine z_aload_n (pc := 110) C dX3_takeBack_110 1 rfl ?_
        refine z_dup (pc := 111) C dX3_takeBack_111 rfl ?_
        refine z_getf (pc := 112) C dX3_takeBack_112 fX3_19 (zup_same _ _ _) (by first | rfl | assumption) ?_
        refine z_iconst (pc := 115) C dX3_takeBack_115 (nI 1) (by decide) ?_
        first | refine z_isubN (pc := 116) C dX3_takeBack_116 (by omega) ?_ | refine z_isub (pc := 116) C dX3_takeBack_116 ?_
        refine z_putf (pc := 117) (fs' := [_, _, _, _, _]) C dX3_takeBack_117 gX3_19 (zup_same _ _ _) (fun _ => ⟨rfl, rfl⟩) (by exact Nat.le_of_ble_eq_true rfl) (by rfl) ?_
        refine z_iconst (pc := 120) C dX3_takeBack_120 (zb true) (by decide) ?_
        refine z_zret (pc := 121) C dX3_takeBack_121 rfl (by first | exact zb_nar _ | rfl) (Nat.zero_le _) (Nat.zero_le _) ⟨?_, ?_, rfl⟩
        · first | rfl | simp_all
        · rw [zup_zup]
    · exact absurd hc28 (by decide)
  · omega

set_option maxRecDepth 20000 in
set_option maxHeartbeats 1000000 in
theorem tX3_takeBackL {h : ZH} {un la w b1 le tr t X38 X39 : Nat} {f1 f2 f3 fl ft : Nat → Nat} (hP : Pst h un la f1 f2 f3) (hu : 0 < un ∧ un ≤ 16) (hl : la < 16) (s0 : h 1051 = some (zO 3 [.ref t, .ref 1052, .int (nI X38), .int (nI X39), .ref 1053])) (s1 : h 1052 = some (zI 6 fl)) (s2 : h 1053 = some (zI 32 ft)) (hw : f2 la = w) (hb : f3 la = b1) (ha : f1 la = 2) (hm : w < 32) : ZD mX3_takeBack 1 [.ref 1034, .ref 1051] h (some (.int (zb true))) (zup (zup h 1051 (zO 3 [.ref t, .ref 1052, .int (nI (X38 ^^^ 1 <<< w)), .int (nI X39), .ref 1053])) 1034 (zO 1 [.int (nI (un - 1)), .ref 1035, .ref 1036, .ref 1037, .int (nI ((la + 16 - 1) % 16))])) := by
  intro n
  obtain ⟨p0, p1, p2, p3⟩ := hP
  have e9 : (la + 16 - 1) % 16 < 16 := Nat.mod_lt _ (by decide)
  refine z_enter (lv := [(0, _), (1, _)]) (by decide) (Nat.le_of_ble_eq_true rfl) rfl (fun X C => ?_)
  refine z_aload_n (pc := 0) C dX3_takeBack_0 0 rfl ?_
  refine z_getf (pc := 1) C dX3_takeBack_1 fX3_19 (by assumption) (by first | rfl | assumption) ?_
  first | refine z_ifneB (pc := 4) C 9 dX3_takeBack_4 (by decide) (fun hc4 => ?_) (fun hc4 => ?_) | refine z_ifneN (pc := 4) C 9 dX3_takeBack_4 (by decide) (by omega) (fun hc4 => ?_) (fun hc4 => ?_) | refine z_if_ne (pc := 4) C 9 dX3_takeBack_4 (by decide) (fun hc4 => ?_) (fun hc4 => ?_)
  · skip
    refine z_aload_n (pc := 9) C dX3_takeBack_9 0 rfl ?_
    refine z_getf (pc := 10) C dX3_takeBack_10 fX3_13 (by assumption) (by first | rfl | assumption) ?_
    refine z_aload_n (pc := 13) C dX3_takeBack_13 0 rfl ?_
    refine z_getf (pc := 14) C dX3_takeBack_14 fX3_23 (by assumption) (by first | rfl | assumption) ?_
    refine z_ialdE (pc := 17) C dX3_takeBack_17 (by assumption) (by omega) (by decide) hw ?_
    refine z_istore_n (pc := 18) (lv' := [(2, _), (0, _), (1, _)]) C dX3_takeBack_18 (by decide) rfl ?_
    refine z_aload_n (pc := 19) C dX3_takeBack_19 1 rfl ?_
    refine z_getf (pc := 20) C dX3_takeBack_20 fX3_9 (by assumption) (by first | rfl | assumption) ?_
    refine z_aload_n (pc := 23) C dX3_takeBack_23 1 rfl ?_
    refine z_getf (pc := 24) C dX3_takeBack_24 fX3_23 (by assumption) (by first | rfl | assumption) ?_
    refine z_ialdE (pc := 27) C dX3_takeBack_27 (by assumption) (by omega) (by decide) ha ?_
    first | refine z_ifneB (pc := 28) C 58 dX3_takeBack_28 (by decide) (fun hc28 => ?_) (fun hc28 => ?_) | refine z_ifneN (pc := 28) C 58 dX3_takeBack_28 (by decide) (by omega) (fun hc28 => ?_) (fun hc28 => ?_) | refine z_if_ne (pc := 28) C 58 dX3_takeBack_28 (by decide) (fun hc28 => ?_) (fun hc28 => ?_)
    · skip
      refine z_aload_n (pc := 58) C dX3_takeBack_58 1 rfl ?_
      refine z_getf (pc := 59) C dX3_takeBack_59 fX3_9 (by assumption) (by first | rfl | assumption) ?_
      refine z_aload_n (pc := 62) C dX3_takeBack_62 1 rfl ?_
      refine z_getf (pc := 63) C dX3_takeBack_63 fX3_23 (by assumption) (by first | rfl | assumption) ?_
      refine z_ialdE (pc := 66) C dX3_takeBack_66 (by assumption) (by omega) (by decide) ha ?_
      refine z_iconst (pc := 67) C dX3_takeBack_67 (nI 1) (by decide) ?_
      first | refine z_icmpneN (pc := 68) C 89 dX3_takeBack_68 (by decide) (by omega) (by omega) (fun hc68 => ?_) (fun hc68 => ?_) | refine z_icmp_ne (pc := 68) C 89 dX3_takeBack_68 (by decide) (fun hc68 => ?_) (fun hc68 => ?_)
      · skip
        refine z_aload_n (pc := 89) C dX3_takeBack_89 2 rfl ?_
        refine z_iload_n (pc := 90) C dX3_takeBack_90 0 rfl ?_
        refine z_cV0 (pc := 91) mX5_turnLamp C [_] dX3_takeBack_91 lX3_44 mtX5_turnLamp (tX5_turnLamp s0 hm) (by assumption) rfl rfl (by decide) (Nat.le_of_ble_eq_true rfl) (Nat.zero_le _) (Nat.zero_le _) ?_
        refine z_aload_n (pc := 94) C dX3_takeBack_94 1 rfl ?_
        refine z_aload_n (pc := 95) C dX3_takeBack_95 1 rfl ?_
        refine z_getf (pc := 96) C dX3_takeBack_96 fX3_23 ((zup_ne (by decide)).trans p0) (by first | rfl | assumption) ?_
        refine z_bipush (pc := 99) C dX3_takeBack_99 (nI 16) (by decide) ?_
        first | refine z_iaddN (pc := 101) C dX3_takeBack_101 ?_ | refine z_iadd (pc := 101) C dX3_takeBack_101 ?_
        refine z_iconst (pc := 102) C dX3_takeBack_102 (nI 1) (by decide) ?_
        first | refine z_isubN (pc := 103) C dX3_takeBack_103 (by omega) ?_ | refine z_isub (pc := 103) C dX3_takeBack_103 ?_
        refine z_bipush (pc := 104) C dX3_takeBack_104 (nI 16) (by decide) ?_
        first | refine z_iremN (pc := 106) C dX3_takeBack_106 (by omega) (by omega) (by omega) ?_ | refine z_irem (pc := 106) C dX3_takeBack_106 (by decide) ?_
        refine z_putf (pc := 107) (fs' := [_, _, _, _, _]) C dX3_takeBack_107 gX3_23 ((zup_ne (by decide)).trans p0) (fun _ => ⟨rfl, rfl⟩) (by exact Nat.le_of_ble_eq_true rfl) (by rfl) ?_
        refine z_aload_n (pc := 110) C dX3_takeBack_110 1 rfl ?_
        refine z_dup (pc := 111) C dX3_takeBack_111 rfl ?_
        refine z_getf (pc := 112) C dX3_takeBack_112 fX3_19 (zup_same _ _ _) (by first | rfl | assumption) ?_
        refine z_iconst (pc := 115) C dX3_takeBack_115 (nI 1) (by decide) ?_
        first | refine z_isubN (pc := 116) C dX3_takeBack_116 (by omega) ?_ | refine z_isub (pc := 116) C dX3_takeBack_116 ?_
        refine z_putf (pc := 117) (fs' := [_, _, _, _, _]) C dX3_takeBack_117 gX3_19 (zup_same _ _ _) (fun _ => ⟨rfl, rfl⟩) (by exact Nat.le_of_ble_eq_true rfl) (by rfl) ?_
        refine z_iconst (pc := 120) C dX3_takeBack_120 (zb true) (by decide) ?_
        refine z_zret (pc := 121) C dX3_takeBack_121 rfl (by first | exact zb_nar _ | rfl) (Nat.zero_le _) (Nat.zero_le _) ⟨?_, ?_, rfl⟩
        · first | rfl | simp_all
        · rw [zup_zup]
      · exact absurd hc68 (by decide)
    · exact absurd hc28 (by decide)
  · omega

set_option maxRecDepth 20000 in
set_option maxHeartbeats 1000000 in
theorem tX3_takeBack0 {h : ZH} {la : Int32} (p0 : h 1034 = some (zO 1 [.int (nI 0), .ref 1035, .ref 1036, .ref 1037, .int la])) : ZD mX3_takeBack 1 [.ref 1034, .ref 1051] h (some (.int (zb false))) h := by
  intro n
  refine z_enter (lv := [(0, _), (1, _)]) (by decide) (Nat.le_of_ble_eq_true rfl) rfl (fun X C => ?_)
  refine z_aload_n (pc := 0) C dX3_takeBack_0 0 rfl ?_
  refine z_getf (pc := 1) C dX3_takeBack_1 fX3_19 (by assumption) (by first | rfl | assumption) ?_
  first | refine z_ifneB (pc := 4) C 9 dX3_takeBack_4 (by decide) (fun hc4 => ?_) (fun hc4 => ?_) | refine z_ifneN (pc := 4) C 9 dX3_takeBack_4 (by decide) (by omega) (fun hc4 => ?_) (fun hc4 => ?_) | refine z_if_ne (pc := 4) C 9 dX3_takeBack_4 (by decide) (fun hc4 => ?_) (fun hc4 => ?_)
  · exact absurd hc4 (by decide)
  · skip
    refine z_iconst (pc := 7) C dX3_takeBack_7 (zb false) (by decide) ?_
    refine z_zret (pc := 8) C dX3_takeBack_8 rfl (by first | exact zb_nar _ | rfl) (Nat.zero_le _) (Nat.zero_le _) ⟨?_, ?_, rfl⟩
    · first | rfl | simp_all
    · rfl
