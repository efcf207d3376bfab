def sElse (R S T : Nat → Nat) : Nat := sbits (fun k => decide (sstd R S k ≠ sstd R T k)) (R 4)
def sMay (R S : Nat → Nat) (m p : Nat) : Bool := decide (p = S (8 * m)) || (R (23 + S (8 * m))).testBit p
def sst (S : Nat → Nat) (m p : Nat) : Nat → Nat := nup (sgo S m p) 39 (S 39 + 1)
def aStOk (R S : Nat → Nat) (m p : Int32) : Bool := zlt m (R 3) && zlt p (R 1) && sMay R S (pn m) (pn p)
def aStep (R S : Nat → Nat) (m p : Int32) : Int32 × Int32 := if zlt m (R 3) && zlt p (R 1) then (if sMay R S (pn m) (pn p) then (nI (sElse R (sst S (pn m) (pn p)) S), 0) else (-1, 5)) else (-1, 1)
def aTkOk (R S : Nat → Nat) (k m : Int32) : Bool := zlt k (R 4) && zlt m (R 3) && decide (S (32 + pn k) ≠ pn m)
def aTake (R S : Nat → Nat) (k m : Int32) : Int32 × Int32 := if zlt k (R 4) && zlt m (R 3) then (if S (32 + pn k) = pn m then (-1, 5) else (zo (sstd R (nup S (32 + pn k) (pn m)) (pn k)), 0)) else (-1, 1)
def aLiOk (R S : Nat → Nat) (p : Int32) (b : Bool) : Bool := zlt p (R 1) && decide ((S 38).testBit (pn p) ≠ b)
def aLight (R S : Nat → Nat) (p : Int32) (b : Bool) : Bool × Int32 := if zlt p (R 1) then (if (S 38).testBit (pn p) = b then (false, 5) else (true, 0)) else (false, 1)
theorem sdark_congr {S T : Nat → Nat} {m : Nat} (hm : m < 4) (h : ∀ x, x < 39 → T x = S x) : ∀ f k, k + f ≤ 8 → sdark T m f k = sdark S m f k := by
  intro f
  induction f with
  | zero => intro k _; rfl
  | succ f ih =>
    intro k hk
    rw [sdark, sdark, h 38 (by omega), h (8 * m + k) (by omega), ih (k + 1) (by omega)]
theorem sstd_congr {R S T : Nat → Nat} (hR : wfR R) (hS : wfS R S) (h : ∀ x, x < 39 → T x = S x) {k : Nat} (hk : k < R 4) : sstd R T k = sstd R S k := by
  have w3 := hR.2.1
  have w4 := hR.2.2.1
  have hb := sbeh_le R (m := S (32 + k)) (hR.2.2.2.2.2.2.2.1 k hk).2.1
  unfold sstd
  rw [h (32 + k) (by omega)]
  exact sdark_congr (by have := hS.2.1 k hk; omega) h _ _ (by omega)
theorem wfS_congr {R S T : Nat → Nat} (hR : wfR R) (hS : wfS R S) (h : ∀ x, x < 39 → T x = S x) : wfS R T := by
  obtain ⟨h1, h2, h3⟩ := hS
  have w3 := hR.2.1
  have w4 := hR.2.2.1
  refine ⟨fun m hm a ha => by rw [h _ (by omega)]; exact h1 m hm a ha, fun k hk => by rw [h _ (by omega)]; exact h2 k hk, by rw [h _ (by omega)]; exact h3⟩
theorem ncpy_in (f g : Nat → Nat) {a b c j : Nat} (hj : j < c) : ncpy f g a b c (b + j) = f (a + j) := by
  unfold ncpy
  rw [if_pos (by omega), show b + j - b = j by omega]
theorem ncpy_in0 (f g : Nat → Nat) {a c j : Nat} (hj : j < c) : ncpy f g a 0 c j = f (a + j) := by
  have := ncpy_in f g (a := a) (b := 0) hj
  rwa [Nat.zero_add] at this
theorem ncpy_00 (f g : Nat → Nat) {c j : Nat} (hj : j < c) : ncpy f g 0 0 c j = f j := by
  rw [ncpy_in0 f g hj, Nat.zero_add]
theorem ncpy_out (f g : Nat → Nat) {a b c j : Nat} (hj : j < b ∨ b + c ≤ j) : ncpy f g a b c j = g j := if_neg (by omega)
theorem sst_lt {S : Nat → Nat} {m p x : Nat} (hx : x < 39) : sst S m p x = sgo S m p x := nup_ne (by omega)
theorem wfS_st {R S : Nat → Nat} (hR : wfR R) (hS : wfS R S) {m p : Nat} (hm : m < R 3) (hp : p < R 1) : wfS R (sst S m p) := wfS_congr hR (wfS_go hR hS hm hp) (fun _ hx => sst_lt hx)
theorem wfS_tk {R S : Nat → Nat} (hR : wfR R) (hS : wfS R S) {k m : Nat} (hk : k < R 4) (hm : m < R 3) : wfS R (nup S (32 + k) m) := by
  obtain ⟨h1, h2, h3⟩ := hS
  have w3 := hR.2.1
  have w4 := hR.2.2.1
  refine ⟨fun m' hm' a ha => by rw [nup_ne (by omega)]; exact h1 m' hm' a ha, fun k' hk' => ?_, by rw [nup_ne (by omega)]; exact h3⟩
  by_cases e : k' = k
  · subst e; rw [nup_same]; exact hm
  · rw [nup_ne (by omega)]; exact h2 k' hk'
theorem wfS_li {R S : Nat → Nat} (hR : wfR R) (hS : wfS R S) {p : Nat} (hp : p < R 1) : wfS R (nup S 38 (S 38 ^^^ 1 <<< p)) := by
  obtain ⟨h1, h2, h3⟩ := hS
  have w1 := hR.1
  have w3 := hR.2.1
  have w4 := hR.2.2.1
  refine ⟨fun m' hm' a ha => by rw [nup_ne (by omega)]; exact h1 m' hm' a ha, fun k' hk' => by rw [nup_ne (by omega)]; exact h2 k' hk', by rw [nup_same]; exact Nat.xor_lt_two_pow (n := 7) h3 (s1_lt (by omega))⟩
def ssh (U : Nat → Nat) (k : Nat) : Nat → Nat := fun j => if j < k then U (j + 40) else U j
theorem ssh_0 (U : Nat → Nat) : ssh U 0 = U := by funext j; exact if_neg (by omega)
theorem ssh_s (U : Nat → Nat) (k : Nat) : nup (ssh U k) k (U (k + 40)) = ssh U (k + 1) := by
  funext j
  by_cases e : j = k
  · subst e; simp [nup, ssh]
  · by_cases q : j < k
    · simp [nup, ssh, e, q, Nat.lt_succ_of_lt q]
    · have : ¬ j < k + 1 := by omega
      simp [nup, ssh, e, q, this]
/-- the rows of former states, one more -/
def sNote (U S : Nat → Nat) (un : Nat) : Nat → Nat := if un = 16 then ncpy S (ssh U 600) 0 600 40 else ncpy S U 0 (40 * un) 40
theorem Scn.kh {h : ZH} {t : Nat} {R S : Nat → Nat} (hC : Scn h 1051 1052 1053 t R S) (hq : t = 1008 ∨ t = 1039) (c : ZE) : Scn (zup h 1000 c) 1051 1052 1053 t R S := Scn_up hC (by decide) (by decide) (by decide) (by omega)

theorem zb_inj {a b : Bool} (h : zb a = zb b) : a = b := by
  cases a <;> cases b <;> first | rfl | exact absurd h (by decide)

theorem zo_inj {o p : Option Nat} (ho : ∀ k, o = some k → k < 2147483648) (hp : ∀ k, p = some k → k < 2147483648) (h : zo o = zo p) : o = p := by
  cases p with
  | none =>
    cases o with
    | none => rfl
    | some k =>
      exact absurd ((zo_eq (o := none) (p := k) (ho k rfl) (fun _ y => by cases y)).mp h.symm) (by simp)
  | some q => exact (zo_eq (hp q rfl) ho).mp h

set_option maxRecDepth 20000 in
set_option maxHeartbeats 1000000 in
theorem tX5_killsElsewhereThan {h : ZH} {s le tr t s9 le1 tr1 : Nat} {R S S1 : Nat → Nat} (hC : Scn h s le tr t R S) (hR : wfR R) (hS : wfS R S) (hC1 : Scn h s9 le1 tr1 t R S1) (hS1 : wfS R S1) : ZD mX5_killsElsewhereThan 3 [.ref s, .ref s9] h (some (.int (nI (sElse R S S1)))) h := by
  intro n
  obtain ⟨w1, w3, w4, w5, w0, wP, wM, wK, wX⟩ := id hR
  obtain ⟨wT, wL, wB⟩ := id hS
  obtain ⟨hT, fl, ft, s0, s1, s2, rl, rt⟩ := id hC
  obtain ⟨fc, fh, fn, fk, fs, ff, fw, fe, t0, t1, t2, t3, t4, t5, t6, t7, t8, rc, rh, rn, rk, rs, rf, rv, re⟩ := id hT
  obtain ⟨-, fl1, ft1, u0, -⟩ := id hC1
  refine z_enter (lv := [(0, _), (1, _)]) (by decide) (Nat.le_of_ble_eq_true rfl) rfl (fun X C => ?_)
  refine z_iconst (pc := 0) C dX5_killsElsewhereThan_0 (nI 0) (by decide) ?_
  refine z_istore_n (pc := 1) (lv' := [(2, _), (0, _), (1, _)]) C dX5_killsElsewhereThan_1 (by decide) rfl ?_
  refine z_iconst (pc := 2) C dX5_killsElsewhereThan_2 (nI 0) (by decide) ?_
  refine z_istore_n (pc := 3) (lv' := [(3, _), (2, _), (0, _), (1, _)]) C dX5_killsElsewhereThan_3 (by decide) rfl ?_
  refine z_sub (lv' := [(0, _), (1, _), (2, _), (3, _)]) [2, 3, 1, 0] rfl ?_
  have lp4 : ∀ (f : Nat) (k acc : Nat), (k + f = R 4 ∧ acc = sbits (fun k => decide (sstd R S k ≠ sstd R S1 k)) k) → Zc X mX5_killsElsewhereThan (zEnd X (fun r hh n' => r = (some (.int (nI (sElse R S S1)))) ∧ hh = h ∧ n' = n) 0 0) 4 [(0, .ref s), (1, .ref s9), (2, .int (nI acc)), (3, .int (nI k))] [] h n 0 0 := by
    intro f
    induction f using Nat.strongRecOn with
    | _ f ih =>
      intro k acc hk
      obtain ⟨hk, he⟩ := hk
      refine z_iload_n (pc := 4) C dX5_killsElsewhereThan_4 3 rfl ?_
      refine z_aload_n (pc := 5) C dX5_killsElsewhereThan_5 0 rfl ?_
      refine z_getf (pc := 6) C dX5_killsElsewhereThan_6 fX5_18 (by assumption) (by first | rfl | assumption) ?_
      refine z_getf (pc := 9) C dX5_killsElsewhereThan_9 fX5_64 (by assumption) (by first | rfl | assumption) ?_
      refine z_iconst (pc := 12) C dX5_killsElsewhereThan_12 (nI 4) (by decide) ?_
      refine z_ialdE (pc := 13) C dX5_killsElsewhereThan_13 (by assumption) (by omega) (by decide) (rc 4 (by decide) (by decide)) ?_
      first | refine z_icmpgeN (pc := 14) C 42 dX5_killsElsewhereThan_14 (by decide) (by omega) (by omega) (fun hc14 => ?_) (fun hc14 => ?_) | refine z_icmp_ge (pc := 14) C 42 dX5_killsElsewhereThan_14 (by decide) (fun hc14 => ?_) (fun hc14 => ?_)
      · skip
        refine z_iload_n (pc := 42) C dX5_killsElsewhereThan_42 2 rfl ?_
        refine z_iret (pc := 43) C dX5_killsElsewhereThan_43 rfl (Nat.zero_le _) (Nat.zero_le _) ⟨?_, ?_, rfl⟩
        · obtain rfl : f = 0 := (by omega); obtain rfl : k = R 4 := (by omega); rw [he] <;> rfl
        · rfl
      · skip
        refine z_aload_n (pc := 17) C dX5_killsElsewhereThan_17 0 rfl ?_
        refine z_iload_n (pc := 18) C dX5_killsElsewhereThan_18 3 rfl ?_
        refine z_cV1 (pc := 19) mX5_standOf C [_] dX5_killsElsewhereThan_19 lX5_67 mtX5_standOf (tX5_standOf hC hR hS (by omega)) (by assumption) rfl rfl (by decide) (Nat.le_of_ble_eq_true rfl) (Nat.zero_le _) (Nat.zero_le _) ?_
        refine z_aload_n (pc := 22) C dX5_killsElsewhereThan_22 1 rfl ?_
        refine z_iload_n (pc := 23) C dX5_killsElsewhereThan_23 3 rfl ?_
        refine z_cV1 (pc := 24) mX5_standOf C [_] dX5_killsElsewhereThan_24 lX5_67 mtX5_standOf (tX5_standOf hC1 hR hS1 (by omega)) (by assumption) rfl rfl (by decide) (Nat.le_of_ble_eq_true rfl) (Nat.zero_le _) (Nat.zero_le _) ?_
        have e1 : ∀ q, sstd R S k = some q → q < 2147483648 := fun q hq => by have := sstd_lt hR hS (by omega) hq; omega
        have e2 : ∀ q, sstd R S1 k = some q → q < 2147483648 := fun q hq => by have := sstd_lt hR hS1 (by omega) hq; omega
        have e3 := zo_inj e1 e2
        refine z_icmp_eq (pc := 27) C 36 dX5_killsElsewhereThan_27 (by decide) (fun hc27 => ?_) (fun hc27 => ?_)
        · skip
          have e5 : (fun k => decide (sstd R S k ≠ sstd R S1 k)) k = false := decide_eq_false (fun z => z (e3 hc27))
          first | refine z_iincN (pc := 36) (lv' := [(3, _), (0, _), (1, _), (2, _)]) C 1 dX5_killsElsewhereThan_36 3 rfl (by decide) (by decide) rfl ?_ | refine z_iinc (pc := 36) (lv' := [(3, _), (0, _), (1, _), (2, _)]) C dX5_killsElsewhereThan_36 3 rfl _ rfl (by decide) rfl ?_
          refine z_goto (pc := 39) C 4 dX5_killsElsewhereThan_39 (by decide) ?_
          refine z_sub (lv' := [(0, _), (1, _), (2, _), (3, _)]) [1, 2, 3, 0] rfl ?_
          exact ih (f - 1) (by omega) (k + 1) _ ⟨by omega, by first | exact sbits_t he e5 | (rw [← sbits_f he e5, Nat.or_zero])⟩
        · skip
          have e5 : (fun k => decide (sstd R S k ≠ sstd R S1 k)) k = true := decide_eq_true (fun z => hc27 (by rw [z]))
          refine z_iload_n (pc := 30) C dX5_killsElsewhereThan_30 2 rfl ?_
          refine z_iconst (pc := 31) C dX5_killsElsewhereThan_31 (nI 1) (by decide) ?_
          refine z_iload_n (pc := 32) C dX5_killsElsewhereThan_32 3 rfl ?_
          first | refine z_ishlN (pc := 33) C dX5_killsElsewhereThan_33 (by omega) ?_ | refine z_ishl (pc := 33) C dX5_killsElsewhereThan_33 ?_
          first | refine z_iorN (pc := 34) C dX5_killsElsewhereThan_34 ?_ | refine z_ior (pc := 34) C dX5_killsElsewhereThan_34 ?_
          refine z_istore_n (pc := 35) (lv' := [(2, _), (0, _), (1, _), (3, _)]) C dX5_killsElsewhereThan_35 (by decide) rfl ?_
          first | refine z_iincN (pc := 36) (lv' := [(3, _), (2, _), (0, _), (1, _)]) C 1 dX5_killsElsewhereThan_36 3 rfl (by decide) (by decide) rfl ?_ | refine z_iinc (pc := 36) (lv' := [(3, _), (2, _), (0, _), (1, _)]) C dX5_killsElsewhereThan_36 3 rfl _ rfl (by decide) rfl ?_
          refine z_goto (pc := 39) C 4 dX5_killsElsewhereThan_39 (by decide) ?_
          refine z_sub (lv' := [(0, _), (1, _), (2, _), (3, _)]) [2, 3, 1, 0] rfl ?_
          exact ih (f - 1) (by omega) (k + 1) _ ⟨by omega, by first | exact sbits_t he e5 | (rw [← sbits_f he e5, Nat.or_zero])⟩
  exact lp4 (R 4) 0 0 ⟨by omega, rfl⟩

set_option maxRecDepth 20000 in
set_option maxHeartbeats 1000000 in
theorem tX11_stepN {h : ZH} {st : Nat} {ic tb fa pl : Int32} {t : Nat} {R S : Nat → Nat} {m p : Int32} (hK : h 1000 = some (zO 7 (kfs st ic tb fa pl))) (hC : Scn h 1051 1052 1053 t R S) (hR : wfR R) (hS : wfS R S) (hn : aStOk R S m p = false) : ZD mX11_step 5 [.ref 1000, .int m, .int p] h (some (.int (aStep R S m p).1)) (zup h 1000 (zO 7 (kfs st ic (aStep R S m p).2 fa pl))) := by
  intro n
  obtain ⟨w1, w3, w4, w5, w0, wP, wM, wK, wX⟩ := id hR
  obtain ⟨wT, wL, wB⟩ := id hS
  obtain ⟨hT, fl, ft, s0, s1, s2, rl, rt⟩ := id hC
  obtain ⟨fc, fh, fn, fk, fs, ff, fw, fe, t0, t1, t2, t3, t4, t5, t6, t7, t8, rc, rh, rn, rk, rs, rf, rv, re⟩ := id hT
  refine z_enter (lv := [(0, _), (1, _), (2, _)]) (by decide) (Nat.le_of_ble_eq_true rfl) rfl (fun X C => ?_)
  refine z_aload_n (pc := 0) C dX11_step_0 0 rfl ?_
  refine z_iload_n (pc := 1) C dX11_step_1 1 rfl ?_
  refine z_cV1 (pc := 2) mX11_isMan C [_] dX11_step_2 lX11_140 mtX11_isMan (tX11_isMan (by first | assumption | omega) (by first | assumption | omega) (by first | assumption | omega)) (by assumption) rfl rfl (by decide) (Nat.le_of_ble_eq_true rfl) (Nat.zero_le _) (Nat.zero_le _) ?_
  first | refine z_ifeqB (pc := 5) C 16 dX11_step_5 (by decide) (fun hc5 => ?_) (fun hc5 => ?_) | refine z_ifeqN (pc := 5) C 16 dX11_step_5 (by decide) (by omega) (fun hc5 => ?_) (fun hc5 => ?_) | refine z_if_eq (pc := 5) C 16 dX11_step_5 (by decide) (fun hc5 => ?_) (fun hc5 => ?_)
  · skip
    refine z_aload_n (pc := 16) C dX11_step_16 0 rfl ?_
    refine z_iconst (pc := 17) C dX11_step_17 (nI 1) (by decide) ?_
    refine z_cV1 (pc := 18) mX11_refuse C [_] dX11_step_18 lX11_70 mtX11_refuse (tX11_refuse (by first | assumption | omega)) (by assumption) rfl rfl (by decide) (Nat.le_of_ble_eq_true rfl) (Nat.zero_le _) (Nat.zero_le _) ?_
    refine z_iret (pc := 21) C dX11_step_21 rfl (Nat.zero_le _) (Nat.zero_le _) ⟨?_, ?_, rfl⟩
    · simp [aStep, sMay, *]
    · simp [aStep, sMay, *] <;> rfl
  · skip
    refine z_aload_n (pc := 8) C dX11_step_8 0 rfl ?_
    refine z_iload_n (pc := 9) C dX11_step_9 2 rfl ?_
    refine z_cV1 (pc := 10) mX11_isPlace C [_] dX11_step_10 lX11_114 mtX11_isPlace (tX11_isPlace (by first | assumption | omega) (by first | assumption | omega) (by first | assumption | omega)) (by assumption) rfl rfl (by decide) (Nat.le_of_ble_eq_true rfl) (Nat.zero_le _) (Nat.zero_le _) ?_
    first | refine z_ifneB (pc := 13) C 22 dX11_step_13 (by decide) (fun hc13 => ?_) (fun hc13 => ?_) | refine z_ifneN (pc := 13) C 22 dX11_step_13 (by decide) (by omega) (fun hc13 => ?_) (fun hc13 => ?_) | refine z_if_ne (pc := 13) C 22 dX11_step_13 (by decide) (fun hc13 => ?_) (fun hc13 => ?_)
    · skip
      obtain ⟨j, hj, rfl⟩ := zlt_of (by omega) hc5
      have pj := pn_nI (j := j) (by omega)
      obtain ⟨i, hi, rfl⟩ := zlt_of (by omega) hc13
      have pi := pn_nI (j := i) (by omega)
      refine z_aload_n (pc := 22) C dX11_step_22 0 rfl ?_
      refine z_getf (pc := 23) C dX11_step_23 fX11_53 (by assumption) (by first | rfl | assumption) ?_
      refine z_iload_n (pc := 26) C dX11_step_26 1 rfl ?_
      refine z_iload_n (pc := 27) C dX11_step_27 2 rfl ?_
      refine z_cV1 (pc := 28) mX5_mayGo C [_, _] dX11_step_28 lX11_351 mtX5_mayGo (tX5_mayGo hC hR hS hj hi) (by assumption) rfl rfl (by decide) (Nat.le_of_ble_eq_true rfl) (Nat.zero_le _) (Nat.zero_le _) ?_
      first | refine z_ifneB (pc := 31) C 40 dX11_step_31 (by decide) (fun hc31 => ?_) (fun hc31 => ?_) | refine z_ifneN (pc := 31) C 40 dX11_step_31 (by decide) (by omega) (fun hc31 => ?_) (fun hc31 => ?_) | refine z_if_ne (pc := 31) C 40 dX11_step_31 (by decide) (fun hc31 => ?_) (fun hc31 => ?_)
      · exact absurd hn (by simp [aStOk, sMay, *])
      · skip
        refine z_aload_n (pc := 34) C dX11_step_34 0 rfl ?_
        refine z_iconst (pc := 35) C dX11_step_35 (nI 5) (by decide) ?_
        refine z_cV1 (pc := 36) mX11_refuse C [_] dX11_step_36 lX11_70 mtX11_refuse (tX11_refuse (by first | assumption | omega)) (by assumption) rfl rfl (by decide) (Nat.le_of_ble_eq_true rfl) (Nat.zero_le _) (Nat.zero_le _) ?_
        refine z_iret (pc := 39) C dX11_step_39 rfl (Nat.zero_le _) (Nat.zero_le _) ⟨?_, ?_, rfl⟩
        · simp [aStep, sMay, *]
        · simp [aStep, sMay, *] <;> rfl
    · skip
      refine z_aload_n (pc := 16) C dX11_step_16 0 rfl ?_
      refine z_iconst (pc := 17) C dX11_step_17 (nI 1) (by decide) ?_
      refine z_cV1 (pc := 18) mX11_refuse C [_] dX11_step_18 lX11_70 mtX11_refuse (tX11_refuse (by first | assumption | omega)) (by assumption) rfl rfl (by decide) (Nat.le_of_ble_eq_true rfl) (Nat.zero_le _) (Nat.zero_le _) ?_
      refine z_iret (pc := 21) C dX11_step_21 rfl (Nat.zero_le _) (Nat.zero_le _) ⟨?_, ?_, rfl⟩
      · simp [aStep, sMay, *]
      · simp [aStep, sMay, *] <;> rfl

set_option maxRecDepth 20000 in
set_option maxHeartbeats 1000000 in
theorem tX11_takeN {h : ZH} {st : Nat} {ic tb fa pl : Int32} {t : Nat} {R S : Nat → Nat} {k m : Int32} (hK : h 1000 = some (zO 7 (kfs st ic tb fa pl))) (hC : Scn h 1051 1052 1053 t R S) (hR : wfR R) (hS : wfS R S) (hn : aTkOk R S k m = false) : ZD mX11_take 5 [.ref 1000, .int k, .int m] h (some (.int (aTake R S k m).1)) (zup h 1000 (zO 7 (kfs st ic (aTake R S k m).2 fa pl))) := by
  intro n
  obtain ⟨w1, w3, w4, w5, w0, wP, wM, wK, wX⟩ := id hR
  obtain ⟨wT, wL, wB⟩ := id hS
  obtain ⟨hT, fl, ft, s0, s1, s2, rl, rt⟩ := id hC
  obtain ⟨fc, fh, fn, fk, fs, ff, fw, fe, t0, t1, t2, t3, t4, t5, t6, t7, t8, rc, rh, rn, rk, rs, rf, rv, re⟩ := id hT
  refine z_enter (lv := [(0, _), (1, _), (2, _)]) (by decide) (Nat.le_of_ble_eq_true rfl) rfl (fun X C => ?_)
  refine z_aload_n (pc := 0) C dX11_take_0 0 rfl ?_
  refine z_iload_n (pc := 1) C dX11_take_1 1 rfl ?_
  refine z_cV1 (pc := 2) mX11_isKill C [_] dX11_take_2 lX11_158 mtX11_isKill (tX11_isKill (by first | assumption | omega) (by first | assumption | omega) (by first | assumption | omega)) (by assumption) rfl rfl (by decide) (Nat.le_of_ble_eq_true rfl) (Nat.zero_le _) (Nat.zero_le _) ?_
  first | refine z_ifeqB (pc := 5) C 16 dX11_take_5 (by decide) (fun hc5 => ?_) (fun hc5 => ?_) | refine z_ifeqN (pc := 5) C 16 dX11_take_5 (by decide) (by omega) (fun hc5 => ?_) (fun hc5 => ?_) | refine z_if_eq (pc := 5) C 16 dX11_take_5 (by decide) (fun hc5 => ?_) (fun hc5 => ?_)
  · skip
    refine z_aload_n (pc := 16) C dX11_take_16 0 rfl ?_
    refine z_iconst (pc := 17) C dX11_take_17 (nI 1) (by decide) ?_
    refine z_cV1 (pc := 18) mX11_refuse C [_] dX11_take_18 lX11_70 mtX11_refuse (tX11_refuse (by first | assumption | omega)) (by assumption) rfl rfl (by decide) (Nat.le_of_ble_eq_true rfl) (Nat.zero_le _) (Nat.zero_le _) ?_
    refine z_iret (pc := 21) C dX11_take_21 rfl (Nat.zero_le _) (Nat.zero_le _) ⟨?_, ?_, rfl⟩
    · simp [aTake, *]
    · simp [aTake, *] <;> rfl
  · skip
    refine z_aload_n (pc := 8) C dX11_take_8 0 rfl ?_
    refine z_iload_n (pc := 9) C dX11_take_9 2 rfl ?_
    refine z_cV1 (pc := 10) mX11_isMan C [_] dX11_take_10 lX11_140 mtX11_isMan (tX11_isMan (by first | assumption | omega) (by first | assumption | omega) (by first | assumption | omega)) (by assumption) rfl rfl (by decide) (Nat.le_of_ble_eq_true rfl) (Nat.zero_le _) (Nat.zero_le _) ?_
    first | refine z_ifneB (pc := 13) C 22 dX11_take_13 (by decide) (fun hc13 => ?_) (fun hc13 => ?_) | refine z_ifneN (pc := 13) C 22 dX11_take_13 (by decide) (by omega) (fun hc13 => ?_) (fun hc13 => ?_) | refine z_if_ne (pc := 13) C 22 dX11_take_13 (by decide) (fun hc13 => ?_) (fun hc13 => ?_)
    · skip
      obtain ⟨j, hj, rfl⟩ := zlt_of (by omega) hc5
      have pj := pn_nI (j := j) (by omega)
      obtain ⟨i, hi, rfl⟩ := zlt_of (by omega) hc13
      have pi := pn_nI (j := i) (by omega)
      have e1 := wL j hj
      refine z_aload_n (pc := 22) C dX11_take_22 0 rfl ?_
      refine z_getf (pc := 23) C dX11_take_23 fX11_53 (by assumption) (by first | rfl | assumption) ?_
      refine z_getf (pc := 26) C dX11_take_26 fX11_164 (by assumption) (by first | rfl | assumption) ?_
      refine z_iload_n (pc := 29) C dX11_take_29 1 rfl ?_
      refine z_ialdE (pc := 30) C dX11_take_30 (by assumption) (by omega) (by decide) (rl j hj) ?_
      refine z_iload_n (pc := 31) C dX11_take_31 2 rfl ?_
      first | refine z_icmpneN (pc := 32) C 41 dX11_take_32 (by decide) (by omega) (by omega) (fun hc32 => ?_) (fun hc32 => ?_) | refine z_icmp_ne (pc := 32) C 41 dX11_take_32 (by decide) (fun hc32 => ?_) (fun hc32 => ?_)
      · exact absurd hn (by simp [aTkOk, *])
      · skip
        refine z_aload_n (pc := 35) C dX11_take_35 0 rfl ?_
        refine z_iconst (pc := 36) C dX11_take_36 (nI 5) (by decide) ?_
        refine z_cV1 (pc := 37) mX11_refuse C [_] dX11_take_37 lX11_70 mtX11_refuse (tX11_refuse (by first | assumption | omega)) (by assumption) rfl rfl (by decide) (Nat.le_of_ble_eq_true rfl) (Nat.zero_le _) (Nat.zero_le _) ?_
        refine z_iret (pc := 40) C dX11_take_40 rfl (Nat.zero_le _) (Nat.zero_le _) ⟨?_, ?_, rfl⟩
        · simp [aTake, *]
        · simp [aTake, *] <;> rfl
    · skip
      refine z_aload_n (pc := 16) C dX11_take_16 0 rfl ?_
      refine z_iconst (pc := 17) C dX11_take_17 (nI 1) (by decide) ?_
      refine z_cV1 (pc := 18) mX11_refuse C [_] dX11_take_18 lX11_70 mtX11_refuse (tX11_refuse (by first | assumption | omega)) (by assumption) rfl rfl (by decide) (Nat.le_of_ble_eq_true rfl) (Nat.zero_le _) (Nat.zero_le _) ?_
      refine z_iret (pc := 21) C dX11_take_21 rfl (Nat.zero_le _) (Nat.zero_le _) ⟨?_, ?_, rfl⟩
      · simp [aTake, *]
      · simp [aTake, *] <;> rfl

set_option maxRecDepth 20000 in
set_option maxHeartbeats 1000000 in
theorem tX11_lightN {h : ZH} {st : Nat} {ic tb fa pl : Int32} {t : Nat} {R S : Nat → Nat} {p : Int32} {b : Bool} (hK : h 1000 = some (zO 7 (kfs st ic tb fa pl))) (hC : Scn h 1051 1052 1053 t R S) (hR : wfR R) (hS : wfS R S) (hn : aLiOk R S p b = false) : ZD mX11_light 5 [.ref 1000, .int p, .int (zb b)] h (some (.int (zb (aLight R S p b).1))) (zup h 1000 (zO 7 (kfs st ic (aLight R S p b).2 fa pl))) := by
  intro n
  obtain ⟨w1, w3, w4, w5, w0, wP, wM, wK, wX⟩ := id hR
  obtain ⟨wT, wL, wB⟩ := id hS
  obtain ⟨hT, fl, ft, s0, s1, s2, rl, rt⟩ := id hC
  obtain ⟨fc, fh, fn, fk, fs, ff, fw, fe, t0, t1, t2, t3, t4, t5, t6, t7, t8, rc, rh, rn, rk, rs, rf, rv, re⟩ := id hT
  refine z_enter (lv := [(0, _), (1, _), (2, _)]) (by decide) (Nat.le_of_ble_eq_true rfl) rfl (fun X C => ?_)
  refine z_aload_n (pc := 0) C dX11_light_0 0 rfl ?_
  refine z_iload_n (pc := 1) C dX11_light_1 1 rfl ?_
  refine z_cV1 (pc := 2) mX11_isPlace C [_] dX11_light_2 lX11_114 mtX11_isPlace (tX11_isPlace (by first | assumption | omega) (by first | assumption | omega) (by first | assumption | omega)) (by assumption) rfl rfl (by decide) (Nat.le_of_ble_eq_true rfl) (Nat.zero_le _) (Nat.zero_le _) ?_
  first | refine z_ifneB (pc := 5) C 14 dX11_light_5 (by decide) (fun hc5 => ?_) (fun hc5 => ?_) | refine z_ifneN (pc := 5) C 14 dX11_light_5 (by decide) (by omega) (fun hc5 => ?_) (fun hc5 => ?_) | refine z_if_ne (pc := 5) C 14 dX11_light_5 (by decide) (fun hc5 => ?_) (fun hc5 => ?_)
  · skip
    obtain ⟨j, hj, rfl⟩ := zlt_of (by omega) hc5
    have pj := pn_nI (j := j) (by omega)
    refine z_aload_n (pc := 14) C dX11_light_14 0 rfl ?_
    refine z_getf (pc := 15) C dX11_light_15 fX11_53 (by assumption) (by first | rfl | assumption) ?_
    refine z_iload_n (pc := 18) C dX11_light_18 1 rfl ?_
    refine z_cV1 (pc := 19) mX5_isLit C [_] dX11_light_19 lX11_117 mtX5_isLit (tX5_isLit (by first | assumption | omega) (by first | assumption | omega) (by first | assumption | omega)) (by assumption) rfl rfl (by decide) (Nat.le_of_ble_eq_true rfl) (Nat.zero_le _) (Nat.zero_le _) ?_
    refine z_iload_n (pc := 22) C dX11_light_22 2 rfl ?_
    refine z_icmp_ne (pc := 23) C 32 dX11_light_23 (by decide) (fun hc23 => ?_) (fun hc23 => ?_)
    · exact absurd hn (by simp [aLiOk, *]; exact fun z => hc23 (by rw [z]))
    · skip
      have e5 := zb_inj hc23
      refine z_aload_n (pc := 26) C dX11_light_26 0 rfl ?_
      refine z_iconst (pc := 27) C dX11_light_27 (nI 5) (by decide) ?_
      refine z_cV1 (pc := 28) mX11_settle C [_] dX11_light_28 lX11_367 mtX11_settle (tX11_settle (a := 5) hK (by decide)) (by assumption) rfl rfl (by decide) (Nat.le_of_ble_eq_true rfl) (Nat.zero_le _) (Nat.zero_le _) ?_
      refine z_zret (pc := 31) C dX11_light_31 rfl (by first | exact zb_nar _ | rfl) (Nat.zero_le _) (Nat.zero_le _) ⟨?_, ?_, rfl⟩
      · simp [aLight, *]
      · simp [aLight, *] <;> rfl
  · skip
    refine z_aload_n (pc := 8) C dX11_light_8 0 rfl ?_
    refine z_iconst (pc := 9) C dX11_light_9 (nI 1) (by decide) ?_
    refine z_cV1 (pc := 10) mX11_settle C [_] dX11_light_10 lX11_367 mtX11_settle (tX11_settle (a := 1) hK (by decide)) (by assumption) rfl rfl (by decide) (Nat.le_of_ble_eq_true rfl) (Nat.zero_le _) (Nat.zero_le _) ?_
    refine z_zret (pc := 13) C dX11_light_13 rfl (by first | exact zb_nar _ | rfl) (Nat.zero_le _) (Nat.zero_le _) ⟨?_, ?_, rfl⟩
    · simp [aLight, *]
    · simp [aLight, *] <;> rfl

set_option maxRecDepth 20000 in
set_option maxHeartbeats 1000000 in
theorem tX11_stepY {h : ZH} {st : Nat} {ic tb fa pl : Int32} {t : Nat} {R S : Nat → Nat} {hA : ZH} {x1 x2 la0 sp0 : Int32} {t0 : Nat} {m p un la : Nat} {f1 f2 f3 fl ft : Nat → Nat} (hK : h 1000 = some (zO 7 (kfs st ic tb fa pl))) (hT : Tld h t R) (s0 : h 1051 = some (zO 3 [.ref t, .ref 1052, .int (nI (S 38)), .int (nI (S 39)), .ref 1053])) (s1 : h 1052 = some (zI 6 fl)) (s2 : h 1053 = some (zI 32 ft)) (rl : ∀ k, k < R 4 → fl k = S (32 + k)) (rt : ∀ j, j < 8 * R 3 → ft j = S j) (hR : wfR R) (hS : wfS R S) (q0 : h 1019 = some (zO 6 [.ref 1020, .int x1, .int x2])) (q1 : h 1020 = some (zO 3 [.ref t0, .ref 1030, .int la0, .int sp0, .ref 1031])) (Z1 : ZD mX5_become 1 [.ref 1020, .ref 1051] h none hA) (C1 : Scn hA 1020 1030 1031 t R S) (FA : ∀ a, a ≠ 1020 → a ≠ 1030 → a ≠ 1031 → hA a = h a) (hP : Pst h un la f1 f2 f3) (hu : un ≤ 16) (hl : la < 16) (hq : t = 1008 ∨ t = 1039) (hm : m < R 3) (hp : p < R 1) (hy : sMay R S m p = true) : ZD mX11_step 5 [.ref 1000, .int (nI m), .int (nI p)] h (some (.int (nI (sElse R (sst S m p) S)))) (zup (zup (zup (pkH hA (min (un + 1) 16) ((la + 1) % 16) (nup f1 ((la + 1) % 16) 0) (nup f2 ((la + 1) % 16) m) (nup f3 ((la + 1) % 16) (S (8 * m + 7)))) 1053 (zI 32 (sgo ft m p))) 1051 (zO 3 [.ref t, .ref 1052, .int (nI (S 38)), .int (nI (S 39 + 1)), .ref 1053])) 1000 (zO 7 (kfs st ic 0 fa pl))) := by
  intro n
  obtain ⟨w1, w3, w4, w5, w0, wP, wM, wK, wX⟩ := id hR
  obtain ⟨wT, wL, wB⟩ := id hS
  obtain ⟨p0, p1, p2, p3⟩ := id hP
  have hC : Scn h 1051 1052 1053 t R S := ⟨hT, fl, ft, s0, s1, s2, rl, rt⟩
  have hKA : hA 1000 = _ := (FA 1000 (by decide) (by decide) (by decide)).trans hK
  have sA : hA 1051 = _ := (FA 1051 (by decide) (by decide) (by decide)).trans s0
  have s2A : hA 1053 = _ := (FA 1053 (by decide) (by decide) (by decide)).trans s2
  have s1A : hA 1052 = _ := (FA 1052 (by decide) (by decide) (by decide)).trans s1
  have q0A : hA 1019 = _ := (FA 1019 (by decide) (by decide) (by decide)).trans q0
  have CA : Scn hA 1051 1052 1053 t R S := hC.fr (FA _ (by decide) (by decide) (by decide)) (FA _ (by decide) (by decide) (by decide)) (FA _ (by decide) (by decide) (by decide)) (fun a _ _ => FA a (by omega) (by omega) (by omega))
  have PA : Pst hA un la f1 f2 f3 := ⟨(FA _ (by decide) (by decide) (by decide)).trans p0, (FA _ (by decide) (by decide) (by decide)).trans p1, (FA _ (by decide) (by decide) (by decide)).trans p2, (FA _ (by decide) (by decide) (by decide)).trans p3⟩
  generalize hg1 : (pkH hA (min (un + 1) 16) ((la + 1) % 16) (nup f1 ((la + 1) % 16) 0) (nup f2 ((la + 1) % 16) m) (nup f3 ((la + 1) % 16) (S (8 * m + 7)))) = hB
  have FB : ∀ a, a < 1034 ∨ 1037 < a → hB a = hA a := fun a ha => by rw [← hg1]; exact pkH_ne _ _ _ _ _ _ ha
  have KB : hB 1000 = _ := (FB 1000 (by omega)).trans hKA
  have sB : hB 1051 = _ := (FB 1051 (by omega)).trans sA
  have s2B : hB 1053 = _ := (FB 1053 (by omega)).trans s2A
  have hKC : zup hB 1053 (zI 32 (sgo ft m p)) 1000 = _ := (zup_ne (by decide)).trans KB
  have sC : zup hB 1053 (zI 32 (sgo ft m p)) 1051 = _ := (zup_ne (by decide)).trans sB
  have hKD : zup (zup hB 1053 (zI 32 (sgo ft m p))) 1051 (zO 3 [.ref t, .ref 1052, .int (nI (S 38)), .int (nI (S 39 + 1)), .ref 1053]) 1000 = _ := (zup_ne (by decide)).trans hKC
  have qD : zup (zup hB 1053 (zI 32 (sgo ft m p))) 1051 (zO 3 [.ref t, .ref 1052, .int (nI (S 38)), .int (nI (S 39 + 1)), .ref 1053]) 1019 = _ := (zup_ne (by decide)).trans ((zup_ne (by decide)).trans ((FB 1019 (by omega)).trans q0A))
  have CD : Scn (zup (zup hB 1053 (zI 32 (sgo ft m p))) 1051 (zO 3 [.ref t, .ref 1052, .int (nI (S 38)), .int (nI (S 39 + 1)), .ref 1053])) 1051 1052 1053 t R (sst S m p) := by
    refine ⟨CA.1.fr (fun a h1 h2 => by rw [zup_ne (by omega), zup_ne (by omega)]; exact FB a (by omega)), fl, sgo ft m p, ?_, ?_, ?_, ?_, ?_⟩
    · rw [zup_same, show sst S m p 39 = S 39 + 1 from nup_same _ _ _, sst_lt (by omega), sgo_k (by omega) (by omega)]
    · rw [zup_ne (by decide), zup_ne (by decide)]; exact (FB 1052 (by omega)).trans s1A
    · rw [zup_ne (by decide)]; exact zup_same _ _ _
    · intro k hk; rw [sst_lt (by omega), sgo_k (by omega) (by omega)]; exact rl k hk
    · intro j hj; rw [sst_lt (by omega)]; exact sgo_congr hm rt j hj
  have CT : Scn (zup (zup hB 1053 (zI 32 (sgo ft m p))) 1051 (zO 3 [.ref t, .ref 1052, .int (nI (S 38)), .int (nI (S 39 + 1)), .ref 1053])) 1020 1030 1031 t R S := C1.fr (by rw [zup_ne (by decide), zup_ne (by decide)]; exact FB _ (by omega)) (by rw [zup_ne (by decide), zup_ne (by decide)]; exact FB _ (by omega)) (by rw [zup_ne (by decide), zup_ne (by decide)]; exact FB _ (by omega)) (fun a h1 h2 => by rw [zup_ne (by omega), zup_ne (by omega)]; exact FB a (by omega))
  have W1 := wfS_st hR hS hm hp
  refine z_enter (lv := [(0, _), (1, _), (2, _)]) (by decide) (Nat.le_of_ble_eq_true rfl) rfl (fun X C => ?_)
  refine z_aload_n (pc := 0) C dX11_step_0 0 rfl ?_
  refine z_iload_n (pc := 1) C dX11_step_1 1 rfl ?_
  refine z_cV1 (pc := 2) mX11_isMan C [_] dX11_step_2 lX11_140 mtX11_isMan (tX11_isMan (by first | assumption | omega) (by first | assumption | omega) (by first | assumption | omega)) (by assumption) rfl rfl (by decide) (Nat.le_of_ble_eq_true rfl) (Nat.zero_le _) (Nat.zero_le _) ?_
  first | refine z_ifeqB (pc := 5) C 16 dX11_step_5 (by decide) (fun hc5 => ?_) (fun hc5 => ?_) | refine z_ifeqN (pc := 5) C 16 dX11_step_5 (by decide) (by omega) (fun hc5 => ?_) (fun hc5 => ?_) | refine z_if_eq (pc := 5) C 16 dX11_step_5 (by decide) (fun hc5 => ?_) (fun hc5 => ?_)
  · rw [zlt_nI (by omega), decide_eq_true hm] at hc5; cases hc5
  · skip
    refine z_aload_n (pc := 8) C dX11_step_8 0 rfl ?_
    refine z_iload_n (pc := 9) C dX11_step_9 2 rfl ?_
    refine z_cV1 (pc := 10) mX11_isPlace C [_] dX11_step_10 lX11_114 mtX11_isPlace (tX11_isPlace (by first | assumption | omega) (by first | assumption | omega) (by first | assumption | omega)) (by assumption) rfl rfl (by decide) (Nat.le_of_ble_eq_true rfl) (Nat.zero_le _) (Nat.zero_le _) ?_
    first | refine z_ifneB (pc := 13) C 22 dX11_step_13 (by decide) (fun hc13 => ?_) (fun hc13 => ?_) | refine z_ifneN (pc := 13) C 22 dX11_step_13 (by decide) (by omega) (fun hc13 => ?_) (fun hc13 => ?_) | refine z_if_ne (pc := 13) C 22 dX11_step_13 (by decide) (fun hc13 => ?_) (fun hc13 => ?_)
    · skip
      refine z_aload_n (pc := 22) C dX11_step_22 0 rfl ?_
      refine z_getf (pc := 23) C dX11_step_23 fX11_53 (by assumption) (by first | rfl | assumption) ?_
      refine z_iload_n (pc := 26) C dX11_step_26 1 rfl ?_
      refine z_iload_n (pc := 27) C dX11_step_27 2 rfl ?_
      refine z_cV1 (pc := 28) mX5_mayGo C [_, _] dX11_step_28 lX11_351 mtX5_mayGo (tX5_mayGo hC hR hS hm hp) (by assumption) rfl rfl (by decide) (Nat.le_of_ble_eq_true rfl) (Nat.zero_le _) (Nat.zero_le _) ?_
      first | refine z_ifneB (pc := 31) C 40 dX11_step_31 (by decide) (fun hc31 => ?_) (fun hc31 => ?_) | refine z_ifneN (pc := 31) C 40 dX11_step_31 (by decide) (by omega) (fun hc31 => ?_) (fun hc31 => ?_) | refine z_if_ne (pc := 31) C 40 dX11_step_31 (by decide) (fun hc31 => ?_) (fun hc31 => ?_)
      · skip
        refine z_aload_n (pc := 40) C dX11_step_40 0 rfl ?_
        refine z_getf (pc := 41) C dX11_step_41 fX11_19 (by assumption) (by first | rfl | assumption) ?_
        refine z_aload_n (pc := 44) C dX11_step_44 0 rfl ?_
        refine z_getf (pc := 45) C dX11_step_45 fX11_53 (by assumption) (by first | rfl | assumption) ?_
        refine z_cV0 (pc := 48) mX9_begin C [_] dX11_step_48 lX11_232 mtX9_begin (tX9_begin q0 q1 Z1) (by assumption) rfl rfl (by decide) (Nat.le_of_ble_eq_true rfl) (Nat.zero_le _) (Nat.zero_le _) ?_
        refine z_aload_n (pc := 51) C dX11_step_51 0 rfl ?_
        refine z_getf (pc := 52) C dX11_step_52 fX11_33 (by assumption) (by first | rfl | assumption) ?_
        refine z_iconst (pc := 55) C dX11_step_55 (nI 0) (by decide) ?_
        refine z_iload_n (pc := 56) C dX11_step_56 1 rfl ?_
        refine z_aload_n (pc := 57) C dX11_step_57 0 rfl ?_
        refine z_getf (pc := 58) C dX11_step_58 fX11_53 (by assumption) (by first | rfl | assumption) ?_
        refine z_iload_n (pc := 61) C dX11_step_61 1 rfl ?_
        refine z_bipush (pc := 62) C dX11_step_62 (nI 7) (by decide) ?_
        refine z_cV1 (pc := 64) mX5_wasAt C [_, _] dX11_step_64 lX11_180 mtX5_wasAt (tX5_wasAt CA hR hm (by decide)) (by assumption) rfl rfl (by decide) (Nat.le_of_ble_eq_true rfl) (Nat.zero_le _) (Nat.zero_le _) ?_
        refine z_cV0 (pc := 67) mX3_keep C [_, _, _] dX11_step_67 lX11_354 mtX3_keep (hg1 ▸ tX3_keep PA hu hl) PA.1 rfl rfl (by decide) (Nat.le_of_ble_eq_true rfl) (Nat.zero_le _) (Nat.zero_le _) ?_
        refine z_aload_n (pc := 70) C dX11_step_70 0 rfl ?_
        refine z_getf (pc := 71) C dX11_step_71 fX11_53 (by assumption) (by first | rfl | assumption) ?_
        refine z_iload_n (pc := 74) C dX11_step_74 1 rfl ?_
        refine z_iload_n (pc := 75) C dX11_step_75 2 rfl ?_
        refine z_cV0 (pc := 76) mX5_go C [_, _] dX11_step_76 lX11_358 mtX5_go (tX5_go sB s2B (by omega)) sB rfl rfl (by decide) (Nat.le_of_ble_eq_true rfl) (Nat.zero_le _) (Nat.zero_le _) ?_
        refine z_aload_n (pc := 79) C dX11_step_79 0 rfl ?_
        refine z_getf (pc := 80) C dX11_step_80 fX11_53 (by assumption) (by first | rfl | assumption) ?_
        refine z_dup (pc := 83) C dX11_step_83 rfl ?_
        refine z_getf (pc := 84) C dX11_step_84 fX11_361 (by assumption) (by first | rfl | assumption) ?_
        refine z_iconst (pc := 87) C dX11_step_87 (nI 1) (by decide) ?_
        first | refine z_iaddN (pc := 88) C dX11_step_88 ?_ | refine z_iadd (pc := 88) C dX11_step_88 ?_
        refine z_putf (pc := 89) (fs' := [_, _, _, _, _]) C dX11_step_89 gX11_361 (by assumption) (fun _ => ⟨rfl, rfl⟩) (by exact Nat.le_of_ble_eq_true rfl) (by rfl) ?_
        refine z_aload_n (pc := 92) C dX11_step_92 0 rfl ?_
        refine z_aload_n (pc := 93) C dX11_step_93 0 rfl ?_
        refine z_getf (pc := 94) C dX11_step_94 fX11_53 (by assumption) (by first | rfl | assumption) ?_
        refine z_aload_n (pc := 97) C dX11_step_97 0 rfl ?_
        refine z_getf (pc := 98) C dX11_step_98 fX11_19 (by assumption) (by first | rfl | assumption) ?_
        refine z_getf (pc := 101) C dX11_step_101 fX11_239 (by assumption) (by first | rfl | assumption) ?_
        refine z_cV1 (pc := 104) mX5_killsElsewhereThan C [_] dX11_step_104 lX11_364 mtX5_killsElsewhereThan (tX5_killsElsewhereThan CD hR W1 CT hS) (CD.2.elim fun _ z => z.elim fun _ z => z.1) rfl rfl (by decide) (Nat.le_of_ble_eq_true rfl) (Nat.zero_le _) (Nat.zero_le _) ?_
        refine z_cV1 (pc := 107) mX11_answer C [_] dX11_step_107 lX11_108 mtX11_answer (tX11_answer hKD) (by assumption) rfl rfl (by decide) (Nat.le_of_ble_eq_true rfl) (Nat.zero_le _) (Nat.zero_le _) ?_
        refine z_iret (pc := 110) C dX11_step_110 rfl (Nat.zero_le _) (Nat.zero_le _) ⟨?_, ?_, rfl⟩
        · first | rfl | simp_all
        · rfl
      · exact absurd (hc31.symm.trans hy) (by decide)
    · rw [zlt_nI (by omega), decide_eq_true hp] at hc13; cases hc13

set_option maxRecDepth 20000 in
set_option maxHeartbeats 1000000 in
theorem tX11_takeY {h : ZH} {st : Nat} {ic tb fa pl : Int32} {t : Nat} {R S : Nat → Nat} {k m : Nat} {un la : Nat} {f1 f2 f3 fl ft : Nat → Nat} (hK : h 1000 = some (zO 7 (kfs st ic tb fa pl))) (hT : Tld h t R) (s0 : h 1051 = some (zO 3 [.ref t, .ref 1052, .int (nI (S 38)), .int (nI (S 39)), .ref 1053])) (s1 : h 1052 = some (zI 6 fl)) (s2 : h 1053 = some (zI 32 ft)) (rl : ∀ k, k < R 4 → fl k = S (32 + k)) (rt : ∀ j, j < 8 * R 3 → ft j = S j) (hR : wfR R) (hS : wfS R S) (hP : Pst h un la f1 f2 f3) (hu : un ≤ 16) (hl : la < 16) (hq : t = 1008 ∨ t = 1039) (hk : k < R 4) (hm : m < R 3) (hy : S (32 + k) ≠ m) : ZD mX11_take 5 [.ref 1000, .int (nI k), .int (nI m)] h (some (.int (zo (sstd R (nup S (32 + k) m) k)))) (zup (zup (pkH h (min (un + 1) 16) ((la + 1) % 16) (nup f1 ((la + 1) % 16) 1) (nup f2 ((la + 1) % 16) k) (nup f3 ((la + 1) % 16) (S (32 + k)))) 1052 (zI 6 (nup fl k m))) 1000 (zO 7 (kfs st ic 0 fa pl))) := by
  intro n
  obtain ⟨w1, w3, w4, w5, w0, wP, wM, wK, wX⟩ := id hR
  obtain ⟨wT, wL, wB⟩ := id hS
  obtain ⟨p0, p1, p2, p3⟩ := id hP
  have hC : Scn h 1051 1052 1053 t R S := ⟨hT, fl, ft, s0, s1, s2, rl, rt⟩
  generalize hg1 : (pkH h (min (un + 1) 16) ((la + 1) % 16) (nup f1 ((la + 1) % 16) 1) (nup f2 ((la + 1) % 16) k) (nup f3 ((la + 1) % 16) (S (32 + k)))) = hB
  have FB : ∀ a, a < 1034 ∨ 1037 < a → hB a = h a := fun a ha => by rw [← hg1]; exact pkH_ne _ _ _ _ _ _ ha
  have KB : hB 1000 = _ := (FB 1000 (by omega)).trans hK
  have sB : hB 1051 = _ := (FB 1051 (by omega)).trans s0
  have s1B : hB 1052 = _ := (FB 1052 (by omega)).trans s1
  have s2B : hB 1053 = _ := (FB 1053 (by omega)).trans s2
  have hKC : zup hB 1052 (zI 6 (nup fl k m)) 1000 = _ := (zup_ne (by decide)).trans KB
  have sC : zup hB 1052 (zI 6 (nup fl k m)) 1051 = _ := (zup_ne (by decide)).trans sB
  have CD : Scn (zup hB 1052 (zI 6 (nup fl k m))) 1051 1052 1053 t R (nup S (32 + k) m) := by
    refine ⟨hT.fr (fun a h1 h2 => by rw [zup_ne (by omega)]; exact FB a (by omega)), nup fl k m, ft, ?_, ?_, ?_, ?_, ?_⟩
    · rw [zup_ne (by decide), nup_ne (by omega), nup_ne (by omega)]; exact sB
    · exact zup_same _ _ _
    · rw [zup_ne (by decide)]; exact s2B
    · intro k2 hk2
      by_cases e : k2 = k
      · subst e; rw [nup_same, nup_same]
      · rw [nup_ne e, nup_ne (by omega)]; exact rl k2 hk2
    · intro j hj; rw [nup_ne (by omega)]; exact rt j hj
  have W1 := wfS_tk hR hS hk hm
  have e1 := wL k hk
  refine z_enter (lv := [(0, _), (1, _), (2, _)]) (by decide) (Nat.le_of_ble_eq_true rfl) rfl (fun X C => ?_)
  refine z_aload_n (pc := 0) C dX11_take_0 0 rfl ?_
  refine z_iload_n (pc := 1) C dX11_take_1 1 rfl ?_
  refine z_cV1 (pc := 2) mX11_isKill C [_] dX11_take_2 lX11_158 mtX11_isKill (tX11_isKill (by first | assumption | omega) (by first | assumption | omega) (by first | assumption | omega)) (by assumption) rfl rfl (by decide) (Nat.le_of_ble_eq_true rfl) (Nat.zero_le _) (Nat.zero_le _) ?_
  first | refine z_ifeqB (pc := 5) C 16 dX11_take_5 (by decide) (fun hc5 => ?_) (fun hc5 => ?_) | refine z_ifeqN (pc := 5) C 16 dX11_take_5 (by decide) (by omega) (fun hc5 => ?_) (fun hc5 => ?_) | refine z_if_eq (pc := 5) C 16 dX11_take_5 (by decide) (fun hc5 => ?_) (fun hc5 => ?_)
  · rw [zlt_nI (by omega), decide_eq_true hk] at hc5; cases hc5
  · skip
    refine z_aload_n (pc := 8) C dX11_take_8 0 rfl ?_
    refine z_iload_n (pc := 9) C dX11_take_9 2 rfl ?_
    refine z_cV1 (pc := 10) mX11_isMan C [_] dX11_take_10 lX11_140 mtX11_isMan (tX11_isMan (by first | assumption | omega) (by first | assumption | omega) (by first | assumption | omega)) (by assumption) rfl rfl (by decide) (Nat.le_of_ble_eq_true rfl) (Nat.zero_le _) (Nat.zero_le _) ?_
    first | refine z_ifneB (pc := 13) C 22 dX11_take_13 (by decide) (fun hc13 => ?_) (fun hc13 => ?_) | refine z_ifneN (pc := 13) C 22 dX11_take_13 (by decide) (by omega) (fun hc13 => ?_) (fun hc13 => ?_) | refine z_if_ne (pc := 13) C 22 dX11_take_13 (by decide) (fun hc13 => ?_) (fun hc13 => ?_)
    · skip
      refine z_aload_n (pc := 22) C dX11_take_22 0 rfl ?_
      refine z_getf (pc := 23) C dX11_take_23 fX11_53 (by assumption) (by first | rfl | assumption) ?_
      refine z_getf (pc := 26) C dX11_take_26 fX11_164 (by assumption) (by first | rfl | assumption) ?_
      refine z_iload_n (pc := 29) C dX11_take_29 1 rfl ?_
      refine z_ialdE (pc := 30) C dX11_take_30 (by assumption) (by omega) (by decide) (rl k hk) ?_
      refine z_iload_n (pc := 31) C dX11_take_31 2 rfl ?_
      first | refine z_icmpneN (pc := 32) C 41 dX11_take_32 (by decide) (by omega) (by omega) (fun hc32 => ?_) (fun hc32 => ?_) | refine z_icmp_ne (pc := 32) C 41 dX11_take_32 (by decide) (fun hc32 => ?_) (fun hc32 => ?_)
      · skip
        refine z_aload_n (pc := 41) C dX11_take_41 0 rfl ?_
        refine z_getf (pc := 42) C dX11_take_42 fX11_33 (by assumption) (by first | rfl | assumption) ?_
        refine z_iconst (pc := 45) C dX11_take_45 (nI 1) (by decide) ?_
        refine z_iload_n (pc := 46) C dX11_take_46 1 rfl ?_
        refine z_aload_n (pc := 47) C dX11_take_47 0 rfl ?_
        refine z_getf (pc := 48) C dX11_take_48 fX11_53 (by assumption) (by first | rfl | assumption) ?_
        refine z_getf (pc := 51) C dX11_take_51 fX11_164 (by assumption) (by first | rfl | assumption) ?_
        refine z_iload_n (pc := 54) C dX11_take_54 1 rfl ?_
        refine z_ialdE (pc := 55) C dX11_take_55 (by assumption) (by omega) (by decide) (rl k hk) ?_
        refine z_cV0 (pc := 56) mX3_keep C [_, _, _] dX11_take_56 lX11_354 mtX3_keep (hg1 ▸ tX3_keep hP hu hl) p0 rfl rfl (by decide) (Nat.le_of_ble_eq_true rfl) (Nat.zero_le _) (Nat.zero_le _) ?_
        refine z_aload_n (pc := 59) C dX11_take_59 0 rfl ?_
        refine z_getf (pc := 60) C dX11_take_60 fX11_53 (by assumption) (by first | rfl | assumption) ?_
        refine z_getf (pc := 63) C dX11_take_63 fX11_164 (by assumption) (by first | rfl | assumption) ?_
        refine z_iload_n (pc := 66) C dX11_take_66 1 rfl ?_
        refine z_iload_n (pc := 67) C dX11_take_67 2 rfl ?_
        first | refine z_iastN (pc := 68) C dX11_take_68 (by assumption) (by omega) (by decide) ?_ | refine z_iastI (pc := 68) C dX11_take_68 (by assumption) (by omega) (by decide) ?_
        refine z_aload_n (pc := 69) C dX11_take_69 0 rfl ?_
        refine z_aload_n (pc := 70) C dX11_take_70 0 rfl ?_
        refine z_getf (pc := 71) C dX11_take_71 fX11_53 (by assumption) (by first | rfl | assumption) ?_
        refine z_iload_n (pc := 74) C dX11_take_74 1 rfl ?_
        refine z_cV1 (pc := 75) mX5_standOf C [_] dX11_take_75 lX11_173 mtX5_standOf (tX5_standOf CD hR W1 hk) (by assumption) rfl rfl (by decide) (Nat.le_of_ble_eq_true rfl) (Nat.zero_le _) (Nat.zero_le _) ?_
        refine z_cV1 (pc := 78) mX11_answer C [_] dX11_take_78 lX11_108 mtX11_answer (tX11_answer hKC) (by assumption) rfl rfl (by decide) (Nat.le_of_ble_eq_true rfl) (Nat.zero_le _) (Nat.zero_le _) ?_
        refine z_iret (pc := 81) C dX11_take_81 rfl (Nat.zero_le _) (Nat.zero_le _) ⟨?_, ?_, rfl⟩
        · first | rfl | simp_all
        · rfl
      · exact absurd hc32 hy
    · rw [zlt_nI (by omega), decide_eq_true hm] at hc13; cases hc13

set_option maxRecDepth 20000 in
set_option maxHeartbeats 1000000 in
theorem tX11_lightY {h : ZH} {st : Nat} {ic tb fa pl : Int32} {t : Nat} {R S : Nat → Nat} {p : Nat} {b : Bool} {un la : Nat} {f1 f2 f3 fl ft : Nat → Nat} (hK : h 1000 = some (zO 7 (kfs st ic tb fa pl))) (hT : Tld h t R) (s0 : h 1051 = some (zO 3 [.ref t, .ref 1052, .int (nI (S 38)), .int (nI (S 39)), .ref 1053])) (s1 : h 1052 = some (zI 6 fl)) (s2 : h 1053 = some (zI 32 ft)) (rl : ∀ k, k < R 4 → fl k = S (32 + k)) (rt : ∀ j, j < 8 * R 3 → ft j = S j) (hR : wfR R) (hS : wfS R S) (hP : Pst h un la f1 f2 f3) (hu : un ≤ 16) (hl : la < 16) (hq : t = 1008 ∨ t = 1039) (hp : p < R 1) (hy : (S 38).testBit p ≠ b) : ZD mX11_light 5 [.ref 1000, .int (nI p), .int (zb b)] h (some (.int (zb true))) (zup (zup (pkH h (min (un + 1) 16) ((la + 1) % 16) (nup f1 ((la + 1) % 16) 2) (nup f2 ((la + 1) % 16) p) (nup f3 ((la + 1) % 16) 0)) 1051 (zO 3 [.ref t, .ref 1052, .int (nI (S 38 ^^^ 1 <<< p)), .int (nI (S 39)), .ref 1053])) 1000 (zO 7 (kfs st ic 0 fa pl))) := by
  intro n
  obtain ⟨w1, w3, w4, w5, w0, wP, wM, wK, wX⟩ := id hR
  obtain ⟨wT, wL, wB⟩ := id hS
  obtain ⟨p0, p1, p2, p3⟩ := id hP
  have hC : Scn h 1051 1052 1053 t R S := ⟨hT, fl, ft, s0, s1, s2, rl, rt⟩
  generalize hg1 : (pkH h (min (un + 1) 16) ((la + 1) % 16) (nup f1 ((la + 1) % 16) 2) (nup f2 ((la + 1) % 16) p) (nup f3 ((la + 1) % 16) 0)) = hB
  have FB : ∀ a, a < 1034 ∨ 1037 < a → hB a = h a := fun a ha => by rw [← hg1]; exact pkH_ne _ _ _ _ _ _ ha
  have KB : hB 1000 = _ := (FB 1000 (by omega)).trans hK
  have sB : hB 1051 = _ := (FB 1051 (by omega)).trans s0
  have s1B : hB 1052 = _ := (FB 1052 (by omega)).trans s1
  have s2B : hB 1053 = _ := (FB 1053 (by omega)).trans s2
  have hKC : zup hB 1051 (zO 3 [.ref t, .ref 1052, .int (nI (S 38 ^^^ 1 <<< p)), .int (nI (S 39)), .ref 1053]) 1000 = _ := (zup_ne (by decide)).trans KB
  refine z_enter (lv := [(0, _), (1, _), (2, _)]) (by decide) (Nat.le_of_ble_eq_true rfl) rfl (fun X C => ?_)
  refine z_aload_n (pc := 0) C dX11_light_0 0 rfl ?_
  refine z_iload_n (pc := 1) C dX11_light_1 1 rfl ?_
  refine z_cV1 (pc := 2) mX11_isPlace C [_] dX11_light_2 lX11_114 mtX11_isPlace (tX11_isPlace (by first | assumption | omega) (by first | assumption | omega) (by first | assumption | omega)) (by assumption) rfl rfl (by decide) (Nat.le_of_ble_eq_true rfl) (Nat.zero_le _) (Nat.zero_le _) ?_
  first | refine z_ifneB (pc := 5) C 14 dX11_light_5 (by decide) (fun hc5 => ?_) (fun hc5 => ?_) | refine z_ifneN (pc := 5) C 14 dX11_light_5 (by decide) (by omega) (fun hc5 => ?_) (fun hc5 => ?_) | refine z_if_ne (pc := 5) C 14 dX11_light_5 (by decide) (fun hc5 => ?_) (fun hc5 => ?_)
  · skip
    refine z_aload_n (pc := 14) C dX11_light_14 0 rfl ?_
    refine z_getf (pc := 15) C dX11_light_15 fX11_53 (by assumption) (by first | rfl | assumption) ?_
    refine z_iload_n (pc := 18) C dX11_light_18 1 rfl ?_
    refine z_cV1 (pc := 19) mX5_isLit C [_] dX11_light_19 lX11_117 mtX5_isLit (tX5_isLit hC hS (by omega)) (by assumption) rfl rfl (by decide) (Nat.le_of_ble_eq_true rfl) (Nat.zero_le _) (Nat.zero_le _) ?_
    refine z_iload_n (pc := 22) C dX11_light_22 2 rfl ?_
    refine z_icmp_ne (pc := 23) C 32 dX11_light_23 (by decide) (fun hc23 => ?_) (fun hc23 => ?_)
    · skip
      refine z_aload_n (pc := 32) C dX11_light_32 0 rfl ?_
      refine z_getf (pc := 33) C dX11_light_33 fX11_33 (by assumption) (by first | rfl | assumption) ?_
      refine z_iconst (pc := 36) C dX11_light_36 (nI 2) (by decide) ?_
      refine z_iload_n (pc := 37) C dX11_light_37 1 rfl ?_
      refine z_iconst (pc := 38) C dX11_light_38 (nI 0) (by decide) ?_
      refine z_cV0 (pc := 39) mX3_keep C [_, _, _] dX11_light_39 lX11_354 mtX3_keep (hg1 ▸ tX3_keep hP hu hl) p0 rfl rfl (by decide) (Nat.le_of_ble_eq_true rfl) (Nat.zero_le _) (Nat.zero_le _) ?_
      refine z_aload_n (pc := 42) C dX11_light_42 0 rfl ?_
      refine z_getf (pc := 43) C dX11_light_43 fX11_53 (by assumption) (by first | rfl | assumption) ?_
      refine z_iload_n (pc := 46) C dX11_light_46 1 rfl ?_
      refine z_cV0 (pc := 47) mX5_turnLamp C [_] dX11_light_47 lX11_370 mtX5_turnLamp (tX5_turnLamp sB (by omega)) (by assumption) rfl rfl (by decide) (Nat.le_of_ble_eq_true rfl) (Nat.zero_le _) (Nat.zero_le _) ?_
      refine z_aload_n (pc := 50) C dX11_light_50 0 rfl ?_
      refine z_iconst (pc := 51) C dX11_light_51 (nI 0) (by decide) ?_
      refine z_cV1 (pc := 52) mX11_settle C [_] dX11_light_52 lX11_367 mtX11_settle (tX11_settle (a := 0) hKC (by decide)) (by assumption) rfl rfl (by decide) (Nat.le_of_ble_eq_true rfl) (Nat.zero_le _) (Nat.zero_le _) ?_
      refine z_zret (pc := 55) C dX11_light_55 rfl (by first | exact zb_nar _ | rfl) (Nat.zero_le _) (Nat.zero_le _) ⟨?_, ?_, rfl⟩
      · first | rfl | simp_all
      · rfl
    · exact absurd (zb_inj hc23) hy
  · rw [zlt_nI (by omega), decide_eq_true hp] at hc5; cases hc5

set_option maxRecDepth 20000 in
set_option maxHeartbeats 1000000 in
theorem tX11_undo {h : ZH} {h1 : ZH} {r : Bool} {fs fs2 : List Value} {st : Nat} {ic tb fa pl : Int32} (hK : h 1000 = some (zO 7 (kfs st ic tb fa pl))) (z0 : h 1034 = some (zO 1 fs)) (Z1 : ZD mX3_takeBack 1 [.ref 1034, .ref 1051] h (some (.int (zb r))) h1) (hK1 : h1 1000 = some (zO 7 (kfs st ic tb fa pl))) : ZD mX11_undo 5 [.ref 1000] h (some (.int (zb r))) (zup h1 1000 (zO 7 (kfs st ic (if r = true then 0 else 6) fa pl))) := by
  intro n
  refine z_enter (lv := [(0, _)]) (by decide) (Nat.le_of_ble_eq_true rfl) rfl (fun X C => ?_)
  refine z_aload_n (pc := 0) C dX11_undo_0 0 rfl ?_
  refine z_aload_n (pc := 1) C dX11_undo_1 0 rfl ?_
  refine z_getf (pc := 2) C dX11_undo_2 fX11_33 (by assumption) (by first | rfl | assumption) ?_
  refine z_aload_n (pc := 5) C dX11_undo_5 0 rfl ?_
  refine z_getf (pc := 6) C dX11_undo_6 fX11_53 (by assumption) (by first | rfl | assumption) ?_
  refine z_cV1 (pc := 9) mX3_takeBack C [_] dX11_undo_9 lX11_373 mtX3_takeBack Z1 z0 rfl rfl (by decide) (Nat.le_of_ble_eq_true rfl) (Nat.zero_le _) (Nat.zero_le _) ?_
  first | refine z_ifeqB (pc := 12) C 19 dX11_undo_12 (by decide) (fun hc12 => ?_) (fun hc12 => ?_) | refine z_ifeqN (pc := 12) C 19 dX11_undo_12 (by decide) (by omega) (fun hc12 => ?_) (fun hc12 => ?_) | refine z_if_eq (pc := 12) C 19 dX11_undo_12 (by decide) (fun hc12 => ?_) (fun hc12 => ?_)
  · skip
    refine z_bipush (pc := 19) C dX11_undo_19 (nI 6) (by decide) ?_
    refine z_cV1 (pc := 21) mX11_settle C [_] dX11_undo_21 lX11_367 mtX11_settle (tX11_settle hK1 (by decide)) (by assumption) rfl rfl (by decide) (Nat.le_of_ble_eq_true rfl) (Nat.zero_le _) (Nat.zero_le _) ?_
    refine z_zret (pc := 24) C dX11_undo_24 rfl (by first | exact zb_nar _ | rfl) (Nat.zero_le _) (Nat.zero_le _) ⟨?_, ?_, rfl⟩
    · subst_vars; rfl
    · subst_vars; rfl
  · skip
    refine z_iconst (pc := 15) C dX11_undo_15 (nI 0) (by decide) ?_
    refine z_goto (pc := 16) C 21 dX11_undo_16 (by decide) ?_
    refine z_cV1 (pc := 21) mX11_settle C [_] dX11_undo_21 lX11_367 mtX11_settle (tX11_settle hK1 (by decide)) (by assumption) rfl rfl (by decide) (Nat.le_of_ble_eq_true rfl) (Nat.zero_le _) (Nat.zero_le _) ?_
    refine z_zret (pc := 24) C dX11_undo_24 rfl (by first | exact zb_nar _ | rfl) (Nat.zero_le _) (Nat.zero_le _) ⟨?_, ?_, rfl⟩
    · subst_vars; rfl
    · subst_vars; rfl

set_option maxRecDepth 20000 in
set_option maxHeartbeats 1000000 in
theorem tX11_imageN {h : ZH} {st : Nat} {tb fa pl : Int32} {c : Nat} {t : Nat} {R S : Nat → Nat} (hK : h 1000 = some (zO 7 (kfs st (nI c) tb fa pl))) (hC : Scn h 1051 1052 1053 t R S) (hR : wfR R) (hc : c ≤ 3) (hn : ¬ (0 < R 1 ∧ c < 3)) : ZD mX11_image 5 [.ref 1000] h (some (.int (-1))) (zup h 1000 (zO 7 (kfs st (nI c) (if 0 < R 1 then 3 else 1) fa pl))) := by
  intro n
  refine z_enter (lv := [(0, _)]) (by decide) (Nat.le_of_ble_eq_true rfl) rfl (fun X C => ?_)
  refine z_aload_n (pc := 0) C dX11_image_0 0 rfl ?_
  refine z_cV1 (pc := 1) mX11_isForest C [] dX11_image_1 lX11_183 mtX11_isForest (tX11_isForest (by first | assumption | omega) (by first | assumption | omega) (by first | assumption | omega)) (by assumption) rfl rfl (by decide) (Nat.le_of_ble_eq_true rfl) (Nat.zero_le _) (Nat.zero_le _) ?_
  first | refine z_ifneB (pc := 4) C 13 dX11_image_4 (by decide) (fun hc4 => ?_) (fun hc4 => ?_) | refine z_ifneN (pc := 4) C 13 dX11_image_4 (by decide) (by omega) (fun hc4 => ?_) (fun hc4 => ?_) | refine z_if_ne (pc := 4) C 13 dX11_image_4 (by decide) (fun hc4 => ?_) (fun hc4 => ?_)
  · skip
    have e0 := of_decide_eq_true hc4
    refine z_aload_n (pc := 13) C dX11_image_13 0 rfl ?_
    refine z_getf (pc := 14) C dX11_image_14 fX11_101 (by assumption) (by first | rfl | assumption) ?_
    refine z_iconst (pc := 17) C dX11_image_17 (nI 3) (by decide) ?_
    first | refine z_icmpltN (pc := 18) C 27 dX11_image_18 (by decide) (by omega) (by omega) (fun hc18 => ?_) (fun hc18 => ?_) | refine z_icmp_lt (pc := 18) C 27 dX11_image_18 (by decide) (fun hc18 => ?_) (fun hc18 => ?_)
    · exact absurd ⟨e0, hc18⟩ hn
    · skip
      refine z_aload_n (pc := 21) C dX11_image_21 0 rfl ?_
      refine z_iconst (pc := 22) C dX11_image_22 (nI 3) (by decide) ?_
      refine z_cV1 (pc := 23) mX11_refuse C [_] dX11_image_23 lX11_70 mtX11_refuse (tX11_refuse (by first | assumption | omega)) (by assumption) rfl rfl (by decide) (Nat.le_of_ble_eq_true rfl) (Nat.zero_le _) (Nat.zero_le _) ?_
      refine z_iret (pc := 26) C dX11_image_26 rfl (Nat.zero_le _) (Nat.zero_le _) ⟨?_, ?_, rfl⟩
      · first | rfl | simp_all
      · simp [*] <;> rfl
  · skip
    have e0 := of_decide_eq_false hc4
    refine z_aload_n (pc := 7) C dX11_image_7 0 rfl ?_
    refine z_iconst (pc := 8) C dX11_image_8 (nI 1) (by decide) ?_
    refine z_cV1 (pc := 9) mX11_refuse C [_] dX11_image_9 lX11_70 mtX11_refuse (tX11_refuse (by first | assumption | omega)) (by assumption) rfl rfl (by decide) (Nat.le_of_ble_eq_true rfl) (Nat.zero_le _) (Nat.zero_le _) ?_
    refine z_iret (pc := 12) C dX11_image_12 rfl (Nat.zero_le _) (Nat.zero_le _) ⟨?_, ?_, rfl⟩
    · first | rfl | simp_all
    · simp [*] <;> rfl

set_option maxRecDepth 20000 in
set_option maxHeartbeats 1000000 in
theorem tX11_imageY {h : ZH} {h1 : ZH} {st : Nat} {tb fa pl : Int32} {c : Nat} {fI : Nat → Option Nat} {fs : List Value} {t : Nat} {R S : Nat → Nat} (hK : h 1000 = some (zO 7 (kfs st (nI c) tb fa pl))) (hC : Scn h 1051 1052 1053 t R S) (hR : wfR R) (h0 : 0 < R 1) (hc : c < 3) (hI : h 1038 = some (zS 3 fI)) (hf : fI c = some (1054 + 3 * c)) (z0 : h (1054 + 3 * c) = some (zO 3 fs)) (Z1 : ZD mX5_become 1 [.ref (1054 + 3 * c), .ref 1051] h none h1) (hK1 : h1 1000 = some (zO 7 (kfs st (nI c) tb fa pl))) : ZD mX11_image 5 [.ref 1000] h (some (.int (nI c))) (zup h1 1000 (zO 7 (kfs st (nI (c + 1)) 0 fa pl))) := by
  intro n
  refine z_enter (lv := [(0, _)]) (by decide) (Nat.le_of_ble_eq_true rfl) rfl (fun X C => ?_)
  refine z_aload_n (pc := 0) C dX11_image_0 0 rfl ?_
  refine z_cV1 (pc := 1) mX11_isForest C [] dX11_image_1 lX11_183 mtX11_isForest (tX11_isForest (by first | assumption | omega) (by first | assumption | omega) (by first | assumption | omega)) (by assumption) rfl rfl (by decide) (Nat.le_of_ble_eq_true rfl) (Nat.zero_le _) (Nat.zero_le _) ?_
  first | refine z_ifneB (pc := 4) C 13 dX11_image_4 (by decide) (fun hc4 => ?_) (fun hc4 => ?_) | refine z_ifneN (pc := 4) C 13 dX11_image_4 (by decide) (by omega) (fun hc4 => ?_) (fun hc4 => ?_) | refine z_if_ne (pc := 4) C 13 dX11_image_4 (by decide) (fun hc4 => ?_) (fun hc4 => ?_)
  · skip
    refine z_aload_n (pc := 13) C dX11_image_13 0 rfl ?_
    refine z_getf (pc := 14) C dX11_image_14 fX11_101 (by assumption) (by first | rfl | assumption) ?_
    refine z_iconst (pc := 17) C dX11_image_17 (nI 3) (by decide) ?_
    first | refine z_icmpltN (pc := 18) C 27 dX11_image_18 (by decide) (by omega) (by omega) (fun hc18 => ?_) (fun hc18 => ?_) | refine z_icmp_lt (pc := 18) C 27 dX11_image_18 (by decide) (fun hc18 => ?_) (fun hc18 => ?_)
    · skip
      refine z_aload_n (pc := 27) C dX11_image_27 0 rfl ?_
      refine z_getf (pc := 28) C dX11_image_28 fX11_39 (by assumption) (by first | rfl | assumption) ?_
      refine z_aload_n (pc := 31) C dX11_image_31 0 rfl ?_
      refine z_getf (pc := 32) C dX11_image_32 fX11_101 (by assumption) (by first | rfl | assumption) ?_
      refine z_aaldN (pc := 35) C dX11_image_35 (by assumption) (by omega) (by decide) hf ?_
      refine z_aload_n (pc := 36) C dX11_image_36 0 rfl ?_
      refine z_getf (pc := 37) C dX11_image_37 fX11_53 (by assumption) (by first | rfl | assumption) ?_
      refine z_cV0 (pc := 40) mX5_become C [_] dX11_image_40 lX11_94 mtX5_become Z1 z0 rfl rfl (by decide) (Nat.le_of_ble_eq_true rfl) (Nat.zero_le _) (Nat.zero_le _) ?_
      refine z_aload_n (pc := 43) C dX11_image_43 0 rfl ?_
      refine z_dup (pc := 44) C dX11_image_44 rfl ?_
      refine z_getf (pc := 45) C dX11_image_45 fX11_101 hK1 (by first | rfl | assumption) ?_
      refine z_iconst (pc := 48) C dX11_image_48 (nI 1) (by decide) ?_
      first | refine z_iaddN (pc := 49) C dX11_image_49 ?_ | refine z_iadd (pc := 49) C dX11_image_49 ?_
      refine z_putf (pc := 50) (fs' := kfs _ _ _ _ _) C dX11_image_50 gX11_101 hK1 (fun _ => ⟨rfl, rfl⟩) (by exact Nat.le_of_ble_eq_true rfl) (by rfl) ?_
      refine z_aload_n (pc := 53) C dX11_image_53 0 rfl ?_
      refine z_aload_n (pc := 54) C dX11_image_54 0 rfl ?_
      refine z_getf (pc := 55) C dX11_image_55 fX11_101 (zup_same _ _ _) (by first | rfl | assumption) ?_
      refine z_iconst (pc := 58) C dX11_image_58 (nI 1) (by decide) ?_
      first | refine z_isubN (pc := 59) C dX11_image_59 (by omega) ?_ | refine z_isub (pc := 59) C dX11_image_59 ?_
      refine z_cV1 (pc := 60) mX11_answer C [_] dX11_image_60 lX11_108 mtX11_answer (tX11_answer (zup_same _ _ _)) (zup_same _ _ _) rfl rfl (by decide) (Nat.le_of_ble_eq_true rfl) (Nat.zero_le _) (Nat.zero_le _) ?_
      refine z_iret (pc := 63) C dX11_image_63 rfl (Nat.zero_le _) (Nat.zero_le _) ⟨?_, ?_, rfl⟩
      · rfl
      · rw [zup_zup]
    · omega
  · exact absurd h0 (of_decide_eq_false hc4)

set_option maxRecDepth 20000 in
set_option maxHeartbeats 1000000 in
theorem tX11_backN {h : ZH} {st : Nat} {tb fa pl : Int32} {c : Nat} {w : Int32} (hK : h 1000 = some (zO 7 (kfs st (nI c) tb fa pl))) (hc : c ≤ 3) (hn : zlt w c = false) : ZD mX11_back 5 [.ref 1000, .int w] h (some (.int (zb false))) (zup h 1000 (zO 7 (kfs st (nI c) 1 fa pl))) := by
  intro n
  refine z_enter (lv := [(0, _), (1, _)]) (by decide) (Nat.le_of_ble_eq_true rfl) rfl (fun X C => ?_)
  refine z_iload_n (pc := 0) C dX11_back_0 1 rfl ?_
  refine z_if_lt (pc := 1) C 12 dX11_back_1 (by decide) (fun hc1 => ?_) (fun hc1 => ?_)
  · skip
    refine z_aload_n (pc := 12) C dX11_back_12 0 rfl ?_
    refine z_iconst (pc := 13) C dX11_back_13 (nI 1) (by decide) ?_
    refine z_cV1 (pc := 14) mX11_settle C [_] dX11_back_14 lX11_367 mtX11_settle (tX11_settle (a := 1) hK (by decide)) (by assumption) rfl rfl (by decide) (Nat.le_of_ble_eq_true rfl) (Nat.zero_le _) (Nat.zero_le _) ?_
    refine z_zret (pc := 17) C dX11_back_17 rfl (by first | exact zb_nar _ | rfl) (Nat.zero_le _) (Nat.zero_le _) ⟨?_, ?_, rfl⟩
    · first | rfl | simp_all
    · rfl
  · skip
    refine z_iload_n (pc := 4) C dX11_back_4 1 rfl ?_
    refine z_aload_n (pc := 5) C dX11_back_5 0 rfl ?_
    refine z_getf (pc := 6) C dX11_back_6 fX11_101 (by assumption) (by first | rfl | assumption) ?_
    refine z_icmp_lt (pc := 9) C 18 dX11_back_9 (by decide) (fun hc9 => ?_) (fun hc9 => ?_)
    · rw [zlt_t (by omega) hc1 (Int32.not_le.mpr hc9)] at hn; cases hn
    · skip
      refine z_aload_n (pc := 12) C dX11_back_12 0 rfl ?_
      refine z_iconst (pc := 13) C dX11_back_13 (nI 1) (by decide) ?_
      refine z_cV1 (pc := 14) mX11_settle C [_] dX11_back_14 lX11_367 mtX11_settle (tX11_settle (a := 1) hK (by decide)) (by assumption) rfl rfl (by decide) (Nat.le_of_ble_eq_true rfl) (Nat.zero_le _) (Nat.zero_le _) ?_
      refine z_zret (pc := 17) C dX11_back_17 rfl (by first | exact zb_nar _ | rfl) (Nat.zero_le _) (Nat.zero_le _) ⟨?_, ?_, rfl⟩
      · first | rfl | simp_all
      · rfl

set_option maxRecDepth 20000 in
set_option maxHeartbeats 1000000 in
theorem tX11_backY {h : ZH} {h1 : ZH} {st : Nat} {tb fa pl : Int32} {c j : Nat} {la : Int32} {un : Int32} {fI : Nat → Option Nat} {fs : List Value} (hK : h 1000 = some (zO 7 (kfs st (nI c) tb fa pl))) (hc : c ≤ 3) (hj : j < c) (hI : h 1038 = some (zS 3 fI)) (hf : fI j = some (1054 + 3 * j)) (z0 : h 1051 = some (zO 3 fs)) (Z1 : ZD mX5_become 1 [.ref 1051, .ref (1054 + 3 * j)] h none h1) (hK1 : h1 1000 = some (zO 7 (kfs st (nI c) tb fa pl))) (p0 : h1 1034 = some (zO 1 [.int un, .ref 1035, .ref 1036, .ref 1037, .int la])) : ZD mX11_back 5 [.ref 1000, .int (nI j)] h (some (.int (zb true))) (zup (zup h1 1034 (zO 1 [.int (nI 0), .ref 1035, .ref 1036, .ref 1037, .int la])) 1000 (zO 7 (kfs st (nI c) 0 fa pl))) := by
  intro n
  refine z_enter (lv := [(0, _), (1, _)]) (by decide) (Nat.le_of_ble_eq_true rfl) rfl (fun X C => ?_)
  refine z_iload_n (pc := 0) C dX11_back_0 1 rfl ?_
  first | refine z_ifltO (pc := 1) C 12 dX11_back_1 (by decide) (by assumption) (fun hc1 => ?_) (fun hc1 => ?_) | refine z_ifltN (pc := 1) C 12 dX11_back_1 (by decide) (by omega) (fun hc1 => ?_) (fun hc1 => ?_) | refine z_if_lt (pc := 1) C 12 dX11_back_1 (by decide) (fun hc1 => ?_) (fun hc1 => ?_)
  · exact hc1.elim
  · skip
    refine z_iload_n (pc := 4) C dX11_back_4 1 rfl ?_
    refine z_aload_n (pc := 5) C dX11_back_5 0 rfl ?_
    refine z_getf (pc := 6) C dX11_back_6 fX11_101 (by assumption) (by first | rfl | assumption) ?_
    first | refine z_icmpltN (pc := 9) C 18 dX11_back_9 (by decide) (by omega) (by omega) (fun hc9 => ?_) (fun hc9 => ?_) | refine z_icmp_lt (pc := 9) C 18 dX11_back_9 (by decide) (fun hc9 => ?_) (fun hc9 => ?_)
    · skip
      refine z_aload_n (pc := 18) C dX11_back_18 0 rfl ?_
      refine z_getf (pc := 19) C dX11_back_19 fX11_53 (by assumption) (by first | rfl | assumption) ?_
      refine z_aload_n (pc := 22) C dX11_back_22 0 rfl ?_
      refine z_getf (pc := 23) C dX11_back_23 fX11_39 (by assumption) (by first | rfl | assumption) ?_
      refine z_iload_n (pc := 26) C dX11_back_26 1 rfl ?_
      refine z_aaldN (pc := 27) C dX11_back_27 (by assumption) (by omega) (by decide) hf ?_
      refine z_cV0 (pc := 28) mX5_become C [_] dX11_back_28 lX11_94 mtX5_become Z1 z0 rfl rfl (by decide) (Nat.le_of_ble_eq_true rfl) (Nat.zero_le _) (Nat.zero_le _) ?_
      refine z_aload_n (pc := 31) C dX11_back_31 0 rfl ?_
      refine z_getf (pc := 32) C dX11_back_32 fX11_33 hK1 (by first | rfl | assumption) ?_
      refine z_cV0 (pc := 35) mX3_forget C [] dX11_back_35 lX11_98 mtX3_forget (tX3_forget p0) (by assumption) rfl rfl (by decide) (Nat.le_of_ble_eq_true rfl) (Nat.zero_le _) (Nat.zero_le _) ?_
      refine z_aload_n (pc := 38) C dX11_back_38 0 rfl ?_
      refine z_iconst (pc := 39) C dX11_back_39 (nI 0) (by decide) ?_
      refine z_cV1 (pc := 40) mX11_settle C [_] dX11_back_40 lX11_367 mtX11_settle (tX11_settle (a := 0) ((zup_ne (by decide)).trans hK1) (by decide)) (by assumption) rfl rfl (by decide) (Nat.le_of_ble_eq_true rfl) (Nat.zero_le _) (Nat.zero_le _) ?_
      refine z_zret (pc := 43) C dX11_back_43 rfl (by first | exact zb_nar _ | rfl) (Nat.zero_le _) (Nat.zero_le _) ⟨?_, ?_, rfl⟩
      · first | rfl | simp_all
      · rfl
    · omega
