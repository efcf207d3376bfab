theorem mQ_rs {h : ZH} {v : Nat → Int32} {A x : Int32} (hJ : mJ h) : mQ h (if A = 0 then zup h 1063 (zO 8 (mfs (upd (mv v 0) 31 x))) else zup h 1063 (zO 8 (mfs (mv v A)))) (mv v A) := by
  split
  · rename_i q
    subst q
    exact ⟨⟨_, zup_same _ _ _, rfl, rfl, rfl, rfl, rfl, rfl, rfl, rfl⟩, hJ.on (fun a q1 q2 => zup_ne (by omega)), fun a q1 q2 => zup_ne q1⟩
  · exact mQ.to hJ

theorem pr_place {h : ZH} {st sl sr t ds dl dr dt ic len un la : Nat} {tb fa pl : Int32} {B R S F I U f1 f2 f3 : Nat → Nat} {v : Nat → Int32} {b : Bool} {x y : Int32} (hI : InvP h st sl sr t ds dl dr dt ic len un la tb fa pl B R S F I U f1 f2 f3 v b) : Pr isI mX11_place mX12_place 6 5 [.int x, .int y] h := by
  have hI0 := hI
  have hq := hI.tq
  obtain ⟨i0, -, i2, -, i4, i5, i6, i7, i8, -, i10, -, -, -, i14, i15⟩ := hI
  obtain ⟨y1, y2, y3, y4, y5, y6, y7⟩ := i14
  obtain ⟨hb, hR, hS, hF, -, -, -, -, hz⟩ := i15
  exact Pr.read hI0 ⟨_, rfl⟩ ((tX11_place i0 i5 hR hS).kq i6 i7) (fun h1 a b c d e => (tX12_place a b c hR hS y4 hb).mq e) (aPlace4 _ _ _ _)

theorem pr_man {h : ZH} {st sl sr t ds dl dr dt ic len un la : Nat} {tb fa pl : Int32} {B R S F I U f1 f2 f3 : Nat → Nat} {v : Nat → Int32} {b : Bool} {x y : Int32} (hI : InvP h st sl sr t ds dl dr dt ic len un la tb fa pl B R S F I U f1 f2 f3 v b) : Pr isI mX11_man mX12_man 2 2 [.int x, .int y] h := by
  have hI0 := hI
  have hq := hI.tq
  obtain ⟨i0, -, i2, -, i4, i5, i6, i7, i8, -, i10, -, -, -, i14, i15⟩ := hI
  obtain ⟨y1, y2, y3, y4, y5, y6, y7⟩ := i14
  obtain ⟨hb, hR, hS, hF, -, -, -, -, hz⟩ := i15
  exact Pr.read hI0 ⟨_, rfl⟩ ((tX11_man i0 i5 hR hS).kq i6 i7) (fun h1 a b c d e => (tX12_man a b c hR hS y4 hb).mq e) (aMan4 _ _ _ _)

theorem pr_kill {h : ZH} {st sl sr t ds dl dr dt ic len un la : Nat} {tb fa pl : Int32} {B R S F I U f1 f2 f3 : Nat → Nat} {v : Nat → Int32} {b : Bool} {x y : Int32} (hI : InvP h st sl sr t ds dl dr dt ic len un la tb fa pl B R S F I U f1 f2 f3 v b) : Pr isI mX11_kill mX12_kill 3 3 [.int x, .int y] h := by
  have hI0 := hI
  have hq := hI.tq
  obtain ⟨i0, -, i2, -, i4, i5, i6, i7, i8, -, i10, -, -, -, i14, i15⟩ := hI
  obtain ⟨y1, y2, y3, y4, y5, y6, y7⟩ := i14
  obtain ⟨hb, hR, hS, hF, -, -, -, -, hz⟩ := i15
  exact Pr.read hI0 ⟨_, rfl⟩ ((tX11_kill i0 i5 hR hS).kq i6 i7) (fun h1 a b c d e => (tX12_kill a b c hR hS y4 hb).mq e) (aKill4 _ _ _ _)

theorem pr_trail {h : ZH} {st sl sr t ds dl dr dt ic len un la : Nat} {tb fa pl : Int32} {B R S F I U f1 f2 f3 : Nat → Nat} {v : Nat → Int32} {b : Bool} {x y : Int32} (hI : InvP h st sl sr t ds dl dr dt ic len un la tb fa pl B R S F I U f1 f2 f3 v b) : Pr isI mX11_trail mX12_trail 2 2 [.int x, .int y] h := by
  have hI0 := hI
  have hq := hI.tq
  obtain ⟨i0, -, i2, -, i4, i5, i6, i7, i8, -, i10, -, -, -, i14, i15⟩ := hI
  obtain ⟨y1, y2, y3, y4, y5, y6, y7⟩ := i14
  obtain ⟨hb, hR, hS, hF, -, -, -, -, hz⟩ := i15
  exact Pr.read hI0 ⟨_, rfl⟩ ((tX11_trail i0 i5 hR hS).kq i6 i7) (fun h1 a b c d e => (tX12_trail a b c hR hS y4 hb).mq e) (aW4 _ _ _)

theorem pr_crowded {h : ZH} {st sl sr t ds dl dr dt ic len un la : Nat} {tb fa pl : Int32} {B R S F I U f1 f2 f3 : Nat → Nat} {v : Nat → Int32} {b : Bool}  (hI : InvP h st sl sr t ds dl dr dt ic len un la tb fa pl B R S F I U f1 f2 f3 v b) : Pr isI mX11_crowded mX12_crowded 6 5 [] h := by
  have hI0 := hI
  have hq := hI.tq
  obtain ⟨i0, -, i2, -, i4, i5, i6, i7, i8, -, i10, -, -, -, i14, i15⟩ := hI
  obtain ⟨y1, y2, y3, y4, y5, y6, y7⟩ := i14
  obtain ⟨hb, hR, hS, hF, -, -, -, -, hz⟩ := i15
  exact Pr.read hI0 ⟨_, rfl⟩ ((tX11_crowded i0 i5 hR hS).kq i6 i7) (fun h1 a b c d e => (tX12_crowded a b c hR hS y4 hb).mq e) (aF4 _ _)

theorem pr_leader {h : ZH} {st sl sr t ds dl dr dt ic len un la : Nat} {tb fa pl : Int32} {B R S F I U f1 f2 f3 : Nat → Nat} {v : Nat → Int32} {b : Bool}  (hI : InvP h st sl sr t ds dl dr dt ic len un la tb fa pl B R S F I U f1 f2 f3 v b) : Pr isI mX11_leader mX12_leader 2 1 [] h := by
  have hI0 := hI
  have hq := hI.tq
  obtain ⟨i0, -, i2, -, i4, i5, i6, i7, i8, -, i10, -, -, -, i14, i15⟩ := hI
  obtain ⟨y1, y2, y3, y4, y5, y6, y7⟩ := i14
  obtain ⟨hb, hR, hS, hF, -, -, -, -, hz⟩ := i15
  exact Pr.read hI0 ⟨_, rfl⟩ ((tX11_leader i0 i5 hR hS).kq i6 i7) (fun h1 a b c d e => (tX12_leader a b c hR hS y4 hb).mq e) (aF4 _ _)

theorem pr_room {h : ZH} {st sl sr t ds dl dr dt ic len un la : Nat} {tb fa pl : Int32} {B R S F I U f1 f2 f3 : Nat → Nat} {v : Nat → Int32} {b : Bool}  (hI : InvP h st sl sr t ds dl dr dt ic len un la tb fa pl B R S F I U f1 f2 f3 v b) : Pr isI mX11_room mX12_room 6 5 [] h := by
  have hI0 := hI
  have hq := hI.tq
  obtain ⟨i0, -, i2, -, i4, i5, i6, i7, i8, -, i10, -, -, -, i14, i15⟩ := hI
  obtain ⟨y1, y2, y3, y4, y5, y6, y7⟩ := i14
  obtain ⟨hb, hR, hS, hF, -, -, -, -, hz⟩ := i15
  exact Pr.read hI0 ⟨_, rfl⟩ ((tX11_room i0 i5 hR hS).kq i6 i7) (fun h1 a b c d e => (tX12_room a b c hR hS y4 hb).mq e) (aF4 _ _)

theorem pr_amends {h : ZH} {st sl sr t ds dl dr dt ic len un la : Nat} {tb fa pl : Int32} {B R S F I U f1 f2 f3 : Nat → Nat} {v : Nat → Int32} {b : Bool}  (hI : InvP h st sl sr t ds dl dr dt ic len un la tb fa pl B R S F I U f1 f2 f3 v b) : Pr isI mX11_amends mX12_amends 2 1 [] h := by
  have hI0 := hI
  have hq := hI.tq
  obtain ⟨i0, -, i2, -, i4, i5, i6, i7, i8, -, i10, -, -, -, i14, i15⟩ := hI
  obtain ⟨y1, y2, y3, y4, y5, y6, y7⟩ := i14
  obtain ⟨hb, hR, hS, hF, -, -, -, -, hz⟩ := i15
  exact Pr.read hI0 ⟨_, rfl⟩ ((tX11_amends i0 i5 hR hS).kq i6 i7) (fun h1 a b c d e => (tX12_amends a b c hR hS y4 hb).mq e) (aF4 _ _)

theorem pr_middle {h : ZH} {st sl sr t ds dl dr dt ic len un la : Nat} {tb fa pl : Int32} {B R S F I U f1 f2 f3 : Nat → Nat} {v : Nat → Int32} {b : Bool}  (hI : InvP h st sl sr t ds dl dr dt ic len un la tb fa pl B R S F I U f1 f2 f3 v b) : Pr isI mX11_middle mX12_middle 5 4 [] h := by
  have hI0 := hI
  have hq := hI.tq
  obtain ⟨i0, -, i2, -, i4, i5, i6, i7, i8, -, i10, -, -, -, i14, i15⟩ := hI
  obtain ⟨y1, y2, y3, y4, y5, y6, y7⟩ := i14
  obtain ⟨hb, hR, hS, hF, -, -, -, -, hz⟩ := i15
  exact Pr.read hI0 ⟨_, rfl⟩ ((tX11_middle i0 i5 hR hS).kq i6 i7) (fun h1 a b c d e => (tX12_middle a b c hR hS y4 hb).mq e) (aF4 _ _)

theorem pr_robbed {h : ZH} {st sl sr t ds dl dr dt ic len un la : Nat} {tb fa pl : Int32} {B R S F I U f1 f2 f3 : Nat → Nat} {v : Nat → Int32} {b : Bool}  (hI : InvP h st sl sr t ds dl dr dt ic len un la tb fa pl B R S F I U f1 f2 f3 v b) : Pr isI mX11_robbed mX12_robbed 3 2 [] h := by
  have hI0 := hI
  have hq := hI.tq
  obtain ⟨i0, -, i2, -, i4, i5, i6, i7, i8, -, i10, -, -, -, i14, i15⟩ := hI
  obtain ⟨y1, y2, y3, y4, y5, y6, y7⟩ := i14
  obtain ⟨hb, hR, hS, hF, -, -, -, -, hz⟩ := i15
  exact Pr.read hI0 ⟨_, rfl⟩ ((tX11_robbed i0 i5 hR hS).kq i6 i7) (fun h1 a b c d e => (tX12_robbed a b c hR hS y4 hb).mq e) (aF4 _ _)

theorem pr_parts {h : ZH} {st sl sr t ds dl dr dt ic len un la : Nat} {tb fa pl : Int32} {B R S F I U f1 f2 f3 : Nat → Nat} {v : Nat → Int32} {b : Bool}  (hI : InvP h st sl sr t ds dl dr dt ic len un la tb fa pl B R S F I U f1 f2 f3 v b) : Pr isI mX11_parts mX12_parts 4 3 [] h := by
  have hI0 := hI
  have hq := hI.tq
  obtain ⟨i0, -, i2, -, i4, i5, i6, i7, i8, -, i10, -, -, -, i14, i15⟩ := hI
  obtain ⟨y1, y2, y3, y4, y5, y6, y7⟩ := i14
  obtain ⟨hb, hR, hS, hF, -, -, -, -, hz⟩ := i15
  exact Pr.read hI0 ⟨_, rfl⟩ ((tX11_parts i0 i5 hR hS).kq i6 i7) (fun h1 a b c d e => (tX12_parts a b c hR hS y4 hb).mq e) (aF4 _ _)

theorem pr_lonely {h : ZH} {st sl sr t ds dl dr dt ic len un la : Nat} {tb fa pl : Int32} {B R S F I U f1 f2 f3 : Nat → Nat} {v : Nat → Int32} {b : Bool}  (hI : InvP h st sl sr t ds dl dr dt ic len un la tb fa pl B R S F I U f1 f2 f3 v b) : Pr isI mX11_lonely mX12_lonely 6 5 [] h := by
  have hI0 := hI
  have hq := hI.tq
  obtain ⟨i0, -, i2, -, i4, i5, i6, i7, i8, -, i10, -, -, -, i14, i15⟩ := hI
  obtain ⟨y1, y2, y3, y4, y5, y6, y7⟩ := i14
  obtain ⟨hb, hR, hS, hF, -, -, -, -, hz⟩ := i15
  exact Pr.read hI0 ⟨_, rfl⟩ ((tX11_lonely i0 i5 hR hS).kq i6 i7) (fun h1 a b c d e => (tX12_lonely a b c hR hS y4 hb).mq e) (aF4 _ _)

theorem pr_near {h : ZH} {st sl sr t ds dl dr dt ic len un la : Nat} {tb fa pl : Int32} {B R S F I U f1 f2 f3 : Nat → Nat} {v : Nat → Int32} {b : Bool} {x : Int32} (hI : InvP h st sl sr t ds dl dr dt ic len un la tb fa pl B R S F I U f1 f2 f3 v b) : Pr isI mX11_near mX12_near 5 4 [.int x] h := by
  have hI0 := hI
  have hq := hI.tq
  obtain ⟨i0, -, i2, -, i4, i5, i6, i7, i8, -, i10, -, -, -, i14, i15⟩ := hI
  obtain ⟨y1, y2, y3, y4, y5, y6, y7⟩ := i14
  obtain ⟨hb, hR, hS, hF, -, -, -, -, hz⟩ := i15
  exact Pr.read hI0 ⟨_, rfl⟩ ((tX11_near i0 i5 hR hS).kq i6 i7) (fun h1 a b c d e => (tX12_near a b c hR hS y4 hb).mq e) (aM4 _ _ _)

theorem pr_owes {h : ZH} {st sl sr t ds dl dr dt ic len un la : Nat} {tb fa pl : Int32} {B R S F I U f1 f2 f3 : Nat → Nat} {v : Nat → Int32} {b : Bool} {x : Int32} (hI : InvP h st sl sr t ds dl dr dt ic len un la tb fa pl B R S F I U f1 f2 f3 v b) : Pr isI mX11_owes mX12_owes 2 2 [.int x] h := by
  have hI0 := hI
  have hq := hI.tq
  obtain ⟨i0, -, i2, -, i4, i5, i6, i7, i8, -, i10, -, -, -, i14, i15⟩ := hI
  obtain ⟨y1, y2, y3, y4, y5, y6, y7⟩ := i14
  obtain ⟨hb, hR, hS, hF, -, -, -, -, hz⟩ := i15
  exact Pr.read hI0 ⟨_, rfl⟩ ((tX11_owes i0 i5 hR hS).kq i6 i7) (fun h1 a b c d e => (tX12_owes a b c hR hS y4 hb).mq e) (aM4 _ _ _)

theorem pr_safe {h : ZH} {st sl sr t ds dl dr dt ic len un la : Nat} {tb fa pl : Int32} {B R S F I U f1 f2 f3 : Nat → Nat} {v : Nat → Int32} {b : Bool} {x : Int32} (hI : InvP h st sl sr t ds dl dr dt ic len un la tb fa pl B R S F I U f1 f2 f3 v b) : Pr isI mX11_safe mX12_safe 4 4 [.int x] h := by
  have hI0 := hI
  have hq := hI.tq
  obtain ⟨i0, -, i2, -, i4, i5, i6, i7, i8, -, i10, -, -, -, i14, i15⟩ := hI
  obtain ⟨y1, y2, y3, y4, y5, y6, y7⟩ := i14
  obtain ⟨hb, hR, hS, hF, -, -, -, -, hz⟩ := i15
  exact Pr.read hI0 ⟨_, rfl⟩ ((tX11_safe i0 i5 hR hS).kq i6 i7) (fun h1 a b c d e => (tX12_safe a b c hR hS y4 hb).mq e) (aM4 _ _ _)

theorem pr_ring {h : ZH} {st sl sr t ds dl dr dt ic len un la : Nat} {tb fa pl : Int32} {B R S F I U f1 f2 f3 : Nat → Nat} {v : Nat → Int32} {b : Bool} {x : Int32} (hI : InvP h st sl sr t ds dl dr dt ic len un la tb fa pl B R S F I U f1 f2 f3 v b) : Pr isI mX11_ring mX12_ring 3 8 [.int x] h := by
  have hI0 := hI
  have hq := hI.tq
  obtain ⟨i0, -, i2, -, i4, i5, i6, i7, i8, -, i10, -, -, -, i14, i15⟩ := hI
  obtain ⟨y1, y2, y3, y4, y5, y6, y7⟩ := i14
  obtain ⟨hb, hR, hS, hF, -, -, -, -, hz⟩ := i15
  exact Pr.read hI0 ⟨_, rfl⟩ ((tX11_ring i0 i5 hR hS).kq i6 i7) (fun h1 a b c d e => tX12_ring a b c e hR hS y4 hb) (aM4 _ _ _)

theorem pr_ringAt {h : ZH} {st sl sr t ds dl dr dt ic len un la : Nat} {tb fa pl : Int32} {B R S F I U f1 f2 f3 : Nat → Nat} {v : Nat → Int32} {b : Bool} {x y : Int32} (hI : InvP h st sl sr t ds dl dr dt ic len un la tb fa pl B R S F I U f1 f2 f3 v b) : Pr isI mX11_ringAt mX12_ringAt 4 8 [.int x, .int y] h := by
  have hI0 := hI
  have hq := hI.tq
  obtain ⟨i0, -, i2, -, i4, i5, i6, i7, i8, -, i10, -, -, -, i14, i15⟩ := hI
  obtain ⟨y1, y2, y3, y4, y5, y6, y7⟩ := i14
  obtain ⟨hb, hR, hS, hF, -, -, -, -, hz⟩ := i15
  exact Pr.read hI0 ⟨_, rfl⟩ ((tX11_ringAt i0 i5 hR hS).kq i6 i7) (fun h1 a b c d e => tX12_ringAt a b c e hR hS y4 hb) (aRAt4 _ _ _ _)

theorem pr_apart {h : ZH} {st sl sr t ds dl dr dt ic len un la : Nat} {tb fa pl : Int32} {B R S F I U f1 f2 f3 : Nat → Nat} {v : Nat → Int32} {b : Bool} {x y : Int32} (hI : InvP h st sl sr t ds dl dr dt ic len un la tb fa pl B R S F I U f1 f2 f3 v b) : Pr isI mX11_apart mX12_apart 3 3 [.int x, .int y] h := by
  have hI0 := hI
  have hq := hI.tq
  obtain ⟨i0, -, i2, -, i4, i5, i6, i7, i8, -, i10, -, -, -, i14, i15⟩ := hI
  obtain ⟨y1, y2, y3, y4, y5, y6, y7⟩ := i14
  obtain ⟨hb, hR, hS, hF, -, -, -, -, hz⟩ := i15
  exact Pr.read hI0 ⟨_, rfl⟩ ((tX11_apart i0 i5 hR hS).kq i6 i7) (fun h1 a b c d e => (tX12_apart a b c hR hS y4 hb).mq e) (aApart4 _ _ _)

theorem pr_next {h : ZH} {st sl sr t ds dl dr dt ic len un la : Nat} {tb fa pl : Int32} {B R S F I U f1 f2 f3 : Nat → Nat} {v : Nat → Int32} {b : Bool} {x y : Int32} (hI : InvP h st sl sr t ds dl dr dt ic len un la tb fa pl B R S F I U f1 f2 f3 v b) : Pr isI mX11_next mX12_next 4 3 [.int x, .int y] h := by
  have hI0 := hI
  have hq := hI.tq
  obtain ⟨i0, -, i2, -, i4, i5, i6, i7, i8, -, i10, -, -, -, i14, i15⟩ := hI
  obtain ⟨y1, y2, y3, y4, y5, y6, y7⟩ := i14
  obtain ⟨hb, hR, hS, hF, -, -, -, -, hz⟩ := i15
  exact Pr.read hI0 ⟨_, rfl⟩ ((tX11_next i0 i5 hR hS).kq i6 i7) (fun h1 a b c d e => (tX12_next a b c hR hS y4 hb).mq e) (aMP4 _ _ _ _)

theorem pr_unseen {h : ZH} {st sl sr t ds dl dr dt ic len un la : Nat} {tb fa pl : Int32} {B R S F I U f1 f2 f3 : Nat → Nat} {v : Nat → Int32} {b : Bool} {x y : Int32} (hI : InvP h st sl sr t ds dl dr dt ic len un la tb fa pl B R S F I U f1 f2 f3 v b) : Pr isI mX11_unseen mX12_unseen 4 4 [.int x, .int y] h := by
  have hI0 := hI
  have hq := hI.tq
  obtain ⟨i0, -, i2, -, i4, i5, i6, i7, i8, -, i10, -, -, -, i14, i15⟩ := hI
  obtain ⟨y1, y2, y3, y4, y5, y6, y7⟩ := i14
  obtain ⟨hb, hR, hS, hF, -, -, -, -, hz⟩ := i15
  exact Pr.read hI0 ⟨_, rfl⟩ ((tX11_unseen i0 i5 hR hS).kq i6 i7) (fun h1 a b c d e => (tX12_unseen a b c hR hS y4 hb).mq e) (aMP4 _ _ _ _)

theorem pr_cut {h : ZH} {st sl sr t ds dl dr dt ic len un la : Nat} {tb fa pl : Int32} {B R S F I U f1 f2 f3 : Nat → Nat} {v : Nat → Int32} {b : Bool} {x y : Int32} (hI : InvP h st sl sr t ds dl dr dt ic len un la tb fa pl B R S F I U f1 f2 f3 v b) : Pr isI mX11_cut mX12_cut 4 3 [.int x, .int y] h := by
  have hI0 := hI
  have hq := hI.tq
  obtain ⟨i0, -, i2, -, i4, i5, i6, i7, i8, -, i10, -, -, -, i14, i15⟩ := hI
  obtain ⟨y1, y2, y3, y4, y5, y6, y7⟩ := i14
  obtain ⟨hb, hR, hS, hF, -, -, -, -, hz⟩ := i15
  exact Pr.read hI0 ⟨_, rfl⟩ ((tX11_cut i0 i5 hR hS).kq i6 i7) (fun h1 a b c d e => (tX12_cut a b c hR hS y4 hb).mq e) (aMP4 _ _ _ _)

theorem pr_fits {h : ZH} {st sl sr t ds dl dr dt ic len un la : Nat} {tb fa pl : Int32} {B R S F I U f1 f2 f3 : Nat → Nat} {v : Nat → Int32} {b : Bool} {x : Int32} (hI : InvP h st sl sr t ds dl dr dt ic len un la tb fa pl B R S F I U f1 f2 f3 v b) : Pr isI mX11_fits mX12_fits 4 4 [.int x] h := by
  have hI0 := hI
  have hq := hI.tq
  obtain ⟨i0, -, i2, -, i4, i5, i6, i7, i8, -, i10, -, -, -, i14, i15⟩ := hI
  obtain ⟨y1, y2, y3, y4, y5, y6, y7⟩ := i14
  obtain ⟨hb, hR, hS, hF, -, -, -, -, hz⟩ := i15
  exact Pr.read hI0 ⟨_, rfl⟩ ((tX11_fits i0 i4 hR hF).kq i6 i7) (fun h1 a b c d e => (tX12_fits a b c d hR hS hF y4 hb).mq e) (aS4 _ _ _)

theorem pr_could {h : ZH} {st sl sr t ds dl dr dt ic len un la : Nat} {tb fa pl : Int32} {B R S F I U f1 f2 f3 : Nat → Nat} {v : Nat → Int32} {b : Bool} {x : Int32} (hI : InvP h st sl sr t ds dl dr dt ic len un la tb fa pl B R S F I U f1 f2 f3 v b) : Pr isI mX11_could mX12_could 4 4 [.int x] h := by
  have hI0 := hI
  have hq := hI.tq
  obtain ⟨i0, -, i2, -, i4, i5, i6, i7, i8, -, i10, -, -, -, i14, i15⟩ := hI
  obtain ⟨y1, y2, y3, y4, y5, y6, y7⟩ := i14
  obtain ⟨hb, hR, hS, hF, -, -, -, -, hz⟩ := i15
  exact Pr.read hI0 ⟨_, rfl⟩ ((tX11_could i0 i4 hR hF).kq i6 i7) (fun h1 a b c d e => (tX12_could a b c d hR hS hF y4 hb).mq e) (aS4 _ _ _)

theorem pr_ask {h : ZH} {st sl sr t ds dl dr dt ic len un la : Nat} {tb fa pl : Int32} {B R S F I U f1 f2 f3 : Nat → Nat} {v : Nat → Int32} {b : Bool} {x : Int32} (hI : InvP h st sl sr t ds dl dr dt ic len un la tb fa pl B R S F I U f1 f2 f3 v b) : Pr isI mX11_ask mX12_ask 6 6 [.int x] h := by
  have hI0 := hI
  have hq := hI.tq
  obtain ⟨i0, -, i2, -, i4, i5, i6, i7, i8, -, i10, -, -, -, i14, i15⟩ := hI
  obtain ⟨y1, y2, y3, y4, y5, y6, y7⟩ := i14
  obtain ⟨hb, hR, hS, hF, -, -, -, -, hz⟩ := i15
  exact Pr.read hI0 ⟨_, rfl⟩ ((tX11_ask i0 i4 hR hF).kq i6 i7) (fun h1 a b c d e => (tX12_ask a b c d hR hS hF y4 hb).mq e) (aS4 _ _ _)

theorem pr_askLeaves {h : ZH} {st sl sr t ds dl dr dt ic len un la : Nat} {tb fa pl : Int32} {B R S F I U f1 f2 f3 : Nat → Nat} {v : Nat → Int32} {b : Bool} {x : Int32} (hI : InvP h st sl sr t ds dl dr dt ic len un la tb fa pl B R S F I U f1 f2 f3 v b) : Pr isI mX11_askLeaves mX12_askLeaves 6 6 [.int x] h := by
  have hI0 := hI
  have hq := hI.tq
  obtain ⟨i0, -, i2, -, i4, i5, i6, i7, i8, -, i10, -, -, -, i14, i15⟩ := hI
  obtain ⟨y1, y2, y3, y4, y5, y6, y7⟩ := i14
  obtain ⟨hb, hR, hS, hF, -, -, -, -, hz⟩ := i15
  exact Pr.read hI0 ⟨_, rfl⟩ ((tX11_askLeaves i0 i4 hR hF).kq i6 i7) (fun h1 a b c d e => (tX12_askLeaves a b c d hR hS hF y4 hb).mq e) (aS4 _ _ _)

theorem pr_surely {h : ZH} {st sl sr t ds dl dr dt ic len un la : Nat} {tb fa pl : Int32} {B R S F I U f1 f2 f3 : Nat → Nat} {v : Nat → Int32} {b : Bool} {x : Int32} (hI : InvP h st sl sr t ds dl dr dt ic len un la tb fa pl B R S F I U f1 f2 f3 v b) : Pr isI mX11_surely mX12_surely 5 4 [.int x] h := by
  have hI0 := hI
  have hq := hI.tq
  obtain ⟨i0, -, i2, -, i4, i5, i6, i7, i8, -, i10, -, -, -, i14, i15⟩ := hI
  obtain ⟨y1, y2, y3, y4, y5, y6, y7⟩ := i14
  obtain ⟨hb, hR, hS, hF, -, -, -, -, hz⟩ := i15
  exact Pr.read hI0 ⟨_, rfl⟩ ((tX11_surely i0 i4 hR hF).kq i6 i7) (fun h1 a b c d e => (tX12_surely a b c d hR hS hF y4 hb).mq e) (aS4 _ _ _)

theorem pr_fitAt {h : ZH} {st sl sr t ds dl dr dt ic len un la : Nat} {tb fa pl : Int32} {B R S F I U f1 f2 f3 : Nat → Nat} {v : Nat → Int32} {b : Bool} {x y : Int32} (hI : InvP h st sl sr t ds dl dr dt ic len un la tb fa pl B R S F I U f1 f2 f3 v b) : Pr isI mX11_fitAt mX12_fitAt 4 3 [.int x, .int y] h := by
  have hI0 := hI
  have hq := hI.tq
  obtain ⟨i0, -, i2, -, i4, i5, i6, i7, i8, -, i10, -, -, -, i14, i15⟩ := hI
  obtain ⟨y1, y2, y3, y4, y5, y6, y7⟩ := i14
  obtain ⟨hb, hR, hS, hF, -, -, -, -, hz⟩ := i15
  exact Pr.read hI0 ⟨_, rfl⟩ ((tX11_fitAt i0 i4 hR hF).kq i6 i7) (fun h1 a b c d e => (tX12_fitAt a b c d hR hS hF y4 hb).mq e) (aFitAt4 _ _ _ _)

theorem pr_rests {h : ZH} {st sl sr t ds dl dr dt ic len un la : Nat} {tb fa pl : Int32} {B R S F I U f1 f2 f3 : Nat → Nat} {v : Nat → Int32} {b : Bool} {x : Int32} (hI : InvP h st sl sr t ds dl dr dt ic len un la tb fa pl B R S F I U f1 f2 f3 v b) : Pr isI mX11_rests mX12_rests 3 3 [.int x] h := by
  have hI0 := hI
  have hq := hI.tq
  obtain ⟨i0, -, i2, -, i4, i5, i6, i7, i8, -, i10, -, -, -, i14, i15⟩ := hI
  obtain ⟨y1, y2, y3, y4, y5, y6, y7⟩ := i14
  obtain ⟨hb, hR, hS, hF, -, -, -, -, hz⟩ := i15
  exact Pr.read hI0 ⟨_, rfl⟩ ((tX11_rests i0 i5 hR).kq i6 i7) (fun h1 a b c d e => (tX12_rests a b c hR hS y4 hb).q1 ⟨rfl, mQ_rs e⟩) (aW4 _ _ _)

theorem pr_rest {h : ZH} {st sl sr t ds dl dr dt ic len un la : Nat} {tb fa pl : Int32} {B R S F I U f1 f2 f3 : Nat → Nat} {v : Nat → Int32} {b : Bool} {x : Int32} (hI : InvP h st sl sr t ds dl dr dt ic len un la tb fa pl B R S F I U f1 f2 f3 v b) : Pr isI mX11_rest mX12_rest 3 3 [.int x] h := by
  have hI0 := hI
  have hq := hI.tq
  obtain ⟨i0, -, i2, -, i4, i5, i6, i7, i8, -, i10, -, -, -, i14, i15⟩ := hI
  obtain ⟨y1, y2, y3, y4, y5, y6, y7⟩ := i14
  obtain ⟨hb, hR, hS, hF, -, -, -, -, hz⟩ := i15
  exact Pr.read hI0 ⟨_, rfl⟩ ((tX11_rest i0 i5 hR).kq i6 i7) (fun h1 a b c d e => (tX12_rest a b c hR hS y4 hb).q1 ⟨rfl, mQ_rs e⟩) (aW4 _ _ _)

theorem pr_edge {h : ZH} {st sl sr t ds dl dr dt ic len un la : Nat} {tb fa pl : Int32} {B R S F I U f1 f2 f3 : Nat → Nat} {v : Nat → Int32} {b : Bool} {x : Int32} {k p q9 : Bool} (hI : InvP h st sl sr t ds dl dr dt ic len un la tb fa pl B R S F I U f1 f2 f3 v b) : Pr isI mX11_edge mX12_edge 3 1 [.int x, .int (zb k), .int (zb p), .int (zb q9)] h := by
  have hI0 := hI
  have hq := hI.tq
  obtain ⟨i0, -, i2, -, i4, i5, i6, i7, i8, -, i10, -, -, -, i14, i15⟩ := hI
  obtain ⟨y1, y2, y3, y4, y5, y6, y7⟩ := i14
  obtain ⟨hb, hR, hS, hF, -, -, -, -, hz⟩ := i15
  exact Pr.read hI0 ⟨_, rfl⟩ ((tX11_edge i0 i5 hR).kq i6 i7) (fun h1 a b c d e => (tX12_edge a b c hR hS y4 hb).mq e) (aEdge4 _ _ _ _ _)

theorem pr_breathes {h : ZH} {st sl sr t ds dl dr dt ic len un la : Nat} {tb fa pl : Int32} {B R S F I U f1 f2 f3 : Nat → Nat} {v : Nat → Int32} {b : Bool} {x y : Int32} {lo : Bool} (hI : InvP h st sl sr t ds dl dr dt ic len un la tb fa pl B R S F I U f1 f2 f3 v b) : Pr isJ mX11_breathes mX12_breathes 3 2 [.int x, .int y, .int (zb lo)] h := by
  have hI0 := hI
  have hq := hI.tq
  obtain ⟨i0, -, i2, -, i4, i5, i6, i7, i8, -, i10, -, -, -, i14, i15⟩ := hI
  obtain ⟨y1, y2, y3, y4, y5, y6, y7⟩ := i14
  obtain ⟨hb, hR, hS, hF, -, -, -, -, hz⟩ := i15
  exact Pr.read hI0 ⟨_, rfl⟩ ((tX11_breathes i0 i5 hR hS hq).kq i6 i7) (fun h1 a b c d e => (tX12_breathes a b c hR hS y4 hb).mq e) (aWl4 _ _ _)

theorem pr_silent {h : ZH} {st sl sr t ds dl dr dt ic len un la : Nat} {tb fa pl : Int32} {B R S F I U f1 f2 f3 : Nat → Nat} {v : Nat → Int32} {b : Bool} {x : Int32} {lo : Bool} (hI : InvP h st sl sr t ds dl dr dt ic len un la tb fa pl B R S F I U f1 f2 f3 v b) : Pr isJ mX11_silent mX12_silent 3 2 [.int x, .int (zb lo)] h := by
  have hI0 := hI
  have hq := hI.tq
  obtain ⟨i0, -, i2, -, i4, i5, i6, i7, i8, -, i10, -, -, -, i14, i15⟩ := hI
  obtain ⟨y1, y2, y3, y4, y5, y6, y7⟩ := i14
  obtain ⟨hb, hR, hS, hF, -, -, -, -, hz⟩ := i15
  exact Pr.read hI0 ⟨_, rfl⟩ ((tX11_silent i0 i5 hR hS hq).kq i6 i7) (fun h1 a b c d e => (tX12_silent a b c hR hS y4 hb).mq e) (aWl4 _ _ _)

theorem pr_mean {h : ZH} {st sl sr t ds dl dr dt ic len un la : Nat} {tb fa pl : Int32} {B R S F I U f1 f2 f3 : Nat → Nat} {v : Nat → Int32} {b : Bool} {x : Int32} {lo : Bool} (hI : InvP h st sl sr t ds dl dr dt ic len un la tb fa pl B R S F I U f1 f2 f3 v b) : Pr isJ mX11_mean mX12_mean 3 2 [.int x, .int (zb lo)] h := by
  have hI0 := hI
  have hq := hI.tq
  obtain ⟨i0, -, i2, -, i4, i5, i6, i7, i8, -, i10, -, -, -, i14, i15⟩ := hI
  obtain ⟨y1, y2, y3, y4, y5, y6, y7⟩ := i14
  obtain ⟨hb, hR, hS, hF, -, -, -, -, hz⟩ := i15
  exact Pr.read hI0 ⟨_, rfl⟩ ((tX11_mean i0 i5 hR hS hq).kq i6 i7) (fun h1 a b c d e => (tX12_mean a b c hR hS y4 hb).mq e) (aWl4 _ _ _)

theorem pr_rambles {h : ZH} {st sl sr t ds dl dr dt ic len un la : Nat} {tb fa pl : Int32} {B R S F I U f1 f2 f3 : Nat → Nat} {v : Nat → Int32} {b : Bool} {x y z : Int32} (hI : InvP h st sl sr t ds dl dr dt ic len un la tb fa pl B R S F I U f1 f2 f3 v b) : Pr isI mX11_rambles mX12_rambles 6 6 [.int x, .int y, .int z] h := by
  have hI0 := hI
  have hq := hI.tq
  obtain ⟨i0, -, i2, -, i4, i5, i6, i7, i8, -, i10, -, -, -, i14, i15⟩ := hI
  obtain ⟨y1, y2, y3, y4, y5, y6, y7⟩ := i14
  obtain ⟨hb, hR, hS, hF, -, -, -, -, hz⟩ := i15
  exact Pr.read hI0 ⟨_, rfl⟩ ((tX11_rambles i0 i5 hR hS hq i6).kq i7) (fun h1 a b c d e => tX12_rambles a b c e hR hS y4 hb) (aRm4 _ _ _ _ _)

theorem pr_stands {h : ZH} {st sl sr t ds dl dr dt ic len un la : Nat} {tb fa pl : Int32} {B R S F I U f1 f2 f3 : Nat → Nat} {v : Nat → Int32} {b : Bool} {x y z : Int32} (hI : InvP h st sl sr t ds dl dr dt ic len un la tb fa pl B R S F I U f1 f2 f3 v b) : Pr isI mX11_stands mX12_stands 6 6 [.int x, .int y, .int z] h := by
  have hI0 := hI
  have hq := hI.tq
  obtain ⟨i0, -, i2, -, i4, i5, i6, i7, i8, -, i10, -, -, -, i14, i15⟩ := hI
  obtain ⟨y1, y2, y3, y4, y5, y6, y7⟩ := i14
  obtain ⟨hb, hR, hS, hF, -, -, -, -, hz⟩ := i15
  exact Pr.read hI0 ⟨_, rfl⟩ ((tX11_stands i0 i5 hR hS hq i6).kq i7) (fun h1 a b c d e => tX12_stands a b c e hR hS y4 hb) (aRm4 _ _ _ _ _)

theorem pr_meet {h : ZH} {st sl sr t ds dl dr dt ic len un la : Nat} {tb fa pl : Int32} {B R S F I U f1 f2 f3 : Nat → Nat} {v : Nat → Int32} {b : Bool} {x y : Int32} (hI : InvP h st sl sr t ds dl dr dt ic len un la tb fa pl B R S F I U f1 f2 f3 v b) : Pr isI mX11_meet mX12_meet 6 6 [.int x, .int y] h := by
  have hI0 := hI
  have hq := hI.tq
  obtain ⟨i0, -, i2, -, i4, i5, i6, i7, i8, -, i10, -, -, -, i14, i15⟩ := hI
  obtain ⟨y1, y2, y3, y4, y5, y6, y7⟩ := i14
  obtain ⟨hb, hR, hS, hF, -, -, -, -, hz⟩ := i15
  exact Pr.read hI0 ⟨_, rfl⟩ ((tX11_meet i0 i5 hR hS hq i6).kq i7) (fun h1 a b c d e => tX12_meet a b c e hR hS y4 hb) (aRm4 _ _ _ _ _)

theorem pr_follows {h : ZH} {st sl sr t ds dl dr dt ic len un la : Nat} {tb fa pl : Int32} {B R S F I U f1 f2 f3 : Nat → Nat} {v : Nat → Int32} {b : Bool} {x y z : Int32} (hI : InvP h st sl sr t ds dl dr dt ic len un la tb fa pl B R S F I U f1 f2 f3 v b) : Pr isI mX11_follows mX12_follows 6 6 [.int x, .int y, .int z] h := by
  have hI0 := hI
  have hq := hI.tq
  obtain ⟨i0, -, i2, -, i4, i5, i6, i7, i8, -, i10, -, -, -, i14, i15⟩ := hI
  obtain ⟨y1, y2, y3, y4, y5, y6, y7⟩ := i14
  obtain ⟨hb, hR, hS, hF, -, -, -, -, hz⟩ := i15
  exact Pr.read hI0 ⟨_, rfl⟩ ((tX11_follows i0 i5 hR hS hq i6).kq i7) (fun h1 a b c d e => tX12_follows a b c e hR hS y4 hb) (aFol4 _ _ _ _ _)

theorem pr_lure {h : ZH} {st sl sr t ds dl dr dt ic len un la : Nat} {tb fa pl : Int32} {B R S F I U f1 f2 f3 : Nat → Nat} {v : Nat → Int32} {b : Bool} {x y : Int32} (hI : InvP h st sl sr t ds dl dr dt ic len un la tb fa pl B R S F I U f1 f2 f3 v b) : Pr isI mX11_lure mX12_lure 10 10 [.int x, .int y] h := by
  have hI0 := hI
  have hq := hI.tq
  obtain ⟨i0, -, i2, -, i4, i5, i6, i7, i8, -, i10, -, -, -, i14, i15⟩ := hI
  obtain ⟨y1, y2, y3, y4, y5, y6, y7⟩ := i14
  obtain ⟨hb, hR, hS, hF, -, -, -, -, hz⟩ := i15
  exact Pr.read hI0 ⟨_, rfl⟩ ((tX11_lure i0 i5 hR hS hq i6).kq i7) (fun h1 a b c d e => tX12_lure a b c e hR hS y4 hb) (aKP4 _ _ _ _)

theorem pr_lureRow {h : ZH} {st sl sr t ds dl dr dt ic len un la : Nat} {tb fa pl : Int32} {B R S F I U f1 f2 f3 : Nat → Nat} {v : Nat → Int32} {b : Bool} {x y : Int32} (hI : InvP h st sl sr t ds dl dr dt ic len un la tb fa pl B R S F I U f1 f2 f3 v b) : Pr isI mX11_lureRow mX12_lureRow 10 10 [.int x, .int y] h := by
  have hI0 := hI
  have hq := hI.tq
  obtain ⟨i0, -, i2, -, i4, i5, i6, i7, i8, -, i10, -, -, -, i14, i15⟩ := hI
  obtain ⟨y1, y2, y3, y4, y5, y6, y7⟩ := i14
  obtain ⟨hb, hR, hS, hF, -, -, -, -, hz⟩ := i15
  exact Pr.read hI0 ⟨_, rfl⟩ ((tX11_lureRow i0 i5 hR hS hq i6).kq i7) (fun h1 a b c d e => tX12_lureRow a b c e hR hS y4 hb) (aKP4 _ _ _ _)

theorem pr_lures {h : ZH} {st sl sr t ds dl dr dt ic len un la : Nat} {tb fa pl : Int32} {B R S F I U f1 f2 f3 : Nat → Nat} {v : Nat → Int32} {b : Bool} {x y : Int32} (hI : InvP h st sl sr t ds dl dr dt ic len un la tb fa pl B R S F I U f1 f2 f3 v b) : Pr isI mX11_lures mX12_lures 10 10 [.int x, .int y] h := by
  have hI0 := hI
  have hq := hI.tq
  obtain ⟨i0, -, i2, -, i4, i5, i6, i7, i8, -, i10, -, -, -, i14, i15⟩ := hI
  obtain ⟨y1, y2, y3, y4, y5, y6, y7⟩ := i14
  obtain ⟨hb, hR, hS, hF, -, -, -, -, hz⟩ := i15
  exact Pr.read hI0 ⟨_, rfl⟩ ((tX11_lures i0 i5 hR hS hq i6).kq i7) (fun h1 a b c d e => tX12_lures a b c e hR hS y4 hb) (aW4 _ _ _)

theorem pr_company {h : ZH} {st sl sr t ds dl dr dt ic len un la : Nat} {tb fa pl : Int32} {B R S F I U f1 f2 f3 : Nat → Nat} {v : Nat → Int32} {b : Bool} {x : Int32} (hI : InvP h st sl sr t ds dl dr dt ic len un la tb fa pl B R S F I U f1 f2 f3 v b) : Pr isI mX11_company mX12_company 6 5 [.int x] h := by
  have hI0 := hI
  have hq := hI.tq
  obtain ⟨i0, -, i2, -, i4, i5, i6, i7, i8, -, i10, -, -, -, i14, i15⟩ := hI
  obtain ⟨y1, y2, y3, y4, y5, y6, y7⟩ := i14
  obtain ⟨hb, hR, hS, hF, -, -, -, -, hz⟩ := i15
  obtain ⟨g, hg⟩ := i7.2
  exact Pr.read hI0 ⟨_, rfl⟩ ((tX11_company i0 i5 hR hS i7.1 hg hq).q1 ⟨rfl, zup_same _ _ _, i6.fr ((zup_ne (by decide)).trans (zup_ne (by decide))) ((zup_ne (by decide)).trans (zup_ne (by decide))) ((zup_ne (by decide)).trans (zup_ne (by decide))) ((zup_ne (by decide)).trans (zup_ne (by decide))), ⟨_, (zup_ne (by decide)).trans (zup_same _ _ _)⟩, fun a q1 q2 q3 q4 q5 q6 => (zup_ne q1).trans (zup_ne q6)⟩) (fun h1 a b c d e => (tX12_company a b c hR hS y4 hb).mq e) (aW4 _ _ _)
theorem pr_fault {h : ZH} {st sl sr t ds dl dr dt ic len un la : Nat} {tb fa pl : Int32} {B R S F I U f1 f2 f3 : Nat → Nat} {v : Nat → Int32} {b : Bool} (hI : InvP h st sl sr t ds dl dr dt ic len un la tb fa pl B R S F I U f1 f2 f3 v b) : Pr isI mX11_fault mX12_fault 0 0 [] h := by
  have hI0 := hI
  have hq := hI.tq
  obtain ⟨i0, -, i2, -, i4, i5, i6, i7, i8, -, i10, -, -, -, i14, i15⟩ := hI
  obtain ⟨y1, y2, y3, y4, y5, y6, y7⟩ := i14
  obtain ⟨hb, hR, hS, hF, -, -, -, -, hz⟩ := i15
  exact Pr.tell hI0 (tX11_fault i0) (by have := tX12_fault i10; rw [y2] at this; exact this)
theorem pr_trouble {h : ZH} {st sl sr t ds dl dr dt ic len un la : Nat} {tb fa pl : Int32} {B R S F I U f1 f2 f3 : Nat → Nat} {v : Nat → Int32} {b : Bool} (hI : InvP h st sl sr t ds dl dr dt ic len un la tb fa pl B R S F I U f1 f2 f3 v b) : Pr isI mX11_trouble mX12_trouble 0 0 [] h := by
  have hI0 := hI
  have hq := hI.tq
  obtain ⟨i0, -, i2, -, i4, i5, i6, i7, i8, -, i10, -, -, -, i14, i15⟩ := hI
  obtain ⟨y1, y2, y3, y4, y5, y6, y7⟩ := i14
  obtain ⟨hb, hR, hS, hF, -, -, -, -, hz⟩ := i15
  exact Pr.tell hI0 (tX11_trouble i0) (by have := tX12_trouble i10; rw [y3] at this; exact this)
theorem pr_where {h : ZH} {st sl sr t ds dl dr dt ic len un la : Nat} {tb fa pl : Int32} {B R S F I U f1 f2 f3 : Nat → Nat} {v : Nat → Int32} {b : Bool} (hI : InvP h st sl sr t ds dl dr dt ic len un la tb fa pl B R S F I U f1 f2 f3 v b) : Pr isI mX11_where mX12_where 0 0 [] h := by
  have hI0 := hI
  have hq := hI.tq
  obtain ⟨i0, -, i2, -, i4, i5, i6, i7, i8, -, i10, -, -, -, i14, i15⟩ := hI
  obtain ⟨y1, y2, y3, y4, y5, y6, y7⟩ := i14
  obtain ⟨hb, hR, hS, hF, -, -, -, -, hz⟩ := i15
  have e : (if v 11 = nI 4 then v 10 else -1) = (if tb = nI 4 then pl else -1) := by
    rw [y3]
    split
    · rename_i q
      exact y7 q
    · rfl
  exact Pr.tell hI0 (tX11_where i0) (by have := tX12_where i10; rw [e] at this; exact this)
theorem pr_size {h : ZH} {st sl sr t ds dl dr dt ic len un la : Nat} {tb fa pl : Int32} {B R S F I U f1 f2 f3 : Nat → Nat} {v : Nat → Int32} {b : Bool} {x : Int32} (hI : InvP h st sl sr t ds dl dr dt ic len un la tb fa pl B R S F I U f1 f2 f3 v b) : Pr isI mX11_size mX12_size 0 1 [.int x] h := by
  have i11 : Mo2 h B R F S U I := hI.2.2.2.2.2.2.2.2.2.2.2.1
  have hI0 := hI
  have hq := hI.tq
  obtain ⟨i0, -, i2, -, i4, i5, i6, i7, i8, -, i10, -, -, -, i14, i15⟩ := hI
  obtain ⟨y1, y2, y3, y4, y5, y6, y7⟩ := i14
  obtain ⟨hb, hR, hS, hF, -, -, -, -, hz⟩ := i15
  obtain ⟨⟨a1, a2, a3, ha⟩, ⟨b1, b2, b3, b4, b5, b6, hbb⟩, -⟩ := i2
  refine Pr.tell hI0 (tX11_size i0 i5 i8.1 ha hbb) ?_
  have := tX12_size (w := x) i10 i11.2.2.1 i11.2.2.2.2.2.2.1 y4 (fun q => by obtain ⟨z1, z2, z3, z4⟩ := hz q; exact ⟨z1, z2, by rw [y5, z3]; rfl, by rw [y6, z4]; rfl⟩)
  rw [y1, y5, y6] at this
  exact this
