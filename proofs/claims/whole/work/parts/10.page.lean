/-! a page: kinds, needs, nerves, heats, frets, wents (4 each), 24 how many, 25 on watchers, 37 on with whom, 49 rows, 50 flow, 51 calm, 52 hour -/
def cq (a i : Nat) : Nat := if i < 24 then a + 4 + i % 4 else if i = 24 then a else if i < 37 then a + 2 else if i < 49 then a + 3 else a
def cr (i : Nat) : Nat := if i < 24 then i / 4 else if i = 24 then 3 else if i < 37 then i - 25 else if i < 49 then i - 37 else if i = 49 then 4 else if i = 50 then 6 else if i = 51 then 7 else 5
def gIxP (a q r : Nat) : Option Nat := if q = a then (if r = 3 then some 24 else if r = 4 then some 49 else if r = 5 then some 52 else if r = 6 then some 50 else if r = 7 then some 51 else none) else if q = a + 2 then (if r < 12 then some (25 + r) else none) else if q = a + 3 then (if r < 12 then some (37 + r) else none) else if a + 4 ≤ q ∧ q < a + 8 then (if r < 6 then some (4 * r + (q - (a + 4))) else none) else none
theorem gIxP_of {a q r i : Nat} (h : gIxP a q r = some i) : i < 53 ∧ q = cq a i ∧ r = cr i := by
  unfold gIxP at h
  by_cases h1 : q = a
  · rw [if_pos h1] at h
    by_cases k3 : r = 3
    · rw [if_pos k3] at h; cases h; exact ⟨by omega, by simp [cq, h1], by simp [cr, k3]⟩
    rw [if_neg k3] at h
    by_cases k4 : r = 4
    · rw [if_pos k4] at h; cases h; exact ⟨by omega, by simp [cq, h1], by simp [cr, k4]⟩
    rw [if_neg k4] at h
    by_cases k5 : r = 5
    · rw [if_pos k5] at h; cases h; exact ⟨by omega, by simp [cq, h1], by simp [cr, k5]⟩
    rw [if_neg k5] at h
    by_cases k6 : r = 6
    · rw [if_pos k6] at h; cases h; exact ⟨by omega, by simp [cq, h1], by simp [cr, k6]⟩
    rw [if_neg k6] at h
    by_cases k7 : r = 7
    · rw [if_pos k7] at h; cases h; exact ⟨by omega, by simp [cq, h1], by simp [cr, k7]⟩
    rw [if_neg k7] at h
    cases h
  rw [if_neg h1] at h
  by_cases h2 : q = a + 2
  · rw [if_pos h2] at h
    by_cases k : r < 12
    · rw [if_pos k] at h; cases h
      refine ⟨by omega, ?_, ?_⟩
      · unfold cq; rw [if_neg (by omega), if_neg (by omega), if_pos (by omega)]; exact h2
      · unfold cr; rw [if_neg (by omega), if_neg (by omega), if_pos (by omega)]; omega
    · rw [if_neg k] at h; cases h
  rw [if_neg h2] at h
  by_cases h3 : q = a + 3
  · rw [if_pos h3] at h
    by_cases k : r < 12
    · rw [if_pos k] at h; cases h
      refine ⟨by omega, ?_, ?_⟩
      · unfold cq; rw [if_neg (by omega), if_neg (by omega), if_neg (by omega), if_pos (by omega)]; exact h3
      · unfold cr; rw [if_neg (by omega), if_neg (by omega), if_neg (by omega), if_pos (by omega)]; omega
    · rw [if_neg k] at h; cases h
  rw [if_neg h3] at h
  by_cases h4 : a + 4 ≤ q ∧ q < a + 8
  · rw [if_pos h4] at h
    by_cases k : r < 6
    · rw [if_pos k] at h; cases h
      refine ⟨by omega, ?_, ?_⟩
      · unfold cq; rw [if_pos (by omega)]; omega
      · unfold cr; rw [if_pos (by omega)]; omega
    · rw [if_neg k] at h; cases h
  · rw [if_neg h4] at h; cases h
theorem gIxP_at (a : Nat) {i : Nat} (h : i < 53) : gIxP a (cq a i) (cr i) = some i := by
  by_cases h1 : i < 24
  · have e1 : cq a i = a + 4 + i % 4 := if_pos h1
    have e2 : cr i = i / 4 := if_pos h1
    rw [e1, e2]
    unfold gIxP
    rw [if_neg (by omega), if_neg (by omega), if_neg (by omega), if_pos (by omega), if_pos (by omega)]
    congr 1
    omega
  by_cases h2 : i = 24
  · subst h2; simp [cq, cr, gIxP]
  by_cases h3 : i < 37
  · have e1 : cq a i = a + 2 := by unfold cq; rw [if_neg h1, if_neg h2, if_pos h3]
    have e2 : cr i = i - 25 := by unfold cr; rw [if_neg h1, if_neg h2, if_pos h3]
    rw [e1, e2]
    unfold gIxP
    rw [if_neg (by omega), if_pos rfl, if_pos (by omega)]
    congr 1
    omega
  by_cases h4 : i < 49
  · have e1 : cq a i = a + 3 := by unfold cq; rw [if_neg h1, if_neg h2, if_neg h3, if_pos h4]
    have e2 : cr i = i - 37 := by unfold cr; rw [if_neg h1, if_neg h2, if_neg h3, if_pos h4]
    rw [e1, e2]
    unfold gIxP
    rw [if_neg (by omega), if_neg (by omega), if_pos rfl, if_pos (by omega)]
    congr 1
    omega
  have h5 : i = 49 ∨ i = 50 ∨ i = 51 ∨ i = 52 := by omega
  rcases h5 with rfl | rfl | rfl | rfl <;> simp [cq, cr, gIxP]
def pgC (m : gMem) (a : Nat) : Nat → Int32 := fun i => if i < 53 then m.1 (cq a i) (cr i) else 0
def gP (m : gMem) (a : Nat) (g : Nat → Int32) : gMem := (fun q r => match gIxP a q r with | some i => g i | none => m.1 q r, m.2)
def pg0 (g : Nat → Int32) : Prop := ∀ i, 53 ≤ i → g i = 0
theorem gP_some {m : gMem} {a q r i : Nat} {g : Nat → Int32} (h : gIxP a q r = some i) : (gP m a g).1 q r = g i := by
  show (match gIxP a q r with | some i => g i | none => m.1 q r) = g i
  rw [h]
theorem gP_none {m : gMem} {a q r : Nat} {g : Nat → Int32} (h : gIxP a q r = none) : (gP m a g).1 q r = m.1 q r := by
  show (match gIxP a q r with | some i => g i | none => m.1 q r) = m.1 q r
  rw [h]
theorem pgC_0 (m : gMem) (a : Nat) : pg0 (pgC m a) := fun i h => if_neg (by omega)
theorem pgC_lt {m : gMem} {a i : Nat} (h : i < 53) : pgC m a i = m.1 (cq a i) (cr i) := if_pos h
theorem pgC_gP {g : Nat → Int32} (h0 : pg0 g) (m : gMem) (a : Nat) : pgC (gP m a g) a = g := by
  funext i
  by_cases h : i < 53
  · rw [pgC_lt h, gP_some (gIxP_at a h)]
  · rw [pgC_0 _ _ i (by omega), h0 i (by omega)]
theorem gP_pgC (m : gMem) (a : Nat) : gP m a (pgC m a) = m := by
  apply gMem_ext
  · intro q r
    cases h : gIxP a q r with
    | none => exact gP_none h
    | some i =>
      obtain ⟨h1, h2, h3⟩ := gIxP_of h
      rw [gP_some h, pgC_lt h1, ← h2, ← h3]
  · rfl
theorem gP_gP (m : gMem) (a : Nat) (g g' : Nat → Int32) : gP (gP m a g) a g' = gP m a g' := by
  apply gMem_ext
  · intro q r
    cases h : gIxP a q r with
    | none => rw [gP_none h, gP_none h, gP_none h]
    | some i => rw [gP_some h, gP_some h]
  · rfl
theorem gW_gP {m : gMem} {a q r i : Nat} {g : Nat → Int32} (h : gIxP a q r = some i) (x : Int32) : gW (gP m a g) q r x = gP m a (upd g i x) := by
  apply gMem_ext
  · intro q' r'
    rw [gW_1]
    by_cases hq : q' = q ∧ r' = r
    · rw [if_pos hq, hq.1, hq.2, gP_some h, pk_us]
    · rw [if_neg hq]
      cases h' : gIxP a q' r' with
      | none => rw [gP_none h', gP_none h']
      | some j =>
        rw [gP_some h', gP_some h', pk_un]
        intro e
        subst e
        obtain ⟨-, a1, a2⟩ := gIxP_of h
        obtain ⟨-, b1, b2⟩ := gIxP_of h'
        exact hq ⟨by rw [a1, b1], by rw [a2, b2]⟩
  · rfl
theorem gW_pg {m : gMem} {a q r i : Nat} (h : gIxP a q r = some i) (x : Int32) : gW m q r x = gP m a (upd (pgC m a) i x) := by
  rw [← gW_gP h x, gP_pgC]
theorem gIxP_n3 (a : Nat) : gIxP a a 3 = some 24 := by simp [gIxP]
theorem gIxP_n4 (a : Nat) : gIxP a a 4 = some 49 := by simp [gIxP]
theorem gIxP_n5 (a : Nat) : gIxP a a 5 = some 52 := by simp [gIxP]
theorem gIxP_n6 (a : Nat) : gIxP a a 6 = some 50 := by simp [gIxP]
theorem gIxP_n7 (a : Nat) : gIxP a a 7 = some 51 := by simp [gIxP]
theorem gIxP_w (a : Nat) {r : Nat} (h : r < 12) : gIxP a (a + 2) r = some (25 + r) := by simp [gIxP, h]
theorem gIxP_c (a : Nat) {r : Nat} (h : r < 12) : gIxP a (a + 3) r = some (37 + r) := by simp [gIxP, h]
theorem gIxP_v (a : Nat) {j r : Nat} (hj : j < 4) (h : r < 6) : gIxP a (a + 4 + j) r = some (4 * r + j) := by
  unfold gIxP
  rw [if_neg (by omega), if_neg (by omega), if_neg (by omega), if_pos (by omega), if_pos h]
  congr 1
  omega
theorem gIxP_out {a q r : Nat} (h : q < a ∨ a + 8 ≤ q) : gIxP a q r = none := by
  unfold gIxP
  rw [if_neg (by omega), if_neg (by omega), if_neg (by omega), if_neg (by omega)]
theorem pg_3 (m : gMem) (a : Nat) : m.1 a 3 = pgC m a 24 := by simp [pgC, cq, cr]
theorem pg_4 (m : gMem) (a : Nat) : m.1 a 4 = pgC m a 49 := by simp [pgC, cq, cr]
theorem pg_5 (m : gMem) (a : Nat) : m.1 a 5 = pgC m a 52 := by simp [pgC, cq, cr]
theorem pg_6 (m : gMem) (a : Nat) : m.1 a 6 = pgC m a 50 := by simp [pgC, cq, cr]
theorem pg_7 (m : gMem) (a : Nat) : m.1 a 7 = pgC m a 51 := by simp [pgC, cq, cr]
theorem pg_w (m : gMem) (a : Nat) {r : Nat} (h : r < 12) : m.1 (a + 2) r = pgC m a (25 + r) := by
  have e := gIxP_of (gIxP_w a h)
  rw [pgC_lt e.1, ← e.2.1, ← e.2.2]
theorem pg_c (m : gMem) (a : Nat) {r : Nat} (h : r < 12) : m.1 (a + 3) r = pgC m a (37 + r) := by
  have e := gIxP_of (gIxP_c a h)
  rw [pgC_lt e.1, ← e.2.1, ← e.2.2]
theorem pg_v (m : gMem) (a : Nat) {j r : Nat} (hj : j < 4) (h : r < 6) : m.1 (a + 4 + j) r = pgC m a (4 * r + j) := by
  have e := gIxP_of (gIxP_v a hj h)
  rw [pgC_lt e.1, ← e.2.1, ← e.2.2]
/-- two pages that lie apart -/
def gAp (a b : Nat) : Prop := a + 8 ≤ b ∨ b + 8 ≤ a
theorem cq_in (a i : Nat) : a ≤ cq a i ∧ cq a i < a + 8 := by
  unfold cq
  by_cases h1 : i < 24
  · rw [if_pos h1]; omega
  rw [if_neg h1]
  by_cases h2 : i = 24
  · rw [if_pos h2]; omega
  rw [if_neg h2]
  by_cases h3 : i < 37
  · rw [if_pos h3]; omega
  rw [if_neg h3]
  by_cases h4 : i < 49
  · rw [if_pos h4]; omega
  · rw [if_neg h4]; omega
theorem pgC_ne {a b : Nat} (h : gAp a b) (m : gMem) (g : Nat → Int32) : pgC (gP m a g) b = pgC m b := by
  funext i
  by_cases hi : i < 53
  · rw [pgC_lt hi, pgC_lt hi, gP_none]
    have := cq_in b i
    unfold gAp at h
    exact gIxP_out (by omega)
  · rw [pgC_0 _ _ i (by omega), pgC_0 _ _ i (by omega)]
theorem gP_comm {a b : Nat} (h : gAp a b) (m : gMem) (g g' : Nat → Int32) : gP (gP m a g) b g' = gP (gP m b g') a g := by
  apply gMem_ext
  · intro q r
    unfold gAp at h
    by_cases ha : q < a ∨ a + 8 ≤ q
    · rw [gP_none (a := a) (m := gP m b g') (gIxP_out ha)]
      cases hb : gIxP b q r with
      | none => rw [gP_none hb, gP_none hb, gP_none (gIxP_out ha)]
      | some i => rw [gP_some hb, gP_some hb]
    · have hb : q < b ∨ b + 8 ≤ q := by omega
      rw [gP_none (a := b) (gIxP_out hb)]
      cases ha' : gIxP a q r with
      | none => rw [gP_none ha', gP_none ha', gP_none (gIxP_out hb)]
      | some i => rw [gP_some ha', gP_some ha']
  · rfl
/-! an hour on a page -/
def cnt (g : Nat → Int32) : Nat := (g 24).toNatClampNeg
def sShr (g : Nat → Int32) (v : Nat) : Int32 := g 50 / g 24 + (if nI v < g 50 - g 50 / g 24 * g 24 then 1 else 0)
def vH (g : Nat → Int32) (v : Nat) : Int32 := sHeat (g (12 + v)) (sShr g v)
def vF (g : Nat → Int32) (w c : Int32) (v : Nat) : Int32 := sFret (g v) (g (8 + v)) (g (16 + v)) w (if nI v = c then g 51 else 0)
def vU (g : Nat → Int32) (w c : Int32) (v : Nat) : Prop := g (4 + v) + vF g w c v ≤ vH g v
def vX (g : Nat → Int32) (w c : Int32) (v k : Nat) : Int32 := if g (4 + v) + vF g w c v ≤ vH g v then (if k = 3 then 0 else if k = 4 then 0 else g (20 + v) + 1) else (if k = 3 then vH g v else if k = 4 then vF g w c v else g (20 + v))
def hrJ (j : Nat) (g : Nat → Int32) (w c : Int32) : Nat → Int32 := fun i => if 12 ≤ i ∧ i < 24 ∧ i % 4 < j then vX g w c (i % 4) (i / 4) else g i
def hr (g : Nat → Int32) (w c : Int32) : Nat → Int32 := upd (hrJ (cnt g) g w c) 52 (g 52 + 1)
def hrUj (g : Nat → Int32) (w c : Int32) : Nat → Int32
  | 0 => 0
  | j + 1 => if g (4 + j) + vF g w c j ≤ vH g j then hrUj g w c j ||| (1 <<< (nI j &&& 31)) else hrUj g w c j
def hrU (g : Nat → Int32) (w c : Int32) : Int32 := hrUj g w c (cnt g)
theorem hrJ_0 (g : Nat → Int32) (w c : Int32) : hrJ 0 g w c = g := by
  funext i
  exact if_neg (by omega)
theorem hrJ_ge {j : Nat} {g : Nat → Int32} {w c : Int32} {i : Nat} (h : i < 12 ∨ 24 ≤ i) : hrJ j g w c i = g i := if_neg (by omega)
theorem hrJ_own {j : Nat} {g : Nat → Int32} {w c : Int32} {i : Nat} (h : j ≤ i % 4) : hrJ j g w c i = g i := if_neg (by omega)
theorem hrJ_succ {j : Nat} (hj : j < 4) (g : Nat → Int32) (w c : Int32) : hrJ (j + 1) g w c = upd (upd (upd (hrJ j g w c) (12 + j) (vX g w c j 3)) (16 + j) (vX g w c j 4)) (20 + j) (vX g w c j 5) := by
  funext i
  by_cases h5 : i = 20 + j
  · subst h5; rw [pk_us]; unfold hrJ; rw [if_pos (by omega), show (20 + j) % 4 = j by omega, show (20 + j) / 4 = 5 by omega]
  rw [pk_un h5]
  by_cases h4 : i = 16 + j
  · subst h4; rw [pk_us]; unfold hrJ; rw [if_pos (by omega), show (16 + j) % 4 = j by omega, show (16 + j) / 4 = 4 by omega]
  rw [pk_un h4]
  by_cases h3 : i = 12 + j
  · subst h3; rw [pk_us]; unfold hrJ; rw [if_pos (by omega), show (12 + j) % 4 = j by omega, show (12 + j) / 4 = 3 by omega]
  rw [pk_un h3]
  unfold hrJ
  by_cases h : 12 ≤ i ∧ i < 24 ∧ i % 4 < j
  · rw [if_pos h, if_pos (by omega)]
  · rw [if_neg h, if_neg (by omega)]
theorem hr_0 {g : Nat → Int32} (h : pg0 g) (w c : Int32) : pg0 (hr g w c) := by
  intro i hi
  unfold hr
  rw [pk_un (by omega), hrJ_ge (by omega)]
  exact h i hi
theorem upd_0 {g : Nat → Int32} (h : pg0 g) {k : Nat} (hk : k < 53) (x : Int32) : pg0 (upd g k x) := by
  intro i hi
  rw [pk_un (by omega)]
  exact h i hi
