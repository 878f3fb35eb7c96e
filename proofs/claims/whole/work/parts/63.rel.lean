/-! the two objects, alike -/
def rP (m : gMem) (x t : Nat) : Prop := veq (pgC m (x + 1)) (pgR m t 0) ∧ okC (pgC m (x + 1)) ∧ okB (pgC m (x + 1)) 9999
def rT (m : gMem) (x t : Nat) : Prop := ∃ L, L ≤ 160 ∧ m.1 (x + 21) 1 = nI L ∧ m.1 t 5 = nI L ∧ m.1 (x + 22) = m.1 (t + 3) ∧ ∀ p, p < L → ∃ b, b < 128 ∧ m.1 (t + 3) p = nI b
def rF (m : gMem) (x t : Nat) : Prop := m.1 t 6 = m.1 x 11 ∧ m.1 t 29 = m.1 x 12
def rS (m : gMem) (x t : Nat) : Prop := ∃ s, s ≤ 6 ∧ m.1 (x + 23) 3 = nI s ∧ m.1 t 23 = nI s ∧ ∀ i, i < s → (m.1 (t + 9) (3 * i) = m.1 (x + 24) i ∧ m.1 (t + 9) (3 * i + 1) = m.1 (x + 25) i ∧ m.1 (t + 9) (3 * i + 2) = m.1 (x + 26) i) ∧ (∃ h, h ≤ 40 ∧ m.1 (x + 24) i = nI h) ∧ ∃ j, j < 4 ∧ m.1 (x + 25) i = nI j
def rI (m : gMem) (x t : Nat) : Prop := ∀ j, j < 2 → m.1 (t + 11) j = m.1 (x + 19) j ∧ (¬ m.1 (x + 19) j = 0 → veq (pgC m (x + 70 + 8 * j)) (pgR m t (53 * (j + 1))) ∧ okC (pgC m (x + 70 + 8 * j)) ∧ okB (pgC m (x + 70 + 8 * j)) 9999)
def shE (m : gMem) (x t j : Nat) : Prop := ((m.1 (x + 86 + 2 * j) 2 = -4 ∧ m.1 (t + 12) j = -4) ∨ ∃ a s, a ≤ 2 ∧ s ≤ 40 ∧ m.1 (x + 86 + 2 * j) 2 = nI s ∧ m.1 (t + 13) j = nI s ∧ m.1 (x + 86 + 2 * j) 1 = nI a ∧ m.1 (t + 12) j = nI a) ∧ ∀ i, i < 40 → m.1 (t + 14) (40 * j + i) = m.1 (x + 86 + 2 * j + 1) i
def rH (m : gMem) (x t : Nat) : Prop := ∀ j, j < 4 → shE m x t j
def REL (m : gMem) (x t : Nat) : Prop := rP m x t ∧ rT m x t ∧ rF m x t ∧ rS m x t ∧ rI m x t ∧ rH m x t ∧ okLt m t
theorem pgC_rows {m m' : gMem} {a : Nat} (h : ∀ q, a ≤ q → q < a + 8 → m'.1 q = m.1 q) : pgC m' a = pgC m a := by
  funext i
  by_cases hi : i < 53
  · have := cq_in a i
    rw [pgC_lt hi, pgC_lt hi, h _ this.1 this.2]
  · rw [pgC_0 _ _ i (by omega), pgC_0 _ _ i (by omega)]
theorem pgR_slots {m m' : gMem} {t p : Nat} (h : ∀ r, p ≤ r → r < p + 53 → m'.1 (t + 1) r = m.1 (t + 1) r) : pgR m' t p = pgR m t p := by
  funext i
  by_cases hi : i < 53
  · rw [pgR_lt hi, pgR_lt hi, h _ (by omega) (by omega)]
  · rw [pgR_0 _ _ _ i (by omega), pgR_0 _ _ _ i (by omega)]
section RL
variable {m m' m1 m2 : gMem} {x t : Nat}
theorem rP.cg (h : rP m x t) (h1 : ∀ q, x + 1 ≤ q → q < x + 9 → m'.1 q = m.1 q) (h2 : ∀ r, r < 53 → m'.1 (t + 1) r = m.1 (t + 1) r) : rP m' x t := by
  unfold rP
  rw [pgC_rows (fun q a b => h1 q a (by omega)), pgR_slots (fun r _ b => h2 r (by omega))]
  exact h
theorem rT.cg (h : rT m x t) (h1 : m'.1 (x + 21) 1 = m.1 (x + 21) 1) (h2 : m'.1 (x + 22) = m.1 (x + 22)) (h3 : m'.1 t 5 = m.1 t 5) (h4 : m'.1 (t + 3) = m.1 (t + 3)) : rT m' x t := by
  unfold rT
  rw [h1, h2, h3, h4]
  exact h
theorem rF.cg (h : rF m x t) (h1 : m'.1 x 11 = m.1 x 11) (h2 : m'.1 x 12 = m.1 x 12) (h3 : m'.1 t 6 = m.1 t 6) (h4 : m'.1 t 29 = m.1 t 29) : rF m' x t := by
  unfold rF
  rw [h1, h2, h3, h4]
  exact h
theorem rS.cg (h : rS m x t) (h1 : m'.1 (x + 23) 3 = m.1 (x + 23) 3) (h2 : m'.1 (x + 24) = m.1 (x + 24)) (h3 : m'.1 (x + 25) = m.1 (x + 25)) (h4 : m'.1 (x + 26) = m.1 (x + 26)) (h5 : m'.1 t 23 = m.1 t 23) (h6 : m'.1 (t + 9) = m.1 (t + 9)) : rS m' x t := by
  unfold rS
  rw [h1, h2, h3, h4, h5, h6]
  exact h
theorem rI.cg (h : rI m x t) (h1 : m'.1 (x + 19) = m.1 (x + 19)) (h2 : ∀ q, x + 70 ≤ q → q < x + 86 → m'.1 q = m.1 q) (h3 : m'.1 (t + 11) = m.1 (t + 11)) (h4 : ∀ r, 53 ≤ r → r < 159 → m'.1 (t + 1) r = m.1 (t + 1) r) : rI m' x t := by
  intro j hj
  rw [h1, h3, pgC_rows (m := m) (fun q a b => h2 q (by omega) (by omega)), pgR_slots (m := m) (fun r a b => h4 r (by omega) (by omega))]
  exact h j hj
theorem rH.cg (h : rH m x t) (h1 : ∀ q, x + 86 ≤ q → q < x + 94 → m'.1 q = m.1 q) (h2 : m'.1 (t + 12) = m.1 (t + 12)) (h3 : m'.1 (t + 13) = m.1 (t + 13)) (h4 : m'.1 (t + 14) = m.1 (t + 14)) : rH m' x t := by
  intro j hj
  unfold shE
  rw [h1 (x + 86 + 2 * j) (by omega) (by omega), h1 (x + 86 + 2 * j + 1) (by omega) (by omega), h2, h3, h4]
  exact h j hj
theorem okLt.cg (h : okLt m t) (h1 : m'.1 (t + 4) = m.1 (t + 4)) (h2 : m'.1 (t + 5) = m.1 (t + 5)) : okLt m' t := by
  unfold okLt
  rw [h1, h2]
  exact h
/-- the class's rows that stay, the reference's -/
def rC (x : Nat) (m m' : gMem) : Prop := ∀ q, (q = x ∨ (x + 1 ≤ q ∧ q < x + 9) ∨ q = x + 19 ∨ (x + 21 ≤ q ∧ q < x + 27) ∨ (x + 70 ≤ q ∧ q < x + 94)) → m'.1 q = m.1 q
def rR (t : Nat) (m m' : gMem) : Prop := (∀ r, r = 5 ∨ r = 6 ∨ r = 23 ∨ r = 29 → m'.1 t r = m.1 t r) ∧ (∀ r, r < 159 → m'.1 (t + 1) r = m.1 (t + 1) r) ∧ ∀ q, (q = t + 3 ∨ q = t + 4 ∨ q = t + 5 ∨ q = t + 9 ∨ q = t + 11 ∨ q = t + 12 ∨ q = t + 13 ∨ q = t + 14) → m'.1 q = m.1 q
theorem REL.cg (h : REL m x t) (hC : rC x m m') (hR : rR t m m') : REL m' x t := by
  obtain ⟨a1, a2, a3, a4, a5, a6, a7⟩ := h
  obtain ⟨b1, b2, b3⟩ := hR
  exact ⟨a1.cg (fun q u v => hC q (by omega)) (fun r u => b2 r (by omega)), a2.cg (by rw [hC _ (by omega)]) (hC _ (by omega)) (b1 5 (by omega)) (b3 _ (by omega)), a3.cg (by rw [hC _ (by omega)]) (by rw [hC _ (by omega)]) (b1 6 (by omega)) (b1 29 (by omega)), a4.cg (by rw [hC _ (by omega)]) (hC _ (by omega)) (hC _ (by omega)) (hC _ (by omega)) (b1 23 (by omega)) (b3 _ (by omega)), a5.cg (hC _ (by omega)) (fun q u v => hC q (by omega)) (b3 _ (by omega)) (fun r u v => b2 r (by omega)), a6.cg (fun q u v => hC q (by omega)) (b3 _ (by omega)) (b3 _ (by omega)) (b3 _ (by omega)), a7.cg (b3 _ (by omega)) (b3 _ (by omega))⟩
theorem scr.c (h : scr x m m') : rC x m m' := fun q hq => h q (by omega)
theorem scr.r (h : scr x m m') (ht : x + 94 ≤ t) : rR t m m' := ⟨fun r _ => by rw [h t (by omega)], fun r _ => by rw [h (t + 1) (by omega)], fun q hq => h q (by omega)⟩
theorem rsc.c (h : rsc t m m') (ht : x + 94 ≤ t) : rC x m m' := fun q hq => h.1 q (by omega)
theorem rsc.r (h : rsc t m m') : rR t m m' := ⟨h.2.2, h.2.1, fun q hq => h.1 q (by omega)⟩
theorem REL.sc (h : REL m x t) (ht : x + 94 ≤ t) (h1 : scr x m m1) (h2 : rsc t m1 m2) : REL m2 x t := ((h.cg h1.c (h1.r ht)).cg (h2.c ht) h2.r)
theorem scr.pR (h : scr x m m1) (ht : x + 94 ≤ t) (p : Nat) : pgR m1 t p = pgR m t p := pgR_row (h (t + 1) (by omega)) p
theorem REL.v (h : REL m x t) : veq (pgC m (x + 1)) (pgR m t 0) := h.1.1
theorem REL.oc (h : REL m x t) : okC (pgC m (x + 1)) := h.1.2.1
theorem REL.ob (h : REL m x t) : okB (pgC m (x + 1)) 9999 := h.1.2.2
theorem REL.ok (h : REL m x t) : okN m x := ⟨h.oc, h.ob⟩
theorem REL.om (h : REL m x t) : okM m t := ⟨h.oc.v h.v, h.ob.v h.v⟩
theorem REL.om1 (h : REL m x t) (ht : x + 94 ≤ t) (h1 : scr x m m1) : okM m1 t := by
  unfold okM
  rw [h1.pR ht]
  exact h.om
end RL
/-- both methods answer alike, and the objects stay alike -/
def gPair (E : gEv) (σ : gSg) (m : gMem) (hi x t : Nat) (y1 : MethodName) (c1 : ByteArray) (n1 : Nat) (r1 : Option FieldType) (d1 : Nat) (y2 : MethodName) (c2 : ByteArray) (n2 : Nat) (r2 : Option FieldType) (d2 : Nat) (As : List Value) : Prop := ∃ P, gCo E y1 c1 n1 r1 d1 (.ref x :: As) σ m hi P ∧ ∀ v m1, P v m1 → ∃ z : Int32, v = some (.int z) ∧ gCo E y2 c2 n2 r2 d2 (.ref t :: As) σ m1 hi (fun v2 m2 => v2 = some (.int z) ∧ REL m2 x t)
def gPairL (E : gEv) (σ : gSg) (m : gMem) (hi x t : Nat) (y1 : MethodName) (c1 : ByteArray) (n1 : Nat) (r1 : Option FieldType) (d1 : Nat) (y2 : MethodName) (c2 : ByteArray) (n2 : Nat) (r2 : Option FieldType) (d2 : Nat) (As : List Value) : Prop := ∃ P, gCo E y1 c1 n1 r1 d1 (.ref x :: As) σ m hi P ∧ ∀ v m1, P v m1 → ∃ z : Int64, v = some (.long z) ∧ gCo E y2 c2 n2 r2 d2 (.ref t :: As) σ m1 hi (fun v2 m2 => v2 = some (.long z) ∧ REL m2 x t)
section RP
variable {E : gEv} {σ : gSg} {m : gMem} {hi x t : Nat} {y1 y2 : MethodName} {c1 c2 : ByteArray} {n1 n2 d1 d2 : Nat} {r1 r2 : Option FieldType} {As : List Value}
theorem pair_ro {z : Int32} (h : REL m x t) (ht : x + 94 ≤ t) (h1 : gCo E y1 c1 n1 r1 d1 (.ref x :: As) σ m hi (fun v' m' => v' = some (.int z) ∧ scr x m m')) (h2 : ∀ m1, scr x m m1 → gCo E y2 c2 n2 r2 d2 (.ref t :: As) σ m1 hi (fun v' m' => v' = some (.int z) ∧ rsc t m1 m')) : gPair E σ m hi x t y1 c1 n1 r1 d1 y2 c2 n2 r2 d2 As :=
  ⟨_, h1, fun v m1 hv => ⟨z, hv.1, gCo.wk (h2 m1 hv.2) (fun v2 m2 q => ⟨q.1, h.sc ht hv.2 q.2⟩)⟩⟩
theorem pair_roL {z : Int64} (h : REL m x t) (ht : x + 94 ≤ t) (h1 : gCo E y1 c1 n1 r1 d1 (.ref x :: As) σ m hi (fun v' m' => v' = some (.long z) ∧ scr x m m')) (h2 : ∀ m1, scr x m m1 → gCo E y2 c2 n2 r2 d2 (.ref t :: As) σ m1 hi (fun v' m' => v' = some (.long z) ∧ rsc t m1 m')) : gPairL E σ m hi x t y1 c1 n1 r1 d1 y2 c2 n2 r2 d2 As :=
  ⟨_, h1, fun v m1 hv => ⟨z, hv.1, gCo.wk (h2 m1 hv.2) (fun v2 m2 q => ⟨q.1, h.sc ht hv.2 q.2⟩)⟩⟩
theorem pair_eq {z : Int32} (h : REL m x t) (h1 : gCo E y1 c1 n1 r1 d1 (.ref x :: As) σ m hi (gX (some (.int z)) m)) (h2 : gCo E y2 c2 n2 r2 d2 (.ref t :: As) σ m hi (gX (some (.int z)) m)) : gPair E σ m hi x t y1 c1 n1 r1 d1 y2 c2 n2 r2 d2 As :=
  ⟨_, h1, fun v m1 hv => ⟨z, hv.1, by rw [hv.2]; exact gCo.wk h2 (fun v2 m2 q => ⟨q.1, by rw [q.2]; exact h⟩)⟩⟩
/-- both in their exact words -/
theorem pair_x {z : Int32} {m1 m2 : gMem} (h1 : gCo E y1 c1 n1 r1 d1 (.ref x :: As) σ m hi (gX (some (.int z)) m1)) (h2 : gCo E y2 c2 n2 r2 d2 (.ref t :: As) σ m1 hi (gX (some (.int z)) m2)) (h : REL m2 x t) : gPair E σ m hi x t y1 c1 n1 r1 d1 y2 c2 n2 r2 d2 As :=
  ⟨_, h1, fun v m1' hv => ⟨z, hv.1, by rw [hv.2]; exact gCo.wk h2 (fun v2 m2 q => ⟨q.1, by rw [q.2]; exact h⟩)⟩⟩
theorem pgR_gP (m : gMem) {a t : Nat} (h : a + 8 ≤ t + 1) (g : Nat → Int32) (p : Nat) : pgR (gP m a g) t p = pgR m t p := pgR_row (gP_row (by omega)) p
theorem REL.pg (h : REL m x t) (ht : x + 94 ≤ t) {A A' : Nat → Int32} (hv : veq A A') (hc : okC A) (hb : okB A 9999) (h0 : pg0 A) (h0' : pg0 A') : REL (gQ (gP m (x + 1) A) t 0 A') x t := by
  obtain ⟨a1, a2, a3, a4, a5, a6, a7⟩ := h
  have e1 : ∀ q, q ≠ t + 1 → (q < x + 1 ∨ x + 9 ≤ q) → (gQ (gP m (x + 1) A) t 0 A').1 q = m.1 q := fun q u v => by rw [gQ_row u, gP_row (by omega)]
  have e2 : ∀ r, 53 ≤ r → (gQ (gP m (x + 1) A) t 0 A').1 (t + 1) r = m.1 (t + 1) r := fun r u => by rw [gQ_out (by omega), gP_row (by omega)]
  refine ⟨?_, a2.cg (by rw [e1 _ (by omega) (by omega)]) (e1 _ (by omega) (by omega)) (by rw [e1 _ (by omega) (by omega)]) (e1 _ (by omega) (by omega)), a3.cg (by rw [e1 _ (by omega) (by omega)]) (by rw [e1 _ (by omega) (by omega)]) (by rw [e1 _ (by omega) (by omega)]) (by rw [e1 _ (by omega) (by omega)]), a4.cg (by rw [e1 _ (by omega) (by omega)]) (e1 _ (by omega) (by omega)) (e1 _ (by omega) (by omega)) (e1 _ (by omega) (by omega)) (by rw [e1 _ (by omega) (by omega)]) (e1 _ (by omega) (by omega)), a5.cg (e1 _ (by omega) (by omega)) (fun q u v => e1 q (by omega) (by omega)) (e1 _ (by omega) (by omega)) (fun r u v => e2 r u), a6.cg (fun q u v => e1 q (by omega) (by omega)) (e1 _ (by omega) (by omega)) (e1 _ (by omega) (by omega)) (e1 _ (by omega) (by omega)), a7.cg (e1 _ (by omega) (by omega)) (e1 _ (by omega) (by omega))⟩
  have p1 : pgC (gQ (gP m (x + 1) A) t 0 A') (x + 1) = A := by rw [pgC_rows (m := gP m (x + 1) A) (fun q u v => gQ_row (by omega) _)]; exact pgC_gP h0 m (x + 1)
  unfold rP
  rw [p1, pgR_gQ h0']
  exact ⟨hv, hc, hb⟩
theorem pair_pg {A A' : xP} (h : REL m x t) (ht : x + 94 ≤ t) (hp : pPR A A') (h1 : gCo E y1 c1 n1 r1 d1 (.ref x :: As) σ m hi (gX (some (.int A.1)) (gP m (x + 1) A.2))) (h2 : gCo E y2 c2 n2 r2 d2 (.ref t :: As) σ (gP m (x + 1) A.2) hi (gX (some (.int A'.1)) (gQ (gP m (x + 1) A.2) t 0 A'.2))) : gPair E σ m hi x t y1 c1 n1 r1 d1 y2 c2 n2 r2 d2 As := by
  rw [hp.1] at h2
  exact pair_x h1 h2 (h.pg ht hp.2.1 hp.2.2.1 hp.2.2.2.1 hp.2.2.2.2.1 hp.2.2.2.2.2)
end RP
