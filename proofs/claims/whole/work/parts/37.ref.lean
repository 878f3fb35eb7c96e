/-! the reference: its object, its pages -/
def gR (σ : gSg) (t : Nat) : Prop := σ t = some (.inl (7, [some (.ref (t + 1)), some (.ref (t + 2)), none, none, some (.ref (t + 3)), none, none, none, none, none, none, none, none, some (.ref (t + 4)), some (.ref (t + 5)), none, none, none, some (.ref (t + 6)), some (.ref (t + 7)), some (.ref (t + 8)), none, some (.ref (t + 9)), none, some (.ref (t + 10)), some (.ref (t + 11)), some (.ref (t + 12)), some (.ref (t + 13)), some (.ref (t + 14)), none])) ∧ σ (t + 1) = some (.inr (0, 318, fun _ => none)) ∧ σ (t + 2) = some (.inr (0, 53, fun _ => none)) ∧ σ (t + 3) = some (.inr (0, 160, fun _ => none)) ∧ σ (t + 4) = some (.inr (0, 8, fun _ => none)) ∧ σ (t + 5) = some (.inr (0, 30, fun _ => none)) ∧ σ (t + 6) = some (.inr (0, 4, fun _ => none)) ∧ σ (t + 7) = some (.inr (0, 4, fun _ => none)) ∧ σ (t + 8) = some (.inr (0, 4, fun _ => none)) ∧ σ (t + 9) = some (.inr (0, 18, fun _ => none)) ∧ σ (t + 10) = some (.inr (0, 410, fun _ => none)) ∧ σ (t + 11) = some (.inr (2, 2, fun _ => none)) ∧ σ (t + 12) = some (.inr (0, 4, fun _ => none)) ∧ σ (t + 13) = some (.inr (0, 4, fun _ => none)) ∧ σ (t + 14) = some (.inr (0, 160, fun _ => none))
def aj (i : Nat) : Int32 := if i = 50 then 8 else if i = 51 then 4 else 0
def pgR (m : gMem) (t p : Nat) : Nat → Int32 := fun i => if i < 53 then m.1 (t + 1) (p + i) + aj i else 0
def gQ (m : gMem) (t p : Nat) (g : Nat → Int32) : gMem := (fun q r => if q = t + 1 ∧ p ≤ r ∧ r < p + 53 then g (r - p) - aj (r - p) else m.1 q r, m.2)
theorem pgR_lt {m : gMem} {t p i : Nat} (h : i < 53) : pgR m t p i = m.1 (t + 1) (p + i) + aj i := if_pos h
theorem pgR_0 (m : gMem) (t p : Nat) : pg0 (pgR m t p) := fun i h => if_neg (by omega)
theorem aj0 {i : Nat} (h1 : i ≠ 50) (h2 : i ≠ 51) : aj i = 0 := by unfold aj; rw [if_neg h1, if_neg h2]
theorem i_s0 (x : Int32) : x - 0 = x := by rw [Int32.sub_eq_add_neg, Int32.neg_zero, Int32.add_zero]
theorem gQ_in {m : gMem} {t p i : Nat} (h : i < 53) (g : Nat → Int32) : (gQ m t p g).1 (t + 1) (p + i) = g i - aj i := by
  show (if t + 1 = t + 1 ∧ p ≤ p + i ∧ p + i < p + 53 then g (p + i - p) - aj (p + i - p) else m.1 (t + 1) (p + i)) = _
  rw [if_pos (by omega), show p + i - p = i by omega]
theorem gQ_i {m : gMem} {t p i : Nat} (h : i < 50 ∨ i = 52) (g : Nat → Int32) : (gQ m t p g).1 (t + 1) (p + i) = g i := by rw [gQ_in (by omega), aj0 (by omega) (by omega), i_s0]
theorem gQ_out {m : gMem} {t p q r : Nat} (h : q ≠ t + 1 ∨ r < p ∨ p + 53 ≤ r) (g : Nat → Int32) : (gQ m t p g).1 q r = m.1 q r := if_neg (by omega)
theorem gQ_row {m : gMem} {t p q : Nat} (h : q ≠ t + 1) (g : Nat → Int32) : (gQ m t p g).1 q = m.1 q := funext fun r => gQ_out (Or.inl h) g
theorem pgR_gQ {g : Nat → Int32} (h0 : pg0 g) (m : gMem) (t p : Nat) : pgR (gQ m t p g) t p = g := by
  funext i
  by_cases h : i < 53
  · rw [pgR_lt h, gQ_in h, Int32.sub_add_cancel]
  · rw [pgR_0 _ _ _ i (by omega), h0 i (by omega)]
theorem gQ_pgR (m : gMem) (t p : Nat) : gQ m t p (pgR m t p) = m := by
  apply gMem_ext
  · intro q r
    by_cases h : q = t + 1 ∧ p ≤ r ∧ r < p + 53
    · obtain ⟨rfl, h1, h2⟩ := h
      obtain ⟨i, rfl⟩ : ∃ i, r = p + i := ⟨r - p, by omega⟩
      rw [gQ_in (by omega), pgR_lt (by omega), Int32.add_sub_cancel]
    · exact gQ_out (by omega) _
  · rfl
theorem gQ_gQ (m : gMem) (t p : Nat) (g g' : Nat → Int32) : gQ (gQ m t p g) t p g' = gQ m t p g' := by
  apply gMem_ext
  · intro q r
    by_cases h : q = t + 1 ∧ p ≤ r ∧ r < p + 53
    · obtain ⟨rfl, h1, h2⟩ := h
      obtain ⟨i, rfl⟩ : ∃ i, r = p + i := ⟨r - p, by omega⟩
      rw [gQ_in (by omega), gQ_in (by omega)]
    · rw [gQ_out (by omega), gQ_out (by omega), gQ_out (by omega)]
  · rfl
theorem gW_gQ {m : gMem} {t p i : Nat} (h : i < 53) (g : Nat → Int32) (v : Int32) : gW (gQ m t p g) (t + 1) (p + i) v = gQ m t p (upd g i (v + aj i)) := by
  apply gMem_ext
  · intro q r
    rw [gW_1]
    by_cases hq : q = t + 1 ∧ r = p + i
    · rw [if_pos hq, hq.1, hq.2, gQ_in h, pk_us, Int32.add_sub_cancel]
    · rw [if_neg hq]
      by_cases h' : q = t + 1 ∧ p ≤ r ∧ r < p + 53
      · obtain ⟨rfl, h1, h2⟩ := h'
        obtain ⟨j, rfl⟩ : ∃ j, r = p + j := ⟨r - p, by omega⟩
        rw [gQ_in (by omega), gQ_in (by omega), pk_un (by omega)]
      · rw [gQ_out (by omega), gQ_out (by omega)]
  · rfl
theorem i_a0 (x : Int32) : x + 0 = x := Int32.add_zero x
theorem gW_gQi {m : gMem} {t p i : Nat} (h : i < 50 ∨ i = 52) (g : Nat → Int32) (v : Int32) : gW (gQ m t p g) (t + 1) (p + i) v = gQ m t p (upd g i v) := by rw [gW_gQ (by omega), aj0 (by omega) (by omega), i_a0]
theorem gW_rg {m : gMem} {t p i : Nat} (h : i < 53) (v : Int32) : gW m (t + 1) (p + i) v = gQ m t p (upd (pgR m t p) i (v + aj i)) := by
  rw [← gW_gQ h, gQ_pgR]
theorem gW_rgi {m : gMem} {t p i : Nat} (h : i < 50 ∨ i = 52) (v : Int32) : gW m (t + 1) (p + i) v = gQ m t p (upd (pgR m t p) i v) := by rw [gW_rg (by omega), aj0 (by omega) (by omega), i_a0]
theorem rg_i (m : gMem) (t p : Nat) {i : Nat} (h : i < 50 ∨ i = 52) : m.1 (t + 1) (p + i) = pgR m t p i := by rw [pgR_lt (by omega), aj0 (by omega) (by omega), i_a0]
theorem pgR_ne {t p p' : Nat} (h : p + 53 ≤ p' ∨ p' + 53 ≤ p) (m : gMem) (g : Nat → Int32) : pgR (gQ m t p g) t p' = pgR m t p' := by
  funext i
  by_cases hi : i < 53
  · rw [pgR_lt hi, pgR_lt hi, gQ_out (by omega)]
  · rw [pgR_0 _ _ _ i (by omega), pgR_0 _ _ _ i (by omega)]
theorem gQ_comm {t p p' : Nat} (h : p + 53 ≤ p' ∨ p' + 53 ≤ p) (m : gMem) (g g' : Nat → Int32) : gQ (gQ m t p g) t p' g' = gQ (gQ m t p' g') t p g := by
  apply gMem_ext
  · intro q r
    by_cases h1 : q = t + 1 ∧ p ≤ r ∧ r < p + 53
    · obtain ⟨rfl, a, b⟩ := h1
      obtain ⟨i, rfl⟩ : ∃ i, r = p + i := ⟨r - p, by omega⟩
      rw [gQ_out (by omega), gQ_in (by omega), gQ_in (by omega)]
    · rw [gQ_out (m := gQ m t p' g') (by omega)]
      by_cases h2 : q = t + 1 ∧ p' ≤ r ∧ r < p' + 53
      · obtain ⟨rfl, a, b⟩ := h2
        obtain ⟨i, rfl⟩ : ∃ i, r = p' + i := ⟨r - p', by omega⟩
        rw [gQ_in (by omega), gQ_in (by omega)]
      · rw [gQ_out (by omega), gQ_out (by omega), gQ_out (by omega)]
  · rfl
/-! small methods -/
theorem lgc_le (x y : Int64) : ¬ lg_cmp x y < 0 ↔ y ≤ x := by rw [lgc_lt]; exact Int64.not_lt
theorem i2l_le (a b : Int32) : a.toInt64 ≤ b.toInt64 ↔ a ≤ b := by rw [Int64.le_iff_toInt_le, Int32.toInt_toInt64, Int32.toInt_toInt64, Int32.le_iff_toInt_le]
theorem cM_in (E : gEv) (σ : gSg) (m : gMem) (hi : Nat) (v lo hig : Int64) : gCo E yX7_in cX7_in 6 (some .boolean) 0 [.long v, .long lo, .long hig] σ m hi (gX (some (.int (if lo ≤ v ∧ v ≤ hig then 1 else 0))) m) := by
  refine gCo.of mwX7_in (Nat.le_of_ble_eq_true rfl) ?_
  intro F hF
  refine j_lload_n (q := 1) dX7_in_0 rfl (by rfl) ?_
  refine j_lload_n (q := 2) dX7_in_1 rfl (by rfl) ?_
  refine j_lcmp (q := 3) dX7_in_2 rfl ?_
  refine j_if_lt (q := 6) (tgt := 17) dX7_in_3 rfl (by decide) (fun h3 => ?_) (fun h3 => ?_)
  · refine j_iconst (q := 18) (v := 0) dX7_in_17 rfl (by decide) ?_
    refine o_zret hF rfl dX7_in_18 (by first | assumption | exact Or.inl rfl | exact Or.inr rfl) ?_
    first | (rw [if_pos ⟨(lgc_le _ _).mp h3, Int64.not_lt.mp (fun q => h10 ((lgc_gt _ _).mpr q))⟩]; exact ⟨rfl, rfl⟩) | (rw [if_neg (fun q => Int64.not_lt.mpr q.1 ((lgc_lt _ _).mp h3))]; exact ⟨rfl, rfl⟩) | (rw [if_neg (fun q => Int64.not_lt.mpr q.2 ((lgc_gt _ _).mp h10))]; exact ⟨rfl, rfl⟩)
  · refine j_lload_n (q := 7) dX7_in_6 rfl (by rfl) ?_
    refine j_lload (q := 9) dX7_in_7 rfl (by rfl) ?_
    refine j_lcmp (q := 10) dX7_in_9 rfl ?_
    refine j_if_gt (q := 13) (tgt := 17) dX7_in_10 rfl (by decide) (fun h10 => ?_) (fun h10 => ?_)
    · refine j_iconst (q := 18) (v := 0) dX7_in_17 rfl (by decide) ?_
      refine o_zret hF rfl dX7_in_18 (by first | assumption | exact Or.inl rfl | exact Or.inr rfl) ?_
      first | (rw [if_pos ⟨(lgc_le _ _).mp h3, Int64.not_lt.mp (fun q => h10 ((lgc_gt _ _).mpr q))⟩]; exact ⟨rfl, rfl⟩) | (rw [if_neg (fun q => Int64.not_lt.mpr q.1 ((lgc_lt _ _).mp h3))]; exact ⟨rfl, rfl⟩) | (rw [if_neg (fun q => Int64.not_lt.mpr q.2 ((lgc_gt _ _).mp h10))]; exact ⟨rfl, rfl⟩)
    · refine j_iconst (q := 14) (v := 1) dX7_in_13 rfl (by decide) ?_
      refine j_goto (tgt := 18) dX7_in_14 (by decide) ?_
      refine o_zret hF rfl dX7_in_18 (by first | assumption | exact Or.inl rfl | exact Or.inr rfl) ?_
      first | (rw [if_pos ⟨(lgc_le _ _).mp h3, Int64.not_lt.mp (fun q => h10 ((lgc_gt _ _).mpr q))⟩]; exact ⟨rfl, rfl⟩) | (rw [if_neg (fun q => Int64.not_lt.mpr q.1 ((lgc_lt _ _).mp h3))]; exact ⟨rfl, rfl⟩) | (rw [if_neg (fun q => Int64.not_lt.mpr q.2 ((lgc_gt _ _).mp h10))]; exact ⟨rfl, rfl⟩)
theorem cM_inI (E : gEv) (σ : gSg) (m : gMem) (hi : Nat) (v lo hig : Int32) {L H : Int64} (hL : L = lo.toInt64) (hH : H = hig.toInt64) : gCo E yX7_in cX7_in 6 (some .boolean) 0 [.long v.toInt64, .long L, .long H] σ m hi (gX (some (.int (sWi v lo hig))) m) := by
  have h := cM_in E σ m hi v.toInt64 L H
  have e : (if L ≤ v.toInt64 ∧ v.toInt64 ≤ H then (1 : Int32) else 0) = sWi v lo hig := by
    simp only [sWi_eq, hL, hH, i2l_le]
  rw [e] at h
  exact h
theorem sHas_wi (x : Int32) {c : Nat} (hc : c ≤ 1000) : sWi x 0 (nI c - 1) = sHas (nI c) x := by
  rw [sWi_eq]
  unfold sHas
  by_cases h0 : c = 0
  · subst h0
    by_cases hx : x < 0
    · rw [if_pos hx, if_neg (fun q => Int32.not_lt.mpr q.1 hx)]
    · have hn : ¬ (0 ≤ x ∧ x ≤ nI 0 - 1) := fun q => hx (Int32.lt_of_le_of_lt q.2 (by decide))
      rw [if_neg hx, if_neg hn, if_pos (show nI 0 ≤ x from Int32.not_lt.mp hx)]
  · obtain ⟨d, rfl⟩ : ∃ d, c = d + 1 := ⟨c - 1, by omega⟩
    rw [nI_pred]
    by_cases hx : x < 0
    · rw [if_pos hx, if_neg (fun q => Int32.not_lt.mpr q.1 hx)]
    · rw [if_neg hx]
      by_cases h2 : nI (d + 1) ≤ x
      · rw [if_pos h2, if_neg (fun q => Int32.not_lt.mpr q.2 (Int32.lt_of_lt_of_le (nI_lt (by omega) (by omega)) h2))]
      · rw [if_neg h2, if_pos]
        refine ⟨Int32.not_lt.mp hx, ?_⟩
        have h3 := Int32.not_le.mp h2
        rw [Int32.lt_iff_toInt_lt, nI_toInt (by omega)] at h3
        rw [Int32.le_iff_toInt_le, nI_toInt (by omega)]
        omega
theorem cM_isGeyser (E : gEv) (σ : gSg) (m : gMem) (hi t c : Nat) (x : Int32) (hR : gR σ t) (hc : pgR m t 0 24 = nI c) (hc4 : c ≤ 4) : gCo E yX7_isGeyser cX7_isGeyser 2 (some .boolean) 1 [.ref t, .int x] σ m hi (gX (some (.int (sHas (nI c) x))) m) := by
  refine gCo.of mwX7_isGeyser (Nat.le_of_ble_eq_true rfl) ?_
  intro F hF
  have h0 := hR.1
  have h1 := hR.2.1
  have hix : gIdx 24 318 24 := gIdx.of rfl (by decide) (by decide)
  have hz := sWi_z x 0 (nI c - 1)
  have e24 : m.1 (t + 1) 24 = nI c := by rw [← hc, ← rg_i m t 0 (i := 24) (by omega)]
  refine j_iload_n (q := 1) dX7_isGeyser_0 rfl (by rfl) ?_
  refine j_i2l (q := 2) dX7_isGeyser_1 rfl ?_
  refine j_lconst (q := 3) (v := 0) dX7_isGeyser_2 rfl (by decide) ?_
  refine j_aload_n (q := 4) dX7_isGeyser_3 rfl (by rfl) ?_
  refine j_getr (q := 7) dX7_isGeyser_4 rfl fX7_7 (by assumption) (by rfl) ?_
  refine j_bipush (q := 9) (v := 24) dX7_isGeyser_7 rfl (by decide) ?_
  refine j_iaload (q := 10) dX7_isGeyser_9 rfl (by assumption) (by assumption) ?_
  rw [e24]
  refine j_iconst (q := 11) (v := 1) dX7_isGeyser_10 rfl (by decide) ?_
  refine j_isub (q := 12) dX7_isGeyser_11 rfl ?_
  refine j_i2l (q := 13) dX7_isGeyser_12 rfl ?_
  refine o_callSi (q := 16) dX7_isGeyser_13 rfl lX7_55 mwX7_in msX7_in (by rfl) rfl (Nat.le_of_ble_eq_true (by rfl)) (by first | decide | omega) (cM_inI E σ m hi x 0 (nI c - 1) (by decide) rfl) ?_
  refine o_zret hF rfl dX7_isGeyser_16 (by first | assumption | exact Or.inl rfl | exact Or.inr rfl) ?_
  exact ⟨by rw [sHas_wi x (by omega)], rfl⟩
theorem cM_isRow (E : gEv) (σ : gSg) (m : gMem) (hi t c : Nat) (x : Int32) (hR : gR σ t) (hc : pgR m t 0 49 = nI c) (hc4 : c ≤ 12) : gCo E yX7_isRow cX7_isRow 2 (some .boolean) 1 [.ref t, .int x] σ m hi (gX (some (.int (sHas (nI c) x))) m) := by
  refine gCo.of mwX7_isRow (Nat.le_of_ble_eq_true rfl) ?_
  intro F hF
  have h0 := hR.1
  have h1 := hR.2.1
  have hix : gIdx 49 318 49 := gIdx.of rfl (by decide) (by decide)
  have hz := sWi_z x 0 (nI c - 1)
  have e24 : m.1 (t + 1) 49 = nI c := by rw [← hc, ← rg_i m t 0 (i := 49) (by omega)]
  refine j_iload_n (q := 1) dX7_isRow_0 rfl (by rfl) ?_
  refine j_i2l (q := 2) dX7_isRow_1 rfl ?_
  refine j_lconst (q := 3) (v := 0) dX7_isRow_2 rfl (by decide) ?_
  refine j_aload_n (q := 4) dX7_isRow_3 rfl (by rfl) ?_
  refine j_getr (q := 7) dX7_isRow_4 rfl fX7_7 (by assumption) (by rfl) ?_
  refine j_bipush (q := 9) (v := 49) dX7_isRow_7 rfl (by decide) ?_
  refine j_iaload (q := 10) dX7_isRow_9 rfl (by assumption) (by assumption) ?_
  rw [e24]
  refine j_iconst (q := 11) (v := 1) dX7_isRow_10 rfl (by decide) ?_
  refine j_isub (q := 12) dX7_isRow_11 rfl ?_
  refine j_i2l (q := 13) dX7_isRow_12 rfl ?_
  refine o_callSi (q := 16) dX7_isRow_13 rfl lX7_55 mwX7_in msX7_in (by rfl) rfl (Nat.le_of_ble_eq_true (by rfl)) (by first | decide | omega) (cM_inI E σ m hi x 0 (nI c - 1) (by decide) rfl) ?_
  refine o_zret hF rfl dX7_isRow_16 (by first | assumption | exact Or.inl rfl | exact Or.inr rfl) ?_
  exact ⟨by rw [sHas_wi x (by omega)], rfl⟩
theorem cM_isLong (E : gEv) (σ : gSg) (m : gMem) (hi : Nat) (x : Int32) : gCo E yX7_isLong cX7_isLong 1 (some .boolean) 1 [.int x] σ m hi (gX (some (.int (sWi x 0 200))) m) := by
  refine gCo.of mwX7_isLong (Nat.le_of_ble_eq_true rfl) ?_
  intro F hF
  have hz := sWi_z x 0 200
  refine j_iload_n (q := 1) dX7_isLong_0 rfl (by rfl) ?_
  refine j_i2l (q := 2) dX7_isLong_1 rfl ?_
  refine j_lconst (q := 3) (v := 0) dX7_isLong_2 rfl (by decide) ?_
  refine j_ldc2 (q := 6) dX7_isLong_3 rfl kX7_129 ?_
  refine o_callSi (q := 9) dX7_isLong_6 rfl lX7_55 mwX7_in msX7_in (by rfl) rfl (Nat.le_of_ble_eq_true (by rfl)) (by first | decide | omega) (cM_inI E σ m hi x 0 200 (by decide) (by decide)) ?_
  refine o_zret hF rfl dX7_isLong_9 (by first | assumption | exact Or.inl rfl | exact Or.inr rfl) ?_
  exact ⟨rfl, rfl⟩
/-- an index of a page -/
theorem gIdx.p {i : Int32} {p k : Nat} (h : i = nI (p + k)) (hk : k < 53) (hp : p ≤ 265) : gIdx i 318 (p + k) := gIdx.of h (by omega) (by decide)
theorem gIdx.l {p : Nat} (k : Nat) (hk : k < 53) (hp : p ≤ 265) : gIdx (nI p + nI k) 318 (p + k) := gIdx.p (nI_add p k) hk hp
theorem gIdx.j {p : Nat} (k j : Nat) (hk : k + j < 53) (hp : p ≤ 265) : gIdx (nI p + nI k + nI j) 318 (p + (k + j)) := gIdx.p (by rw [nI_add, nI_add, Nat.add_assoc]) hk hp
theorem cM_shareOn (E : gEv) (σ : gSg) (m : gMem) (hi t p j : Nat) (hR : gR σ t) (hp : p ≤ 265) (hz : ¬ pgR m t p 24 ≤ 0) : gCo E yX7_shareOn cX7_shareOn 5 (some .int) 0 [.ref t, .int (nI p), .int (nI j)] σ m hi (gX (some (.int (sShr (pgR m t p) j))) m) := by
  refine gCo.of mwX7_shareOn (Nat.le_of_ble_eq_true rfl) ?_
  intro F hF
  have h0 := hR.1
  have h1 := hR.2.1
  have i50 : gIdx (nI p + 50) 318 (p + 50) := gIdx.l 50 (by decide) hp
  have i24 : gIdx (nI p + 24) 318 (p + 24) := gIdx.l 24 (by decide) hp
  have e50 : m.1 (t + 1) (p + 50) + 8 = pgR m t p 50 := by rw [pgR_lt (by decide)]; rfl
  have e24 := rg_i m t p (i := 24) (by omega)
  have hne : ¬ pgR m t p 24 = 0 := fun q => hz (by rw [q]; exact Int32.le_refl 0)
  refine j_aload_n (q := 1) dX7_shareOn_0 rfl (by rfl) ?_
  refine j_getr (q := 4) dX7_shareOn_1 rfl fX7_7 (by assumption) (by rfl) ?_
  refine j_iload_n (q := 5) dX7_shareOn_4 rfl (by rfl) ?_
  refine j_bipush (q := 7) (v := 50) dX7_shareOn_5 rfl (by decide) ?_
  refine j_iadd (q := 8) dX7_shareOn_7 rfl ?_
  refine j_iaload (q := 9) dX7_shareOn_8 rfl (by assumption) (by assumption) ?_
  refine j_bipush (q := 11) (v := 8) dX7_shareOn_9 rfl (by decide) ?_
  refine j_iadd (q := 12) dX7_shareOn_11 rfl ?_
  rw [e50]
  refine j_istore_n (q := 13) dX7_shareOn_12 rfl (by decide) ?_
  refine j_aload_n (q := 14) dX7_shareOn_13 rfl (by rfl) ?_
  refine j_getr (q := 17) dX7_shareOn_14 rfl fX7_7 (by assumption) (by rfl) ?_
  refine j_iload_n (q := 18) dX7_shareOn_17 rfl (by rfl) ?_
  refine j_bipush (q := 20) (v := 24) dX7_shareOn_18 rfl (by decide) ?_
  refine j_iadd (q := 21) dX7_shareOn_20 rfl ?_
  refine j_iaload (q := 22) dX7_shareOn_21 rfl (by assumption) (by assumption) ?_
  rw [e24]
  refine j_istore (q := 24) dX7_shareOn_22 rfl (by decide) ?_
  refine j_iload_n (q := 25) dX7_shareOn_24 rfl (by rfl) ?_
  refine j_iload (q := 27) dX7_shareOn_25 rfl (by rfl) ?_
  refine j_idiv (q := 28) dX7_shareOn_27 rfl (by assumption) ?_
  refine j_iload_n (q := 29) dX7_shareOn_28 rfl (by rfl) ?_
  refine j_iload_n (q := 30) dX7_shareOn_29 rfl (by rfl) ?_
  refine j_iload (q := 32) dX7_shareOn_30 rfl (by rfl) ?_
  refine j_irem (q := 33) dX7_shareOn_32 rfl (by assumption) ?_
  refine j_icmp_ge (q := 36) (tgt := 40) dX7_shareOn_33 rfl (by decide) (fun h33 => ?_) (fun h33 => ?_)
  · refine j_iconst (q := 41) (v := 0) dX7_shareOn_40 rfl (by decide) ?_
    refine j_iadd (q := 42) dX7_shareOn_41 rfl ?_
    refine o_iret hF rfl dX7_shareOn_42 ?_
    exact ⟨by unfold sShr; simp [*], rfl⟩
  · refine j_iconst (q := 37) (v := 1) dX7_shareOn_36 rfl (by decide) ?_
    refine j_goto (tgt := 41) dX7_shareOn_37 (by decide) ?_
    refine j_iadd (q := 42) dX7_shareOn_41 rfl ?_
    refine o_iret hF rfl dX7_shareOn_42 ?_
    exact ⟨by unfold sShr; simp [*], rfl⟩
theorem cM_fadesOn (E : gEv) (σ : gSg) (m : gMem) (hi t p j : Nat) (hR : gR σ t) (hp : p ≤ 265) (hj : j < 4) : gCo E yX7_fadesOn cX7_fadesOn 4 (some .int) 0 [.ref t, .int (nI p), .int (nI j)] σ m hi (gX (some (.int (sFades (pgR m t p j)))) m) := by
  refine gCo.of mwX7_fadesOn (Nat.le_of_ble_eq_true rfl) ?_
  intro F hF
  have h0 := hR.1
  have h1 := hR.2.1
  have ij : gIdx (nI p + nI j) 318 (p + j) := gIdx.l j (by omega) hp
  have ej := rg_i m t p (i := j) (by omega)
  refine j_aload_n (q := 1) dX7_fadesOn_0 rfl (by rfl) ?_
  refine j_getr (q := 4) dX7_fadesOn_1 rfl fX7_7 (by assumption) (by rfl) ?_
  refine j_iload_n (q := 5) dX7_fadesOn_4 rfl (by rfl) ?_
  refine j_iload_n (q := 6) dX7_fadesOn_5 rfl (by rfl) ?_
  refine j_iadd (q := 7) dX7_fadesOn_6 rfl ?_
  refine j_iaload (q := 8) dX7_fadesOn_7 rfl (by assumption) (by assumption) ?_
  rw [ej]
  refine j_istore_n (q := 9) dX7_fadesOn_8 rfl (by decide) ?_
  refine j_iload_n (q := 10) dX7_fadesOn_9 rfl (by rfl) ?_
  refine j_if_ne (q := 13) (tgt := 17) dX7_fadesOn_10 rfl (by decide) (fun h10 => ?_) (fun h10 => ?_)
  · refine j_iload_n (q := 18) dX7_fadesOn_17 rfl (by rfl) ?_
    refine j_iconst (q := 19) (v := 1) dX7_fadesOn_18 rfl (by decide) ?_
    refine j_icmp_ne (q := 22) (tgt := 26) dX7_fadesOn_19 rfl (by decide) (fun h19 => ?_) (fun h19 => ?_)
    · refine j_iconst (q := 27) (v := 0) dX7_fadesOn_26 rfl (by decide) ?_
      refine o_iret hF rfl dX7_fadesOn_27 ?_
      exact ⟨by unfold sFades; simp [*], rfl⟩
    · refine j_iconst (q := 23) (v := 1) dX7_fadesOn_22 rfl (by decide) ?_
      refine j_goto (tgt := 27) dX7_fadesOn_23 (by decide) ?_
      refine o_iret hF rfl dX7_fadesOn_27 ?_
      exact ⟨by unfold sFades; simp [*], rfl⟩
  · refine j_iconst (q := 14) (v := 2) dX7_fadesOn_13 rfl (by decide) ?_
    refine j_goto (tgt := 27) dX7_fadesOn_14 (by decide) ?_
    refine o_iret hF rfl dX7_fadesOn_27 ?_
    exact ⟨by unfold sFades; simp [*], rfl⟩
theorem cM_mindsOn (E : gEv) (σ : gSg) (m : gMem) (hi t p j : Nat) (w : Int32) (hR : gR σ t) (hp : p ≤ 265) (hj : j < 4) : gCo E yX7_mindsOn cX7_mindsOn 6 (some .int) 0 [.ref t, .int (nI p), .int (nI j), .int w] σ m hi (gX (some (.int (sMinds (pgR m t p j) (pgR m t p (8 + j)) w))) m) := by
  refine gCo.of mwX7_mindsOn (Nat.le_of_ble_eq_true rfl) ?_
  intro F hF
  have h0 := hR.1
  have h1 := hR.2.1
  have ij : gIdx (nI p + nI j) 318 (p + j) := gIdx.l j (by omega) hp
  have i8 : gIdx (nI p + 8 + nI j) 318 (p + (8 + j)) := gIdx.j 8 j (by omega) hp
  have ej := rg_i m t p (i := j) (by omega)
  have e8 := rg_i m t p (i := 8 + j) (by omega)
  have K59 : ∀ a : Int32, a = (if pgR m t p j = 0 then sMore (pgR m t p (8 + j)) w else 2 * sMore (pgR m t p (8 + j)) w) → (gJ E yX7_mindsOn cX7_mindsOn 6 (some .int) (gRm 0 0 0) F 59 ([some (.ref t), some (.int (nI p)), some (.int (nI j)), some (.int w), some (.int (pgR m t p j)), some (.int a)]) ([]) 0 0 σ (m) hi) := by
    intro a ha
    have K79 : ∀ b : Int32, b = a + (if 1 < pgR m t p j ∧ 0 < w then 1 else 0) → (gJ E yX7_mindsOn cX7_mindsOn 6 (some .int) (gRm 0 0 0) F 79 ([some (.ref t), some (.int (nI p)), some (.int (nI j)), some (.int w), some (.int (pgR m t p j)), some (.int b)]) ([]) 0 0 σ (m) hi) := by
      intro b hb
      refine j_iload (q := 81) dX7_mindsOn_79 rfl (by rfl) ?_
      refine j_iload (q := 83) dX7_mindsOn_81 rfl (by rfl) ?_
      refine j_iconst (q := 84) (v := 3) dX7_mindsOn_83 rfl (by decide) ?_
      refine j_icmp_ne (q := 87) (tgt := 97) dX7_mindsOn_84 rfl (by decide) (fun h84 => ?_) (fun h84 => ?_)
      · refine j_iconst (q := 98) (v := 0) dX7_mindsOn_97 rfl (by decide) ?_
        refine j_iadd (q := 99) dX7_mindsOn_98 rfl ?_
        refine o_iret hF rfl dX7_mindsOn_99 ?_
        exact ⟨by unfold sMinds; rw [← ha, ← hb]; simp [*], rfl⟩
      · refine j_iload_n (q := 88) dX7_mindsOn_87 rfl (by rfl) ?_
        refine j_bipush (q := 90) (v := 9) dX7_mindsOn_88 rfl (by decide) ?_
        refine j_icmp_ne (q := 93) (tgt := 97) dX7_mindsOn_90 rfl (by decide) (fun h90 => ?_) (fun h90 => ?_)
        · refine j_iconst (q := 98) (v := 0) dX7_mindsOn_97 rfl (by decide) ?_
          refine j_iadd (q := 99) dX7_mindsOn_98 rfl ?_
          refine o_iret hF rfl dX7_mindsOn_99 ?_
          exact ⟨by unfold sMinds; rw [← ha, ← hb]; simp [*], rfl⟩
        · refine j_iconst (q := 94) (v := 5) dX7_mindsOn_93 rfl (by decide) ?_
          refine j_goto (tgt := 98) dX7_mindsOn_94 (by decide) ?_
          refine j_iadd (q := 99) dX7_mindsOn_98 rfl ?_
          refine o_iret hF rfl dX7_mindsOn_99 ?_
          exact ⟨by unfold sMinds; rw [← ha, ← hb]; simp [*], rfl⟩
    refine j_iload (q := 61) dX7_mindsOn_59 rfl (by rfl) ?_
    refine j_iload (q := 63) dX7_mindsOn_61 rfl (by rfl) ?_
    refine j_iconst (q := 64) (v := 1) dX7_mindsOn_63 rfl (by decide) ?_
    refine j_icmp_le (q := 67) (tgt := 75) dX7_mindsOn_64 rfl (by decide) (fun h64 => ?_) (fun h64 => ?_)
    · refine j_iconst (q := 76) (v := 0) dX7_mindsOn_75 rfl (by decide) ?_
      refine j_iadd (q := 77) dX7_mindsOn_76 rfl ?_
      refine j_istore (q := 79) dX7_mindsOn_77 rfl (by decide) ?_
      exact K79 _ (by first | exact congrArg (a + ·) (if_pos (And.intro (Int32.not_le.mp h64) (Int32.not_le.mp h68))).symm | exact congrArg (a + ·) (if_neg (fun q : _ ∧ _ => Int32.not_le.mpr q.1 h64)).symm | exact congrArg (a + ·) (if_neg (fun q : _ ∧ _ => Int32.not_le.mpr q.2 h68)).symm)
    · refine j_iload_n (q := 68) dX7_mindsOn_67 rfl (by rfl) ?_
      refine j_if_le (q := 71) (tgt := 75) dX7_mindsOn_68 rfl (by decide) (fun h68 => ?_) (fun h68 => ?_)
      · refine j_iconst (q := 76) (v := 0) dX7_mindsOn_75 rfl (by decide) ?_
        refine j_iadd (q := 77) dX7_mindsOn_76 rfl ?_
        refine j_istore (q := 79) dX7_mindsOn_77 rfl (by decide) ?_
        exact K79 _ (by first | exact congrArg (a + ·) (if_pos (And.intro (Int32.not_le.mp h64) (Int32.not_le.mp h68))).symm | exact congrArg (a + ·) (if_neg (fun q : _ ∧ _ => Int32.not_le.mpr q.1 h64)).symm | exact congrArg (a + ·) (if_neg (fun q : _ ∧ _ => Int32.not_le.mpr q.2 h68)).symm)
      · refine j_iconst (q := 72) (v := 1) dX7_mindsOn_71 rfl (by decide) ?_
        refine j_goto (tgt := 76) dX7_mindsOn_72 (by decide) ?_
        refine j_iadd (q := 77) dX7_mindsOn_76 rfl ?_
        refine j_istore (q := 79) dX7_mindsOn_77 rfl (by decide) ?_
        exact K79 _ (by first | exact congrArg (a + ·) (if_pos (And.intro (Int32.not_le.mp h64) (Int32.not_le.mp h68))).symm | exact congrArg (a + ·) (if_neg (fun q : _ ∧ _ => Int32.not_le.mpr q.1 h64)).symm | exact congrArg (a + ·) (if_neg (fun q : _ ∧ _ => Int32.not_le.mpr q.2 h68)).symm)
  have K44 : ∀ a : Int32, a = sMore (pgR m t p (8 + j)) w → (gJ E yX7_mindsOn cX7_mindsOn 6 (some .int) (gRm 0 0 0) F 44 ([some (.ref t), some (.int (nI p)), some (.int (nI j)), some (.int w), some (.int (pgR m t p j)), some (.int a)]) ([]) 0 0 σ (m) hi) := by
    intro a ha
    refine j_iload (q := 46) dX7_mindsOn_44 rfl (by rfl) ?_
    refine j_iload (q := 48) dX7_mindsOn_46 rfl (by rfl) ?_
    refine j_if_ne (q := 51) (tgt := 55) dX7_mindsOn_48 rfl (by decide) (fun h48 => ?_) (fun h48 => ?_)
    · refine j_iconst (q := 56) (v := 2) dX7_mindsOn_55 rfl (by decide) ?_
      refine j_imul (q := 57) dX7_mindsOn_56 rfl ?_
      refine j_istore (q := 59) dX7_mindsOn_57 rfl (by decide) ?_
      exact K59 _ (by first | (rw [if_pos (by first | exact h48 | exact Decidable.not_not.mp h48), ha, Int32.mul_one]) | (rw [if_neg h48, ha, Int32.mul_comm]))
    · refine j_iconst (q := 52) (v := 1) dX7_mindsOn_51 rfl (by decide) ?_
      refine j_goto (tgt := 56) dX7_mindsOn_52 (by decide) ?_
      refine j_imul (q := 57) dX7_mindsOn_56 rfl ?_
      refine j_istore (q := 59) dX7_mindsOn_57 rfl (by decide) ?_
      exact K59 _ (by first | (rw [if_pos (by first | exact h48 | exact Decidable.not_not.mp h48), ha, Int32.mul_one]) | (rw [if_neg h48, ha, Int32.mul_comm]))
  refine j_aload_n (q := 1) dX7_mindsOn_0 rfl (by rfl) ?_
  refine j_getr (q := 4) dX7_mindsOn_1 rfl fX7_7 (by assumption) (by rfl) ?_
  refine j_iload_n (q := 5) dX7_mindsOn_4 rfl (by rfl) ?_
  refine j_iload_n (q := 6) dX7_mindsOn_5 rfl (by rfl) ?_
  refine j_iadd (q := 7) dX7_mindsOn_6 rfl ?_
  refine j_iaload (q := 8) dX7_mindsOn_7 rfl (by assumption) (by assumption) ?_
  rw [ej]
  refine j_istore (q := 10) dX7_mindsOn_8 rfl (by decide) ?_
  refine j_iload_n (q := 11) dX7_mindsOn_10 rfl (by rfl) ?_
  refine j_aload_n (q := 12) dX7_mindsOn_11 rfl (by rfl) ?_
  refine j_getr (q := 15) dX7_mindsOn_12 rfl fX7_7 (by assumption) (by rfl) ?_
  refine j_iload_n (q := 16) dX7_mindsOn_15 rfl (by rfl) ?_
  refine j_bipush (q := 18) (v := 8) dX7_mindsOn_16 rfl (by decide) ?_
  refine j_iadd (q := 19) dX7_mindsOn_18 rfl ?_
  refine j_iload_n (q := 20) dX7_mindsOn_19 rfl (by rfl) ?_
  refine j_iadd (q := 21) dX7_mindsOn_20 rfl ?_
  refine j_iaload (q := 22) dX7_mindsOn_21 rfl (by assumption) (by assumption) ?_
  rw [e8]
  refine j_icmp_le (q := 25) (tgt := 41) dX7_mindsOn_22 rfl (by decide) (fun h22 => ?_) (fun h22 => ?_)
  · refine j_iconst (q := 42) (v := 0) dX7_mindsOn_41 rfl (by decide) ?_
    refine j_istore (q := 44) dX7_mindsOn_42 rfl (by decide) ?_
    exact K44 _ (by unfold sMore; first | rw [if_pos (Int32.not_le.mp h22), ← e8] | rw [if_neg (Int32.not_lt.mpr h22)])
  · refine j_iload_n (q := 26) dX7_mindsOn_25 rfl (by rfl) ?_
    refine j_aload_n (q := 27) dX7_mindsOn_26 rfl (by rfl) ?_
    refine j_getr (q := 30) dX7_mindsOn_27 rfl fX7_7 (by assumption) (by rfl) ?_
    refine j_iload_n (q := 31) dX7_mindsOn_30 rfl (by rfl) ?_
    refine j_bipush (q := 33) (v := 8) dX7_mindsOn_31 rfl (by decide) ?_
    refine j_iadd (q := 34) dX7_mindsOn_33 rfl ?_
    refine j_iload_n (q := 35) dX7_mindsOn_34 rfl (by rfl) ?_
    refine j_iadd (q := 36) dX7_mindsOn_35 rfl ?_
    refine j_iaload (q := 37) dX7_mindsOn_36 rfl (by assumption) (by assumption) ?_
    refine j_isub (q := 38) dX7_mindsOn_37 rfl ?_
    refine j_goto (tgt := 42) dX7_mindsOn_38 (by decide) ?_
    refine j_istore (q := 44) dX7_mindsOn_42 rfl (by decide) ?_
    exact K44 _ (by unfold sMore; first | rw [if_pos (Int32.not_le.mp h22), ← e8] | rw [if_neg (Int32.not_lt.mpr h22)])
