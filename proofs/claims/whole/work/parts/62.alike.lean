/-! answers depend on what a page shows alone -/
theorem ixV_lt {n : Int32} {c : Nat} (hn : n = nI c) (hc : c < 2 ^ 31) {x : Int32} {j : Nat} (h : ixV n x = some j) : j < c ∧ x = nI j := by
  rcases ixV_or x hn hc with ⟨-, h2⟩ | ⟨i, h1, h2, -, h3⟩
  · rw [h2] at h; cases h
  · rw [h3] at h
    have e : i = j := by simpa using h
    subst e
    exact ⟨h1, h2⟩
theorem swN_lt {x : Int32} {n j : Nat} (h : swN x n = some j) : j ≤ n := by
  unfold swN at h
  by_cases hc : x.toInt < 0 ∨ (n : Int) < x.toInt
  · rw [if_pos hc] at h; cases h
  · rw [if_neg hc] at h
    have e : x.toInt.toNat = j := by simpa using h
    omega
section AL
variable {g g' : Nat → Int32} {b : Nat}
theorem okC.n (h : okC g) : g 24 = nI (cnt g) ∧ cnt g ≤ 4 := by
  obtain ⟨c, e, h4⟩ := h
  unfold cnt
  rw [e, nI_clamp (by omega)]
  exact ⟨rfl, h4⟩
theorem okB.n (h : okB g b) : g 49 = nI (rws g) ∧ rws g ≤ 12 := by
  obtain ⟨r, hh, e1, e2, -, -⟩ := h
  unfold rws
  rw [e1, nI_clamp (by omega)]
  exact ⟨rfl, e2⟩
theorem xRule_veq (h : veq g g') (hc : okC g) (ho : okB g b) (k : Int32) : xRule g' k = xRule g k := by
  unfold xRule
  cases hq : swN k 8 with
  | none => rfl
  | some q =>
    have hq8 := swN_lt hq
    match q, hq8 with
    | 0, _ => exact h.a24
    | 1, _ => exact h.a49
    | 2, _ => exact h.a52
    | 3, _ => exact h.a50
    | 4, _ => exact h.a51
    | 5, _ => exact sumP_veq h hc (by decide)
    | 6, _ => exact sWat_veq h ho
    | 7, _ => exact (by rw [sWho_veq h ho] : (if sWho g' = 4 then (-4 : Int32) else sWho g') = if sWho g = 4 then -4 else sWho g)
    | 8, _ => exact sumP_veq h hc (by decide)
    | q + 9, hq8 => exact absurd hq8 (by omega)
theorem xRow_veq (h : veq g g') (ho : okB g b) (i k : Int32) : xRow g' i k = xRow g i k := by
  obtain ⟨e1, e2⟩ := ho.n
  unfold xRow
  rw [h.a49]
  cases hj : ixV (g 49) i with
  | none => rfl
  | some j =>
    have hlt := (ixV_lt e1 (by omega) hj).1
    generalize swN k 1 = q
    match q with
    | none => rfl
    | some 0 => exact h.w hlt (by omega)
    | some (n + 1) => exact h.o hlt (by omega)
theorem xGeyser_veq (h : veq g g') (hc : okC g) (ho : okB g b) (v k : Int32) : xGeyser g' v k = xGeyser g v k := by
  obtain ⟨e1, e2⟩ := hc.n
  unfold xGeyser
  rw [h.a24]
  cases hj : ixV (g 24) v with
  | none => rfl
  | some j =>
    have hlt := (ixV_lt e1 (by omega) hj).1
    have hv : ∀ t, t < 6 → g' (4 * t + j) = g (4 * t + j) := fun t ht => h.v hlt ht (by omega)
    cases hq : swN k 7 with
    | none => rfl
    | some q =>
      have hq7 := swN_lt hq
      match q, hq7 with
      | 0, _ => exact hv 0 (by decide)
      | 1, _ => exact hv 1 (by decide)
      | 2, _ => exact hv 2 (by decide)
      | 3, _ => exact hv 3 (by decide)
      | 4, _ => exact hv 4 (by decide)
      | 5, _ => exact hv 5 (by decide)
      | 6, _ => exact sShr_veq h j
      | 7, _ => exact (by rw [hv 0 (by decide), hv 2 (by decide), sWat_veq h ho] : sMinds (g' (4 * 0 + j)) (g' (4 * 2 + j)) (sWat g') = sMinds (g (4 * 0 + j)) (g (4 * 2 + j)) (sWat g))
      | q + 8, hq7 => exact absurd hq7 (by omega)
/-- two answers with two pages, alike -/
def pPR (A A' : xP) : Prop := A'.1 = A.1 ∧ veq A.2 A'.2 ∧ okC A.2 ∧ okB A.2 9999 ∧ pg0 A.2 ∧ pg0 A'.2
theorem pPR.mk {a a' : Int32} {G G' : Nat → Int32} (h1 : a' = a) (h2 : veq G G') (h3 : okC G) (h4 : okB G 9999) (h5 : pg0 G) (h6 : pg0 G') : pPR (a, G) (a', G') := ⟨h1, h2, h3, h4, h5, h6⟩
theorem pPR.rf (h : veq g g') (hc : okC g) (ho : okB g 9999) (h0 : pg0 g) (h0' : pg0 g') (z : Int32) : pPR (z, g) (z, g') := ⟨rfl, h, hc, ho, h0, h0'⟩
theorem pPR.up (h : veq g g') (hc : okC g) (ho : okB g 9999) (h0 : pg0 g) (h0' : pg0 g') {k : Nat} (hk : k < 53) (h1 : k ≠ 24) (h2 : k ≠ 49) (h3 : k ≠ 52) {a a' : Int32} (ha : a' = a) (z : Int32) : pPR (a, upd g k z) (a', upd g' k z) := ⟨ha, h.up h1 h2 z, hc.up h1 z, ho.up h2 h3 z, upd_0 h0 hk z, upd_0 h0' hk z⟩
theorem xAlter_veq (h : veq g g') (hc : okC g) (ho : okB g 9999) (h0 : pg0 g) (h0' : pg0 g') (v k z : Int32) : pPR (xAlter g v k z) (xAlter g' v k z) := by
  obtain ⟨e1, e2⟩ := hc.n
  have rf := fun q => pPR.rf h hc ho h0 h0' q
  unfold xAlter
  rw [h.a24]
  cases hj : ixV (g 24) v with
  | none => exact rf _
  | some j =>
    have hlt := (ixV_lt e1 (by omega) hj).1
    dsimp only
    by_cases hf : sFit k z = 0
    · rw [if_pos hf, if_pos hf]; exact rf _
    · rw [if_neg hf, if_neg hf]
      cases hq : swN k 4 with
      | none => exact rf _
      | some t =>
        have ht := swN_lt hq
        exact pPR.up h hc ho h0 h0' (by omega) (by omega) (by omega) (by omega) (h.v hlt (by omega) (by omega)) z
theorem xTell_veq (h : veq g g') (hc : okC g) (ho : okB g 9999) (h0 : pg0 g) (h0' : pg0 g') (k v : Int32) : pPR (xTell g k v) (xTell g' k v) := by
  unfold xTell
  by_cases h1 : k = 0 ∧ 0 ≤ v ∧ v ≤ 40
  · rw [if_pos h1, if_pos h1]; exact pPR.up h hc ho h0 h0' (by decide) (by decide) (by decide) (by decide) h.a50 v
  rw [if_neg h1, if_neg h1]
  by_cases h2 : k = 1 ∧ 0 ≤ v ∧ v ≤ 20
  · rw [if_pos h2, if_pos h2]; exact pPR.up h hc ho h0 h0' (by decide) (by decide) (by decide) (by decide) h.a51 v
  rw [if_neg h2, if_neg h2]
  exact pPR.rf h hc ho h0 h0' _
theorem xSet_veq (h : veq g g') (hc : okC g) (ho : okB g 9999) (h0 : pg0 g) (h0' : pg0 g') (i k v : Int32) : pPR (xSet g i k v) (xSet g' i k v) := by
  obtain ⟨e1, e2⟩ := ho.n
  unfold xSet
  rw [h.a49]
  cases hj : ixV (g 49) i with
  | none => exact pPR.rf h hc ho h0 h0' _
  | some j =>
    have hlt := (ixV_lt e1 (by omega) hj).1
    dsimp only
    by_cases h1 : k = 0 ∧ 0 ≤ v ∧ v ≤ 9
    · rw [if_pos h1, if_pos h1]; exact pPR.up h hc ho h0 h0' (by omega) (by omega) (by omega) (by omega) (h.w hlt (by omega)) v
    rw [if_neg h1, if_neg h1]
    by_cases h2 : k = 1 ∧ 0 ≤ v ∧ v ≤ 4
    · rw [if_pos h2, if_pos h2]; exact pPR.up h hc ho h0 h0' (by omega) (by omega) (by omega) (by omega) (h.o hlt (by omega)) v
    rw [if_neg h2, if_neg h2]
    exact pPR.rf h hc ho h0 h0' _
theorem opn_C (hc : okC g) (hlt : cnt g < 4) (a d u : Int32) : okC (opn g (cnt g) a d u) := ⟨cnt g + 1, by rw [opn_24, hc.n.1, nI_1], by omega⟩
theorem opn_52 (g : Nat → Int32) {c : Nat} (hc : c < 4) (a d u : Int32) : opn g c a d u 52 = g 52 := by
  unfold opn
  rw [pk_un (by omega), pk_un (by omega), pk_un (by omega), pk_un (by omega), pk_un (by omega), pk_un (by omega), pk_un (by omega)]
theorem xOpen_veq (h : veq g g') (hc : okC g) (ho : okB g 9999) (h0 : pg0 g) (h0' : pg0 g') (a d u : Int32) : pPR (xOpen g a d u) (xOpen g' a d u) := by
  unfold xOpen
  by_cases h1 : (0 ≤ a ∧ a ≤ 3) ∧ (1 ≤ d ∧ d ≤ 60) ∧ (0 ≤ u ∧ u ≤ 9)
  · rw [if_pos h1, if_pos h1, h.c]
    by_cases h2 : cnt g < 4
    · rw [if_pos h2, if_pos h2]
      obtain ⟨r, hh, q1, q2, q3, q4⟩ := ho
      exact pPR.mk (by rw [h.a24]) (opn_veq h hc.n.1 h2 a d u) (opn_C hc h2 a d u) ⟨r, hh, by rw [opn_49 g h2]; exact q1, q2, by rw [opn_52 g h2]; exact q3, q4⟩ (opn_0 h0 h2 a d u) (opn_0 h0' h2 a d u)
    · rw [if_neg h2, if_neg h2]; exact pPR.rf h hc ho h0 h0' _
  · rw [if_neg h1, if_neg h1]; exact pPR.rf h hc ho h0 h0' _
theorem le_nI {n : Int32} {c : Nat} (hc : c < 2 ^ 31) (h0 : 0 ≤ n) (h : n ≤ nI c) : ∃ j, j ≤ c ∧ n = nI j := nI_of2 (nI_toInt hc) (fun q => Int32.not_lt.mpr h0 q) h
theorem xCut_veq (h : veq g g') (hc : okC g) (ho : okB g 9999) (h0 : pg0 g) (h0' : pg0 g') (n : Int32) : pPR (xCut g n) (xCut g' n) := by
  obtain ⟨e1, e2⟩ := hc.n
  unfold xCut
  rw [h.a24]
  by_cases h1 : 0 ≤ n ∧ n ≤ g 24
  · rw [if_pos h1, if_pos h1]
    obtain ⟨j, hj, ej⟩ := le_nI (c := cnt g) (by omega) h1.1 (by rw [← e1]; exact h1.2)
    refine pPR.mk rfl (fun i hi => ?_) ⟨j, by rw [pk_us]; exact ej, by omega⟩ ?_ (upd_0 h0 (by decide) _) (upd_0 h0' (by decide) _)
    · by_cases hi24 : i = 24
      · subst hi24; rw [pk_us, pk_us]
      · rw [pk_un hi24, pk_un hi24]
        refine h i ?_
        have hcn : cnt (upd g 24 n) = j := by unfold cnt; rw [pk_us, ej, nI_clamp (by omega)]
        have hrw : rws (upd g 24 n) = rws g := by unfold rws; rw [pk_un (by decide)]
        unfold vis at hi ⊢
        rw [hcn, hrw] at hi
        omega
    · obtain ⟨r, hh, q1, q2, q3, q4⟩ := ho
      exact ⟨r, hh, by rw [pk_un (by decide)]; exact q1, q2, by rw [pk_un (by decide)]; exact q3, q4⟩
  · rw [if_neg h1, if_neg h1]; exact pPR.rf h hc ho h0 h0' _
theorem xDrop_veq (h : veq g g') (hc : okC g) (ho : okB g 9999) (h0 : pg0 g) (h0' : pg0 g') (n : Int32) : pPR (xDrop g n) (xDrop g' n) := by
  obtain ⟨e1, e2⟩ := ho.n
  unfold xDrop
  rw [h.a49]
  by_cases h1 : 0 ≤ n ∧ n ≤ g 49
  · rw [if_pos h1, if_pos h1]
    obtain ⟨j, hj, ej⟩ := le_nI (c := rws g) (by omega) h1.1 (by rw [← e1]; exact h1.2)
    refine pPR.mk rfl (fun i hi => ?_) (hc.up (by decide) n) ?_ (upd_0 h0 (by decide) _) (upd_0 h0' (by decide) _)
    · by_cases hi49 : i = 49
      · subst hi49; rw [pk_us, pk_us]
      · rw [pk_un hi49, pk_un hi49]
        refine h i ?_
        have hcn : rws (upd g 49 n) = j := by unfold rws; rw [pk_us, ej, nI_clamp (by omega)]
        have hrw : cnt (upd g 49 n) = cnt g := by unfold cnt; rw [pk_un (by decide)]
        unfold vis at hi ⊢
        rw [hcn, hrw] at hi
        omega
    · obtain ⟨r, hh, q1, q2, q3, q4⟩ := ho
      exact ⟨j, hh, by rw [pk_us]; exact ej, by omega, by rw [pk_un (by decide)]; exact q3, q4⟩
  · rw [if_neg h1, if_neg h1]; exact pPR.rf h hc ho h0 h0' _
theorem xAdd_pPR (h : veq g g') (hc : okC g) (ho : okB g 9999) (h0 : pg0 g) (h0' : pg0 g') (w c : Int32) : pPR (xAdd g w c) (xAdd g' w c) := by
  have h1 := xAdd_veq h hc ho w c
  have h2 := xAdd_ok hc ho w c
  exact ⟨h1.1, h1.2, h2.1, h2.2, xAdd_0 h0 w c, xAdd_0 h0' w c⟩
theorem xHours_veq (h : veq g g') (hc : okC g) (ho : okB g 9999) (h0 : pg0 g) (h0' : pg0 g') (n : Int32) : pPR (xHours g n) (xHours g' n) := by
  unfold xHours
  rw [h.a52]
  by_cases h1 : 0 ≤ n ∧ n ≤ 100
  · rw [if_pos h1, if_pos h1]
    by_cases h2 : g 52 + n < 10000
    · rw [if_pos h2, if_pos h2]
      obtain ⟨j, hj, ej⟩ := le_nI (c := 100) (by omega) h1.1 h1.2
      subst ej
      rw [nI_clamp (by omega)]
      obtain ⟨r, hh, q1, q2, q3, q4⟩ := id ho
      rw [q3, nI_add] at h2
      have h3 : hh + j < 10000 := (nI_ltI (b := 10000) (by omega) (by omega)).mp h2
      exact pPR.mk (upsN_veq h hc ho j) (plN_veq h hc ho j) (plN_C hc j) ⟨r, hh + j, by rw [plN_49]; exact q1, q2, plN_52 q3 j, by omega⟩ (plN_0 h0 j) (plN_0 h0' j)
    · rw [if_neg h2, if_neg h2]; exact pPR.rf h hc ho h0 h0' _
  · rw [if_neg h1, if_neg h1]; exact pPR.rf h hc ho h0 h0' _
theorem xRuns_veq (h : veq g g') (hc : okC g) (ho : okB g b) (n k : Int32) : xRuns g' n k = xRuns g n k := by
  unfold xRuns
  rw [talN_veq h hc ho]
theorem xAhead_veq (h : veq g g') (hc : okC g) (ho : okB g b) (v n k : Int32) : xAhead g' v n k = xAhead g v n k := by
  obtain ⟨e1, e2⟩ := hc.n
  unfold xAhead
  rw [h.a24]
  cases hj : ixV (g 24) v with
  | none => rfl
  | some j =>
    have hlt := (ixV_lt e1 (by omega) hj).1
    have hp := plN_veq h hc ho n.toNatClampNeg
    have hlt2 : j < cnt (plN g n.toNatClampNeg) := by rw [plN_cnt]; exact hlt
    dsimp only
    rw [hp.v (k := 3) hlt2 (by decide) (by omega), hp.v (k := 4) hlt2 (by decide) (by omega), upsV_veq h hc ho]
theorem xUps_veq (h : veq g g') (hc : okC g) (ho : okB g b) (n : Int32) : xUps g' n = xUps g n := by
  unfold xUps
  rw [plUN_veq h hc ho]
theorem whenJ_veq (h : veq g g') (hc : okC g) (ho : okB g b) (v : Int32) : ∀ k n, whenJ g' v k n = whenJ g v k n
  | 0, _ => rfl
  | k + 1, n => by rw [whenJ, whenJ, plUN_veq h hc ho, whenJ_veq h hc ho v k (n + 1)]
theorem xWhen_veq (h : veq g g') (hc : okC g) (ho : okB g b) (v : Int32) : xWhen g' v = xWhen g v := by
  unfold xWhen
  rw [h.a24]
  cases ixV (g 24) v with
  | none => rfl
  | some j => exact whenJ_veq h hc ho v 201 0
theorem agJ_veq (h : veq g g') (hc : okC g) (ho : okB g b) : ∀ k n, agJ g' k n = agJ g k n
  | 0, _ => rfl
  | k + 1, n => by
    have hi := asNow_veq (plN_veq h hc ho n) h (plN_C hc n) hc
    rw [agJ, agJ, agJ_veq h hc ho k (n + 1)]
    by_cases hs : asNow (plN g n) g
    · rw [if_pos hs, if_pos (hi.mpr hs)]
    · rw [if_neg hs, if_neg (fun q => hs (hi.mp q))]
theorem xWhom_veq (h : veq g g') (hc : okC g) (ho : okB g b) (i n k : Int32) : xWhom g' i n k = xWhom g i n k := by
  obtain ⟨e1, e2⟩ := ho.n
  unfold xWhom
  rw [h.a49, h.c]
  cases hj : ixV (g 49) i with
  | none => rfl
  | some j =>
    have hlt := (ixV_lt e1 (by omega) hj).1
    have hf : whF g' j n.toNatClampNeg = whF g j n.toNatClampNeg := by
      funext c
      unfold whF
      rw [sCho_veq h]
      exact upsN_veq (h.up (by omega) (by omega) _) (hc.up (by omega) _) (ho.up (by omega) (by omega) _) _
    have hl : (fun c : Nat => sCho g' (nI c)) = fun c => sCho g (nI c) := funext fun c => sCho_veq h _
    dsimp only
    rw [hf, hl]
theorem xRoute_veq (h : veq g g') (hc : okC g) (ho : okB g b) (n k : Int32) : xRoute g' n k = xRoute g n k := by
  have hf : rtF g' n.toNatClampNeg = rtF g n.toNatClampNeg := by
    funext w
    unfold rtF
    exact rtU_veq h hc ho w _ _
  have hB : rtB g' n.toNatClampNeg = rtB g n.toNatClampNeg := by
    unfold rtB
    rw [hf, h.c]
  unfold xRoute
  rw [hB, h.c, sCho_veq h]
theorem swI_veq (h : veq g g') (hc : okC g) (ho : okB g b) (n i : Nat) (s : Int32 × Int32) : ∀ k, i + k < rws g → swI g' n i s k = swI g n i s k
  | 0, _ => rfl
  | k + 1, hk => by
    have h12 := ho.n.2
    rw [swI, swI, swI_veq h hc ho n i s k (by omega), pleN_veq (h.sw (by omega) (by omega) h12) (hc.sw (by omega) (by omega)) (ho.sw (by omega) (by omega))]
theorem swO_veq (h : veq g g') (hc : okC g) (ho : okB g b) (n : Nat) : ∀ i, i ≤ rws g → swO g' n (rws g) i = swO g n (rws g) i
  | 0, _ => by rw [swO, swO, pleN_veq h hc ho]
  | i + 1, hi => by rw [swO, swO, swO_veq h hc ho n i (by omega), swI_veq h hc ho n i _ _ (by omega)]
theorem xSwap_veq (h : veq g g') (hc : okC g) (ho : okB g b) (n k : Int32) : xSwap g' n k = xSwap g n k := by
  unfold xSwap
  rw [h.r, swO_veq h hc ho _ _ (Nat.le_refl _)]
theorem upW_veq (h : veq g g') (hc : okC g) (ho : okB g b) {j : Nat} (hj : j < 12) (n : Nat) (w : Int32) : upW g' j n w = upW g j n w := by
  unfold upW
  exact upsN_veq (h.up (by omega) (by omega) _) (hc.up (by omega) _) (ho.up (by omega) (by omega) _) _
theorem beJ_veq (h : veq g g') (hc : okC g) (ho : okB g b) {j : Nat} (hj : j < 12) (n : Nat) : ∀ k, beJ g' j n k = beJ g j n k
  | 0 => rfl
  | k + 1 => by rw [beJ, beJ, beJ_veq h hc ho hj n k, upW_veq h hc ho hj, upW_veq h hc ho hj]
theorem xBears_veq (h : veq g g') (hc : okC g) (ho : okB g b) (i n : Int32) : xBears g' i n = xBears g i n := by
  obtain ⟨e1, e2⟩ := ho.n
  unfold xBears
  rw [h.a49]
  cases hj : ixV (g 49) i with
  | none => rfl
  | some j =>
    have hlt := (ixV_lt e1 (by omega) hj).1
    dsimp only
    rw [beJ_veq h hc ho (by omega)]
theorem flJ_veq (h : veq g g') (hc : okC g) (ho : okB g b) (v : Int32) (n : Nat) (q : Int32) : ∀ k z, flJ g' v n q k z = flJ g v n q k z
  | 0, _ => rfl
  | k + 1, z => by rw [flJ, flJ, flJ_veq h hc ho v n q k (z + 1), upsV_veq (h.up (by decide) (by decide) _) (hc.up (by decide) _) (ho.up (by decide) (by decide) _)]
theorem xFlow_veq (h : veq g g') (hc : okC g) (ho : okB g b) (v n q : Int32) : xFlow g' v n q = xFlow g v n q := by
  unfold xFlow
  rw [h.a24]
  cases ixV (g 24) v with
  | none => rfl
  | some j =>
    dsimp only
    rw [flJ_veq h hc ho]
theorem xKind_veq (h : veq g g') (hc : okC g) (ho : okB g b) (v n k : Int32) : xKind g' v n k = xKind g v n k := by
  obtain ⟨e1, e2⟩ := hc.n
  unfold xKind
  rw [h.a24]
  cases hj : ixV (g 24) v with
  | none => rfl
  | some j =>
    have hlt := (ixV_lt e1 (by omega) hj).1
    have hf : kiF g' v j n.toNatClampNeg = kiF g v j n.toNatClampNeg := by
      funext c
      unfold kiF
      exact upsV_veq (h.up (by omega) (by omega) _) (hc.up (by omega) _) (ho.up (by omega) (by omega) _) _ _
    dsimp only
    rw [hf]
theorem xLuck_veq (h : veq g g') (hc : okC g) (ho : okB g b) (v w n k : Int32) : xLuck g' v w n k = xLuck g v w n k := by
  unfold xLuck
  rw [h.a24]
  cases ixV (g 24) w with
  | none => rfl
  | some j =>
    have hl : ∀ N e, luS g' v j N e = luS g v j N e := by
      intro N e
      induction e with
      | zero => rfl
      | succ e ih => rw [luS, luS, ih, odU_veq h hc ho]
    dsimp only
    rw [hl]
theorem xMean_veq (h : veq g g') (hc : okC g) (ho : okB g b) (v n k : Int32) : xMean g' v n k = xMean g v n k := by
  have hl : ∀ N e, meS g' v N e = meS g v N e := by
    intro N e
    induction e with
    | zero => rfl
    | succ e ih => rw [meS, meS, ih, odU_veq h hc ho]
  unfold xMean
  rw [hl]
theorem xSeason_veq (h : veq g g') (hc : okC g) (ho : okB g b) (s n k : Int32) : xSeason g' s n k = xSeason g s n k := by
  unfold xSeason
  rw [h.a24, snU_veq h hc ho, sumP_veq (snP_veq h hc ho s _) (snP_C hc s _) (by decide)]
theorem uN_veq (h : veq g g') (hc : okC g) (w c : Int32) : uN g' w c = uN g w c := by
  unfold uN
  rw [hrU_veq h hc]
theorem goodSee_veq (h : veq g g') (n v w : Int32) : goodSee g' n v w ↔ goodSee g n v w := by
  unfold goodSee
  rw [h.a24]
end AL
theorem mfv_veq : ∀ (d : Nat) {g g' : Nat → Int32}, veq g g' → okC g → mfv d g' = mfv d g
  | 0, _, _, _, _ => rfl
  | d + 1, g, g', h, hc => by
    rw [mfv_s, mfv_s, h.c]
    refine mxv_c (fun k => ?_) _
    unfold lfv
    rw [sCho_veq h, uN_veq h hc, uN_veq h hc, mfv_veq d (hr_veq h hc _ _) (hc.hr _ _), mfv_veq d (hr_veq h hc _ _) (hc.hr _ _)]
theorem xPlay_veq {g g' : Nat → Int32} (h : veq g g') (hc : okC g) (n k : Int32) : xPlay g' n k = xPlay g n k := by
  have hf : ∀ d, plF g' d = plF g d := by
    intro d
    funext c
    unfold plF lfv
    rw [sCho_veq h, uN_veq h hc, uN_veq h hc, mfv_veq d (hr_veq h hc _ _) (hc.hr _ _), mfv_veq d (hr_veq h hc _ _) (hc.hr _ _)]
  have hl : (fun c : Nat => sCho g' (nI c)) = fun c => sCho g (nI c) := funext fun c => sCho_veq h _
  have hB : ∀ d, plB g' d = plB g d := by
    intro d
    unfold plB
    rw [hf, hl, h.c]
  unfold xPlay
  rw [hB]
/-- what was seen, alike -/
def sEq (m : gMem) (x : Nat) (m' : gMem) (x' s : Nat) : Prop := veq (pgC m (x + 1)) (pgC m' (x' + 1)) ∧ okC (pgC m (x + 1)) ∧ okB (pgC m (x + 1)) 9999 ∧ ∀ i, i < s → m'.1 (x' + 24) i = m.1 (x + 24) i ∧ m'.1 (x' + 25) i = m.1 (x + 25) i ∧ m'.1 (x' + 26) i = m.1 (x + 26) i
section AS
variable {m m' : gMem} {x x' s k : Nat}
theorem uB_s (h : sEq m x m' x' s) (hk : k ≠ 24 ∧ k ≠ 49 ∧ k ≠ 52) (b : Nat) : uB m' x' k b = uB m x k b := by
  funext n
  exact plUN_veq (h.1.up hk.1 hk.2.1 _) (h.2.1.up hk.1 _) (h.2.2.1.up hk.2.1 hk.2.2 _) n
theorem agB_s (h : sEq m x m' x' s) (hk : k ≠ 24 ∧ k ≠ 49 ∧ k ≠ 52) (b : Nat) : agB m' x' s k b ↔ agB m x s k b := by
  have hu := uB_s h hk b
  unfold uB at hu
  constructor
  · intro q i hi
    have := q i hi
    obtain ⟨e1, e2, e3⟩ := h.2.2.2 i hi
    rw [hu, e1, e2, e3] at this
    exact this
  · intro q i hi
    have := q i hi
    obtain ⟨e1, e2, e3⟩ := h.2.2.2 i hi
    rw [hu, e1, e2, e3]
    exact this
theorem agBits_s (h : sEq m x m' x' s) (hk : k ≠ 24 ∧ k ≠ 49 ∧ k ≠ 52) : ∀ b, agBits m' x' s k b = agBits m x s k b
  | 0 => rfl
  | b + 1 => by
    rw [agBits, agBits, agBits_s h hk b]
    by_cases q : agB m x s k b
    · rw [if_pos q, if_pos ((agB_s h hk b).mpr q)]
    · rw [if_neg q, if_neg (fun z => q ((agB_s h hk b).mp z))]
theorem agN_s (h : sEq m x m' x' s) (hk : k ≠ 24 ∧ k ≠ 49 ∧ k ≠ 52) : ∀ b, agN m' x' s k b = agN m x s k b
  | 0 => rfl
  | b + 1 => by
    rw [agN, agN, agN_s h hk b]
    by_cases q : agB m x s k b
    · rw [if_pos q, if_pos ((agB_s h hk b).mpr q)]
    · rw [if_neg q, if_neg (fun z => q ((agB_s h hk b).mp z))]
theorem upAt_s (h : sEq m x m' x' s) (hk : k ≠ 24 ∧ k ≠ 49 ∧ k ≠ 52) (v n : Int32) : ∀ b, upAt m' x' s k v n b = upAt m x s k v n b
  | 0 => rfl
  | b + 1 => by
    rw [upAt, upAt, upAt_s h hk v n b, uB_s h hk b]
    by_cases q : agB m x s k b
    · rw [if_pos q, if_pos ((agB_s h hk b).mpr q)]
    · rw [if_neg q, if_neg (fun z => q ((agB_s h hk b).mp z))]
theorem xNerves_s (h : sEq m x m' x' s) (v : Int32) (off n : Nat) (hof : off < 6) : xNerves m' x' s v off n = xNerves m x s v off n := by
  obtain ⟨e1, e2⟩ := h.2.1.n
  unfold xNerves
  rw [h.1.a24]
  cases hj : ixV (pgC m (x + 1) 24) v with
  | none => rfl
  | some j =>
    have hlt := (ixV_lt e1 (by omega) hj).1
    exact agBits_s h (by omega) n
theorem xAsk_s (h : sEq m x m' x' s) (v k : Int32) : xAsk m' x' s v k = xAsk m x s v k := by
  obtain ⟨e1, e2⟩ := h.2.1.n
  unfold xAsk
  rw [h.1.a24]
  cases hj : ixV (pgC m (x + 1) 24) v with
  | none => rfl
  | some j =>
    have hlt := (ixV_lt e1 (by omega) hj).1
    have hk : 4 * 2 + j ≠ 24 ∧ 4 * 2 + j ≠ 49 ∧ 4 * 2 + j ≠ 52 := by omega
    have hw : wors m' x' s (4 * 2 + j) v = wors m x s (4 * 2 + j) v := by
      funext n
      unfold wors
      rw [upAt_s h hk, agN_s h hk]
    dsimp only
    rw [hw, agN_s h hk]
end AS
