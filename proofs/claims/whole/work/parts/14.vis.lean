/-! what a page shows -/
def vis (g : Nat → Int32) (i : Nat) : Prop := (i < 24 ∧ i % 4 < cnt g) ∨ i = 24 ∨ (25 ≤ i ∧ i < 37 ∧ i - 25 < rws g) ∨ (37 ≤ i ∧ i < 49 ∧ i - 37 < rws g) ∨ (49 ≤ i ∧ i < 53)
def veq (g g' : Nat → Int32) : Prop := ∀ i, vis g i → g' i = g i
theorem veq.rf (g : Nat → Int32) : veq g g := fun _ _ => rfl
theorem veq.a24 {g g' : Nat → Int32} (h : veq g g') : g' 24 = g 24 := h 24 (Or.inr (Or.inl rfl))
theorem veq.a49 {g g' : Nat → Int32} (h : veq g g') : g' 49 = g 49 := h 49 (Or.inr (Or.inr (Or.inr (Or.inr (by omega)))))
theorem veq.a50 {g g' : Nat → Int32} (h : veq g g') : g' 50 = g 50 := h 50 (Or.inr (Or.inr (Or.inr (Or.inr (by omega)))))
theorem veq.a51 {g g' : Nat → Int32} (h : veq g g') : g' 51 = g 51 := h 51 (Or.inr (Or.inr (Or.inr (Or.inr (by omega)))))
theorem veq.a52 {g g' : Nat → Int32} (h : veq g g') : g' 52 = g 52 := h 52 (Or.inr (Or.inr (Or.inr (Or.inr (by omega)))))
theorem veq.c {g g' : Nat → Int32} (h : veq g g') : cnt g' = cnt g := by unfold cnt; rw [h.a24]
theorem veq.r {g g' : Nat → Int32} (h : veq g g') : rws g' = rws g := by unfold rws; rw [h.a49]
theorem vis_c {g g' : Nat → Int32} (hc : cnt g' = cnt g) (hr : rws g' = rws g) {i : Nat} : vis g' i ↔ vis g i := by
  unfold vis
  rw [hc, hr]
theorem veq.sm {g g' : Nat → Int32} (h : veq g g') : veq g' g := fun i hi => (h i ((vis_c h.c h.r).mp hi)).symm
theorem veq.tr {g g' g'' : Nat → Int32} (h : veq g g') (h' : veq g' g'') : veq g g'' := fun i hi => (h' i ((vis_c h.c h.r).mpr hi)).trans (h i hi)
theorem veq.v {g g' : Nat → Int32} (h : veq g g') {j k : Nat} (hj : j < cnt g) (hk : k < 6) (hj4 : j < 4) : g' (4 * k + j) = g (4 * k + j) := h _ (Or.inl ⟨by omega, by omega⟩)
theorem veq.w {g g' : Nat → Int32} (h : veq g g') {j : Nat} (hj : j < rws g) (hj4 : j < 12) : g' (25 + j) = g (25 + j) := h _ (Or.inr (Or.inr (Or.inl ⟨by omega, by omega, by omega⟩)))
theorem veq.o {g g' : Nat → Int32} (h : veq g g') {j : Nat} (hj : j < rws g) (hj4 : j < 12) : g' (37 + j) = g (37 + j) := h _ (Or.inr (Or.inr (Or.inr (Or.inl ⟨by omega, by omega, by omega⟩))))
theorem bec_veq (s d : Nat → Int32) : veq s (bec s d) := by
  intro i hi
  unfold bec bec3
  by_cases h : (25 ≤ i ∧ i < 37 ∧ i - 25 < rws s) ∨ (37 ≤ i ∧ i < 49 ∧ i - 37 < rws s)
  · rw [if_pos h]
  rw [if_neg h]
  unfold bec2
  by_cases h2 : i < 24 ∧ i % 4 < cnt s
  · rw [if_pos h2]
  rw [if_neg h2]
  have h5 : i = 24 ∨ i = 49 ∨ i = 50 ∨ i = 51 ∨ i = 52 := by unfold vis at hi; omega
  unfold bec1
  rcases h5 with rfl | rfl | rfl | rfl | rfl
  · rw [pk_un (by decide), pk_un (by decide), pk_un (by decide), pk_un (by decide), pk_us]
  · rw [pk_un (by decide), pk_un (by decide), pk_un (by decide), pk_us]
  · rw [pk_un (by decide), pk_us]
  · rw [pk_us]
  · rw [pk_un (by decide), pk_un (by decide), pk_us]
theorem bec_0 {s d : Nat → Int32} (hd : pg0 d) : pg0 (bec s d) := by
  intro i hi
  unfold bec bec3 bec2 bec1
  rw [if_neg (by omega), if_neg (by omega), pk_un (by omega), pk_un (by omega), pk_un (by omega), pk_un (by omega), pk_un (by omega)]
  exact hd i hi
theorem cnt_le {g : Nat → Int32} (h : okC g) : cnt g ≤ 4 := by
  obtain ⟨c, e, h4⟩ := h
  unfold cnt
  rw [e, nI_clamp (by omega)]
  exact h4
theorem okC.v {g g' : Nat → Int32} (h : veq g g') (hc : okC g) : okC g' := by
  obtain ⟨c, e, h4⟩ := hc
  exact ⟨c, by rw [h.a24]; exact e, h4⟩
theorem okB.v {g g' : Nat → Int32} {b : Nat} (h : veq g g') (hc : okB g b) : okB g' b := by
  obtain ⟨r, h1, e1, e2, e3, e4⟩ := hc
  exact ⟨r, h1, by rw [h.a49]; exact e1, e2, by rw [h.a52]; exact e3, e4⟩
theorem sShr_veq {g g' : Nat → Int32} (h : veq g g') (v : Nat) : sShr g' v = sShr g v := by
  unfold sShr
  rw [h.a50, h.a24]
theorem vH_veq {g g' : Nat → Int32} (h : veq g g') {v : Nat} (hv : v < cnt g) (h4 : v < 4) : vH g' v = vH g v := by
  unfold vH
  rw [sShr_veq h, show 12 + v = 4 * 3 + v by omega, h.v hv (by decide) h4]
theorem vF_veq {g g' : Nat → Int32} (h : veq g g') (w c : Int32) {v : Nat} (hv : v < cnt g) (h4 : v < 4) : vF g' w c v = vF g w c v := by
  have e0 : g' v = g v := by have := h.v (k := 0) hv (by decide) h4; simpa using this
  unfold vF
  rw [e0, show 8 + v = 4 * 2 + v by omega, h.v hv (by decide) h4, show 16 + v = 4 * 4 + v by omega, h.v hv (by decide) h4, h.a51]
theorem vN_veq {g g' : Nat → Int32} (h : veq g g') {v : Nat} (hv : v < cnt g) (h4 : v < 4) : g' (4 + v) = g (4 + v) := by
  have := h.v (k := 1) hv (by decide) h4
  simpa using this
theorem vX_veq {g g' : Nat → Int32} (h : veq g g') (w c : Int32) {v : Nat} (hv : v < cnt g) (h4 : v < 4) (k : Nat) : vX g' w c v k = vX g w c v k := by
  unfold vX
  rw [vH_veq h hv h4, vF_veq h w c hv h4, vN_veq h hv h4, show 20 + v = 4 * 5 + v by omega, h.v hv (by decide) h4]
theorem hr_cnt (g : Nat → Int32) (w c : Int32) : cnt (hr g w c) = cnt g := by unfold cnt; rw [hr_24]
theorem hr_rws (g : Nat → Int32) (w c : Int32) : rws (hr g w c) = rws g := by unfold rws; rw [hr_49]
theorem hr_veq {g g' : Nat → Int32} (h : veq g g') (hc : okC g) (w c : Int32) : veq (hr g w c) (hr g' w c) := by
  have h4 := cnt_le hc
  intro i hi
  rw [vis_c (hr_cnt g w c) (hr_rws g w c)] at hi
  unfold hr
  by_cases h52 : i = 52
  · subst h52; rw [pk_us, pk_us, h.a52]
  rw [pk_un h52, pk_un h52, h.c]
  unfold hrJ
  by_cases hh : 12 ≤ i ∧ i < 24 ∧ i % 4 < cnt g
  · rw [if_pos hh, if_pos hh, vX_veq h w c hh.2.2 (by omega)]
  · rw [if_neg hh, if_neg hh]
    exact h i hi
theorem hrUj_veq {g g' : Nat → Int32} (h : veq g g') (hc : okC g) (w c : Int32) : ∀ j, j ≤ cnt g → hrUj g' w c j = hrUj g w c j
  | 0, _ => rfl
  | j + 1, hj => by
    have h4 := cnt_le hc
    rw [hrUj, hrUj, hrUj_veq h hc w c j (by omega), vN_veq h (by omega) (by omega), vF_veq h w c (by omega) (by omega), vH_veq h (by omega) (by omega)]
theorem hrU_veq {g g' : Nat → Int32} (h : veq g g') (hc : okC g) (w c : Int32) : hrU g' w c = hrU g w c := by
  unfold hrU
  rw [h.c]
  exact hrUj_veq h hc w c _ (Nat.le_refl _)
theorem rws_le {g : Nat → Int32} {b : Nat} (h : okB g b) : rws g ≤ 12 := by
  obtain ⟨r, h1, e1, e2, -, -⟩ := h
  unfold rws
  rw [e1, nI_clamp (by omega)]
  exact e2
theorem sWat_veq {g g' : Nat → Int32} {b : Nat} (h : veq g g') (ho : okB g b) : sWat g' = sWat g := by
  have h12 := rws_le ho
  unfold sWat
  rw [h.a49, h.a52]
  by_cases h0 : (g 49).toNatClampNeg = 0
  · rw [if_pos h0, if_pos h0]
  · rw [if_neg h0, if_neg h0]
    have hlt : (g 52).toNatClampNeg % (g 49).toNatClampNeg < rws g := Nat.mod_lt _ (by omega)
    exact h.w hlt (by omega)
theorem sWho_veq {g g' : Nat → Int32} {b : Nat} (h : veq g g') (ho : okB g b) : sWho g' = sWho g := by
  have h12 := rws_le ho
  unfold sWho
  rw [h.a49, h.a52]
  by_cases h0 : (g 49).toNatClampNeg = 0
  · rw [if_pos h0, if_pos h0]
  · rw [if_neg h0, if_neg h0]
    have hlt : (g 52).toNatClampNeg % (g 49).toNatClampNeg < rws g := Nat.mod_lt _ (by omega)
    exact h.o hlt (by omega)
theorem pl_veq {g g' : Nat → Int32} {b : Nat} (h : veq g g') (hc : okC g) (ho : okB g b) : veq (pl g) (pl g') := by
  unfold pl
  rw [sWat_veq h ho, sWho_veq h ho]
  exact hr_veq h hc _ _
theorem plU_veq {g g' : Nat → Int32} {b : Nat} (h : veq g g') (hc : okC g) (ho : okB g b) : plU g' = plU g := by
  unfold plU
  rw [sWat_veq h ho, sWho_veq h ho, hrU_veq h hc]
theorem plN_veq {g g' : Nat → Int32} {b : Nat} (h : veq g g') (hc : okC g) (ho : okB g b) : ∀ n, veq (plN g n) (plN g' n)
  | 0 => h
  | n + 1 => pl_veq (plN_veq h hc ho n) (plN_C hc n) (plN_B ho n)
theorem plUN_veq {g g' : Nat → Int32} {b : Nat} (h : veq g g') (hc : okC g) (ho : okB g b) (n : Nat) : plU (plN g' n) = plU (plN g n) := plU_veq (plN_veq h hc ho n) (plN_C hc n) (plN_B ho n)
theorem upsN_veq {g g' : Nat → Int32} {b : Nat} (h : veq g g') (hc : okC g) (ho : okB g b) : ∀ n, upsN g' n = upsN g n
  | 0 => rfl
  | n + 1 => by rw [upsN, upsN, upsN_veq h hc ho n, plUN_veq h hc ho]
theorem upsV_veq {g g' : Nat → Int32} {b : Nat} (h : veq g g') (hc : okC g) (ho : okB g b) (v : Int32) : ∀ n, upsV g' v n = upsV g v n
  | 0 => rfl
  | n + 1 => by rw [upsV, upsV, upsV_veq h hc ho v n, plUN_veq h hc ho]
theorem gHj_veq {g g' : Nat → Int32} (h : veq g g') (hc : okC g) : ∀ j, j ≤ cnt g → gHj g' j = gHj g j
  | 0, _ => rfl
  | j + 1, hj => by
    have h4 := cnt_le hc
    rw [gHj, gHj, gHj_veq h hc j (by omega), show 12 + j = 4 * 3 + j by omega, h.v (by omega) (by decide) (by omega)]
theorem gHt_veq {g g' : Nat → Int32} (h : veq g g') (hc : okC g) : gHt g' = gHt g := by
  unfold gHt
  rw [h.c]
  exact gHj_veq h hc _ (Nat.le_refl _)
theorem sumJ_veq {g g' : Nat → Int32} (h : veq g g') (hc : okC g) {k : Nat} (hk : k < 6) : ∀ j, j ≤ cnt g → sumJ g' k j = sumJ g k j
  | 0, _ => rfl
  | j + 1, hj => by
    have h4 := cnt_le hc
    rw [sumJ, sumJ, sumJ_veq h hc hk j (by omega), h.v (by omega) hk (by omega)]
theorem sumP_veq {g g' : Nat → Int32} (h : veq g g') (hc : okC g) {k : Nat} (hk : k < 6) : sumP g' k = sumP g k := by
  unfold sumP
  rw [h.c]
  exact sumJ_veq h hc hk _ (Nat.le_refl _)
theorem sumW_veq {g g' : Nat → Int32} (h : veq g g') (hr : rws g ≤ 12) : ∀ j, j ≤ rws g → sumW g' j = sumW g j
  | 0, _ => rfl
  | j + 1, hj => by rw [sumW, sumW, sumW_veq h hr j (by omega), h.w (by omega) (by omega)]
theorem sTurn_veq {g g' : Nat → Int32} (h : veq g g') : sTurn g' = sTurn g := by
  unfold sTurn
  rw [h.a49, h.a52]
theorem sCho_veq {g g' : Nat → Int32} (h : veq g g') (k : Int32) : sCho g' k = sCho g k := by
  unfold sCho
  rw [h.a24]
theorem pleN_veq {g g' : Nat → Int32} {b : Nat} (h : veq g g') (hc : okC g) (ho : okB g b) : ∀ n, pleN g' n = pleN g n
  | 0 => rfl
  | n + 1 => by rw [pleN, pleN, pleN_veq h hc ho n, plUN_veq h hc ho, sWat_veq (plN_veq h hc ho n) (plN_B ho n)]
theorem vaiN_veq {g g' : Nat → Int32} {b : Nat} (h : veq g g') (hc : okC g) (ho : okB g b) : ∀ n, vaiN g' n = vaiN g n
  | 0 => rfl
  | n + 1 => by rw [vaiN, vaiN, vaiN_veq h hc ho n, plUN_veq h hc ho, sWat_veq (plN_veq h hc ho n) (plN_B ho n)]
theorem hotN_veq {g g' : Nat → Int32} {b : Nat} (h : veq g g') (hc : okC g) (ho : okB g b) : ∀ n, hotN g' n = hotN g n
  | 0 => gHt_veq h hc
  | n + 1 => by rw [hotN, hotN, hotN_veq h hc ho n, gHt_veq (plN_veq h hc ho (n + 1)) (plN_C hc (n + 1))]
theorem talN_veq {g g' : Nat → Int32} {b : Nat} (h : veq g g') (hc : okC g) (ho : okB g b) (n k : Nat) : talN g' n k = talN g n k := by
  match k with
  | 0 => exact upsN_veq h hc ho n
  | 1 => exact pleN_veq h hc ho n
  | 2 => exact vaiN_veq h hc ho n
  | 3 => exact sumP_veq (plN_veq h hc ho n) (plN_C hc n) (by decide)
  | k + 4 => exact hotN_veq h hc ho n
theorem asNow_veq {g g' u u' : Nat → Int32} (h : veq g g') (h' : veq u u') (hc : okC g) (hcu : okC u) : asNow g' u' ↔ asNow g u := by
  have h4 := cnt_le hc
  unfold asNow
  rw [sTurn_veq h, sTurn_veq h', h.a24, h'.a24, h.c]
  have key : g 24 = u 24 → ∀ v, v < cnt g → g' (12 + v) = g (12 + v) ∧ u' (12 + v) = u (12 + v) ∧ g' (16 + v) = g (16 + v) ∧ u' (16 + v) = u (16 + v) := by
    intro e v hv
    have ec : cnt u = cnt g := by unfold cnt; rw [e]
    exact ⟨by rw [show 12 + v = 4 * 3 + v by omega]; exact h.v hv (by decide) (by omega), by rw [show 12 + v = 4 * 3 + v by omega]; exact h'.v (by omega) (by decide) (by omega), by rw [show 16 + v = 4 * 4 + v by omega]; exact h.v hv (by decide) (by omega), by rw [show 16 + v = 4 * 4 + v by omega]; exact h'.v (by omega) (by decide) (by omega)⟩
  constructor
  · rintro ⟨a, b, c⟩
    refine ⟨a, b, fun v hv => ?_⟩
    obtain ⟨k1, k2, k3, k4⟩ := key b v hv
    have := c v hv
    rw [k1, k2, k3, k4] at this
    exact this
  · rintro ⟨a, b, c⟩
    refine ⟨a, b, fun v hv => ?_⟩
    obtain ⟨k1, k2, k3, k4⟩ := key b v hv
    rw [k1, k2, k3, k4]
    exact c v hv
