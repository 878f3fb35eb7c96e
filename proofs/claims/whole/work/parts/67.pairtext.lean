/-! the text, both sides -/
theorem lnR_52 {B : Nat → Int32} {L : Nat} {u : tkT} {g : Nat → Int32} {fl ca : Int32} (hg : okG g) : (lnR B L u g fl ca).2.1 52 = g 52 := by
  obtain ⟨⟨c, hc, hc4⟩, r, hr, hr12⟩ := id hg
  have hcn : cnt g = c := by unfold cnt; rw [hc, nI_clamp (by omega)]
  have hrn : rws g = r := by unfold rws; rw [hr, nI_clamp (by omega)]
  unfold lnR
  by_cases n7 : nmI B u = 7
  · rw [if_pos n7]
  rw [if_neg n7]
  by_cases n4 : nmI B u = 4
  · rw [if_pos n4]
    show upd g 50 (ln1 B L 4 (decide (fl ≠ 0)) 40 u).2 52 = g 52
    rw [pk_un (by decide)]
  rw [if_neg n4]
  by_cases n5 : nmI B u = 5
  · rw [if_pos n5]
    show upd g 51 (ln1 B L 4 (decide (ca ≠ 0)) 20 u).2 52 = g 52
    rw [pk_un (by decide)]
  rw [if_neg n5]
  by_cases n6 : nmI B u = 6
  · rw [if_pos n6]
    show (if rws g < 12 then addR g (rws g) _ _ else g) 52 = g 52
    by_cases hl : rws g < 12
    · rw [if_pos hl]
      unfold addR
      rw [pk_un (by decide), pk_un (by omega), pk_un (by omega)]
    · rw [if_neg hl]
  rw [if_neg n6]
  show (if cnt g < 4 then opn g (cnt g) _ _ _ else g) 52 = g 52
  by_cases hl : cnt g < 4
  · rw [if_pos hl]
    exact opn_52 g hl _ _ _
  · rw [if_neg hl]
theorem prs_52 {B : Nat → Int32} {L : Nat} : ∀ (k n : Nat) (R : pT) (g : Nat → Int32) (fl ca : Int32), okTk L R → okG g → (prs B L k n R g fl ca).2.2 52 = g 52
  | 0, _, _, _, _, _, _, _ => rfl
  | k + 1, n, .inl e, g, fl, ca, _, _ => rfl
  | k + 1, n, .inr u, g, fl, ca, hk, hg => by
    rw [prs]
    by_cases h0 : u.1 = 0
    · rw [if_pos h0]
    · rw [if_neg h0]
      have hl := lnR_ok (B := B) fl ca hk h0 hg
      rw [prs_52 k (n + 1) _ _ _ _ hl.1 hl.2, lnR_52 hg]
theorem clr_pgI (g : Nat → Int32) : veq (clr g) pgI := by
  have h24 : clr g 24 = 0 := by unfold clr; rw [pk_un (by decide), pk_un (by decide), pk_un (by decide), pk_un (by decide), pk_us]
  have h49 : clr g 49 = 0 := by unfold clr; rw [pk_un (by decide), pk_un (by decide), pk_un (by decide), pk_us]
  have h52 : clr g 52 = 0 := by unfold clr; rw [pk_un (by decide), pk_un (by decide), pk_us]
  have h50 : clr g 50 = 8 := by unfold clr; rw [pk_un (by decide), pk_us]
  have h51 : clr g 51 = 4 := by unfold clr; rw [pk_us]
  have hc : cnt (clr g) = 0 := by unfold cnt; rw [h24]; rfl
  have hr : rws (clr g) = 0 := by unfold rws; rw [h49]; rfl
  intro i hi
  unfold vis at hi
  rw [hc, hr] at hi
  have h5 : i = 24 ∨ i = 49 ∨ i = 50 ∨ i = 51 ∨ i = 52 := by omega
  rcases h5 with rfl | rfl | rfl | rfl | rfl
  · rw [h24]; rfl
  · rw [h49]; rfl
  · rw [h50]; rfl
  · rw [h51]; rfl
  · rw [h52]; rfl
theorem pr_text (E : gEv) (σ : gSg) (m : gMem) (hi x t : Nat) (hN : gN σ x) (hR : gR σ t) (h : REL m x t) (ht : x + 94 ≤ t) : gPair E σ m hi x t yX6_text cX6_text 3 (some .int) 8 yX7_text cX7_text 3 (some .int) 5 [] := by
  obtain ⟨L, hL, l1, l2, l3, l4⟩ := h.2.1
  have hT : okT m x L := ⟨l1, hL, fun p hp => by rw [l3]; exact l4 p hp⟩
  have hQ := prs_ok (B := m.1 (x + 22)) (L := L) 161 0 (nxt (m.1 (x + 22)) L 0) (clr (pgC m (x + 9))) 0 0 (nxt_ok (by omega)) (clr_ok _)
  have hQ52 := prs_52 (B := m.1 (x + 22)) (L := L) 161 0 (nxt (m.1 (x + 22)) L 0) (clr (pgC m (x + 9))) 0 0 (nxt_ok (by omega)) (clr_ok _)
  have hc52 : clr (pgC m (x + 9)) 52 = 0 := by unfold clr; rw [pk_un (by decide), pk_un (by decide), pk_us]
  rw [hc52] at hQ52
  have h1 := cX_text E σ m hi x L hN hT
  have h2 := fun (mm : gMem) (a : okTR mm t L) (b : okLt mm t) => cM_text E σ mm hi t L (clr (pgC m (x + 9))) hR a b (clr_pgI _) (clr_ok _)
  have eQ : ∀ mm : gMem, mm.1 (t + 3) = m.1 (t + 3) → prs (mm.1 (t + 3)) L 161 0 (nxt (mm.1 (t + 3)) L 0) (clr (pgC m (x + 9))) 0 0 = txQ m x L := by
    intro mm e
    unfold txQ
    rw [e, ← l3]
  change okTk L (txQ m x L).2.1 ∧ okG (txQ m x L).2.2 ∧ (txQ m x L).1 ≤ 0 + 161 at hQ
  change (txQ m x L).2.2 52 = 0 at hQ52
  generalize txQ m x L = Q at *
  have fin : ∀ (m0 m1 : gMem), (∀ q, t ≤ q → m0.1 q = m.1 q) → scr x m0 m1 → okTR m1 t L ∧ okLt m1 t ∧ m1.1 (t + 3) = m.1 (t + 3) := by
    intro m0 m1 e0 hs
    have er : ∀ q, t ≤ q → m1.1 q = m.1 q := fun q hq => by rw [hs q (by omega), e0 q hq]
    refine ⟨⟨by rw [er t (by omega)]; exact l2, hL, fun p hp => by rw [er _ (by omega)]; exact l4 p hp⟩, ?_, er _ (by omega)⟩
    exact h.2.2.2.2.2.2.cg (er _ (by omega)) (er _ (by omega))
  obtain ⟨n, R, g⟩ := Q
  match R, hQ, h1, h2, eQ with
  | .inl e, hQ, h1, h2, eQ =>
    refine ⟨_, h1, fun v m1 hv => ⟨-10 - nI e.2, hv.1, ?_⟩⟩
    have hs : scr x (gW (gW m (x + 21) 1 0) x 11 (nI e.1)) m1 := hv.2
    obtain ⟨f1, f2, f3⟩ := fin _ m1 (fun q hq => by rw [gW_rn (by omega), gW_rn (by omega)]) hs
    have hm := h2 m1 f1 f2
    rw [eQ m1 f3] at hm
    refine gCo.wk hm ?_
    rintro v2 m2 ⟨rfl, hr⟩
    refine ⟨rfl, ?_⟩
    have hN0 : REL (gW (gW (gW (gW m (x + 21) 1 0) x 11 (nI e.1)) t 5 0) t 6 (nI e.1)) x t := by
      obtain ⟨b1, b2, b3, b4, b5, b6, b7⟩ := h
      have e1 : ∀ q, q ≠ x → q ≠ x + 21 → q ≠ t → (gW (gW (gW (gW m (x + 21) 1 0) x 11 (nI e.1)) t 5 0) t 6 (nI e.1)).1 q = m.1 q := fun q a b c => by rw [gW_rn c, gW_rn c, gW_rn a, gW_rn b]
      have e2 : ∀ r, r ≠ 5 → r ≠ 6 → (gW (gW (gW (gW m (x + 21) 1 0) x 11 (nI e.1)) t 5 0) t 6 (nI e.1)).1 t r = m.1 t r := fun r a b => by rw [gW_n (by omega), gW_n (by omega), gW_rn (by omega), gW_rn (by omega)]
      refine ⟨b1.cg (fun q u v => e1 q (by omega) (by omega) (by omega)) (fun r _ => by rw [e1 _ (by omega) (by omega) (by omega)]), ⟨0, by omega, ?_, ?_, ?_, fun p hp => absurd hp (by omega)⟩, ⟨?_, ?_⟩, b4.cg (by rw [e1 _ (by omega) (by omega) (by omega)]) (e1 _ (by omega) (by omega) (by omega)) (e1 _ (by omega) (by omega) (by omega)) (e1 _ (by omega) (by omega) (by omega)) (e2 _ (by omega) (by omega)) (e1 _ (by omega) (by omega) (by omega)), b5.cg (e1 _ (by omega) (by omega) (by omega)) (fun q u v => e1 q (by omega) (by omega) (by omega)) (e1 _ (by omega) (by omega) (by omega)) (fun r _ _ => by rw [e1 _ (by omega) (by omega) (by omega)]), b6.cg (fun q u v => e1 q (by omega) (by omega) (by omega)) (e1 _ (by omega) (by omega) (by omega)) (e1 _ (by omega) (by omega) (by omega)) (e1 _ (by omega) (by omega) (by omega)), b7.cg (e1 _ (by omega) (by omega) (by omega)) (e1 _ (by omega) (by omega) (by omega))⟩
      · rw [gW_n (by omega), gW_n (by omega), gW_n (by omega), gW_s]; rfl
      · rw [gW_n (by omega), gW_s]; rfl
      · rw [e1 _ (by omega) (by omega) (by omega), e1 _ (by omega) (by omega) (by omega)]; exact l3
      · rw [gW_s, gW_rn (by omega), gW_rn (by omega), gW_s]
      · rw [e2 29 (by omega) (by omega), gW_rn (by omega), gW_rn (by omega), gW_n (by omega), gW_rn (by omega)]; exact b3.2
    exact hN0.sc ht ((hs.w t 5 0).w t 6 (nI e.1)) hr
  | .inr u, hQ, h1, h2, eQ =>
    refine ⟨_, h1, fun v m1 hv => ⟨nI n, hv.1, ?_⟩⟩
    obtain ⟨P, hP, hP0, hs⟩ := hv.2
    obtain ⟨f1, f2, f3⟩ := fin _ m1 (fun q hq => by unfold txM; rw [gW_rn (by omega), gW_rn (by omega), gW_rn (by omega), gP_row (by omega), gW_rn (by omega), gW_rn (by omega)]) hs
    have hm := h2 m1 f1 f2
    rw [eQ m1 f3] at hm
    refine gCo.wk hm ?_
    rintro v2 m2 ⟨rfl, P', hP', hP0', hr⟩
    refine ⟨rfl, ?_⟩
    have hgC : okC g := hQ.2.1.1
    have hgB : okB g 9999 := by
      obtain ⟨r, a1, a2⟩ := hQ.2.1.2
      exact ⟨r, 0, a1, a2, hQ52, by omega⟩
    have hN0 : REL (txMR (txM m x P) t P') x t := by
      have hh := h.pg ht (hP.sm.tr hP') (hgC.v hP) (hgB.v hP) hP0 hP0'
      have hpP : pgC (txMR (txM m x P) t P') (x + 1) = P := by
        rw [pgC_rows (m := gP (gW (gW m (x + 21) 1 0) x 11 0) (x + 1) P) (fun q a b => by unfold txMR txM; rw [gW_rn (by omega), gW_rn (by omega), gW_rn (by omega), gQ_row (by omega), gW_rn (by omega), gW_rn (by omega), gW_rn (by omega), gW_rn (by omega), gW_rn (by omega)])]
        exact pgC_gP hP0 _ _
      have hpR : pgR (txMR (txM m x P) t P') t 0 = P' := by
        rw [pgR_row (m := gQ (gW (gW (txM m x P) t 5 0) t 6 0) t 0 P') (by unfold txMR; rw [gW_rn (by omega), gW_rn (by omega), gW_rn (by omega)])]
        exact pgR_gQ hP0' _ _ _
      have e1 : ∀ q, q ≠ x → q ≠ x + 21 → ¬ (x + 1 ≤ q ∧ q < x + 9) → q ≠ x + 19 → q ≠ x + 23 → q ≠ t → q ≠ t + 1 → q ≠ t + 11 → (txMR (txM m x P) t P').1 q = m.1 q := fun q a b c d e f k l => by
        unfold txMR txM
        rw [gW_rn l, gW_rn l, gW_rn f, gQ_row k, gW_rn f, gW_rn f, gW_rn d, gW_rn d, gW_rn e, gP_row (by omega), gW_rn a, gW_rn b]
      have et : ∀ r, r ≠ 5 → r ≠ 6 → r ≠ 23 → (txMR (txM m x P) t P').1 t r = m.1 t r := fun r a b c => by
        unfold txMR txM
        rw [gW_rn (by omega), gW_rn (by omega), gW_n (by omega), gQ_row (by omega), gW_n (by omega), gW_n (by omega), gW_rn (by omega), gW_rn (by omega), gW_rn (by omega), gP_row (by omega), gW_rn (by omega), gW_rn (by omega)]
      have ex : ∀ r, r ≠ 11 → (txMR (txM m x P) t P').1 x r = m.1 x r := fun r a => by
        unfold txMR txM
        rw [gW_rn (by omega), gW_rn (by omega), gW_rn (by omega), gQ_row (by omega), gW_rn (by omega), gW_rn (by omega), gW_rn (by omega), gW_rn (by omega), gW_rn (by omega), gP_row (by omega), gW_n (by omega), gW_rn (by omega)]
      have x21 : (txMR (txM m x P) t P').1 (x + 21) 1 = 0 := by
        unfold txMR txM
        rw [gW_rn (by omega), gW_rn (by omega), gW_rn (by omega), gQ_row (by omega), gW_rn (by omega), gW_rn (by omega), gW_rn (by omega), gW_rn (by omega), gW_rn (by omega), gP_row (by omega), gW_rn (by omega), gW_s]
      have t5 : (txMR (txM m x P) t P').1 t 5 = 0 := by
        unfold txMR
        rw [gW_rn (by omega), gW_rn (by omega), gW_n (by omega), gQ_row (by omega), gW_n (by omega), gW_s]
      have t6 : (txMR (txM m x P) t P').1 t 6 = 0 := by
        unfold txMR
        rw [gW_rn (by omega), gW_rn (by omega), gW_n (by omega), gQ_row (by omega), gW_s]
      have t23 : (txMR (txM m x P) t P').1 t 23 = 0 := by
        unfold txMR
        rw [gW_rn (by omega), gW_rn (by omega), gW_s]
      have x11 : (txMR (txM m x P) t P').1 x 11 = 0 := by
        unfold txMR txM
        rw [gW_rn (by omega), gW_rn (by omega), gW_rn (by omega), gQ_row (by omega), gW_rn (by omega), gW_rn (by omega), gW_rn (by omega), gW_rn (by omega), gW_rn (by omega), gP_row (by omega), gW_s]
      have x23 : (txMR (txM m x P) t P').1 (x + 23) 3 = 0 := by
        unfold txMR txM
        rw [gW_rn (by omega), gW_rn (by omega), gW_rn (by omega), gQ_row (by omega), gW_rn (by omega), gW_rn (by omega), gW_rn (by omega), gW_rn (by omega), gW_s]
      have x19 : ∀ j, j < 2 → (txMR (txM m x P) t P').1 (x + 19) j = 0 := by
        intro j hj
        unfold txMR txM
        rw [gW_rn (by omega), gW_rn (by omega), gW_rn (by omega), gQ_row (by omega), gW_rn (by omega), gW_rn (by omega), gW_ro, gW_ro]
        rcases (show j = 0 ∨ j = 1 by omega) with rfl | rfl
        · rw [pk_un (by decide), pk_us]
        · rw [pk_us]
      have t11 : ∀ j, j < 2 → (txMR (txM m x P) t P').1 (t + 11) j = 0 := by
        intro j hj
        unfold txMR
        rw [gW_ro, gW_ro]
        rcases (show j = 0 ∨ j = 1 by omega) with rfl | rfl
        · rw [pk_un (by decide), pk_us]
        · rw [pk_us]
      obtain ⟨b1, b2, b3, b4, b5, b6, b7⟩ := h
      generalize txMR (txM m x P) t P' = M at *
      refine ⟨by unfold rP; rw [hpP, hpR]; exact ⟨hP.sm.tr hP', hgC.v hP, hgB.v hP⟩, ⟨0, by omega, x21, t5, ?_, fun p hp => absurd hp (by omega)⟩, ⟨by rw [t6, x11], by rw [et 29 (by omega) (by omega) (by omega), ex 12 (by omega)]; exact b3.2⟩, ⟨0, by omega, x23, t23, fun i hi' => absurd hi' (by omega)⟩, fun j hj => ⟨by rw [t11 j hj, x19 j hj], fun q => absurd (x19 j hj) q⟩, b6.cg (fun q u v => e1 q (by omega) (by omega) (by omega) (by omega) (by omega) (by omega) (by omega) (by omega)) (e1 _ (by omega) (by omega) (by omega) (by omega) (by omega) (by omega) (by omega) (by omega)) (e1 _ (by omega) (by omega) (by omega) (by omega) (by omega) (by omega) (by omega) (by omega)) (e1 _ (by omega) (by omega) (by omega) (by omega) (by omega) (by omega) (by omega) (by omega)), b7.cg (e1 _ (by omega) (by omega) (by omega) (by omega) (by omega) (by omega) (by omega) (by omega)) (e1 _ (by omega) (by omega) (by omega) (by omega) (by omega) (by omega) (by omega) (by omega))⟩
      rw [e1 _ (by omega) (by omega) (by omega) (by omega) (by omega) (by omega) (by omega) (by omega), e1 _ (by omega) (by omega) (by omega) (by omega) (by omega) (by omega) (by omega) (by omega)]
      exact l3
    have hs2 : scr x (txMR (txM m x P) t P') (txMR m1 t P') := by
      unfold txMR
      refine scr.w (scr.w (scr.w ?_ _ _ _) _ _ _) _ _ _
      have hb : scr x (gW (gW (txM m x P) t 5 0) t 6 0) (gW (gW m1 t 5 0) t 6 0) := (hs.w t 5 0).w t 6 0
      intro q hq
      funext r
      by_cases hc : q = t + 1 ∧ 0 ≤ r ∧ r < 0 + 53
      · obtain ⟨rfl, c1, c2⟩ := hc
        obtain ⟨i, rfl⟩ : ∃ i, r = 0 + i := ⟨r, by omega⟩
        rw [gQ_in (by omega), gQ_in (by omega)]
      · rw [gQ_out (by omega), gQ_out (by omega), hb q hq]
    exact hN0.sc ht hs2 hr
