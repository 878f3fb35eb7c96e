/-! sheets and the text, both sides -/
theorem rnM_a (m : gMem) (a : Nat) (la : Int32) (n : Nat) : (rnM m a la n).1 a = upd (upd (m.1 a) 1 la) 2 (nI n) := by
  funext r
  unfold rnM
  show (if a = a + 1 ∧ r < 40 then (0 : Int32) else (gW (gW m a 1 la) a 2 (nI n)).1 a r) = _
  rw [if_neg (by omega), gW_ro, gW_ro]
theorem rnM_c (m : gMem) (a : Nat) (la : Int32) (n : Nat) {r : Nat} (hr : r < 40) : (rnM m a la n).1 (a + 1) r = 0 := if_pos ⟨rfl, hr⟩
theorem rnM_n {m : gMem} {a q : Nat} {la : Int32} {n : Nat} (h : q ≠ a ∧ q ≠ a + 1) : (rnM m a la n).1 q = m.1 q := by
  funext r
  unfold rnM
  show (if q = a + 1 ∧ r < 40 then (0 : Int32) else (gW (gW m a 1 la) a 2 (nI n)).1 q r) = _
  rw [if_neg (fun z => h.2 z.1), gW_rn h.1, gW_rn h.1]
theorem rnR_12 (m : gMem) (t j : Nat) (la n : Int32) : (rnR m t j la n).1 (t + 12) = upd (m.1 (t + 12)) j la := by
  funext r
  unfold rnR
  show (if t + 12 = t + 14 ∧ 40 * j ≤ r ∧ r < 40 * j + 40 then (0 : Int32) else (gW (gW m (t + 12) j la) (t + 13) j n).1 (t + 12) r) = _
  rw [if_neg (by omega), gW_rn (by omega), gW_ro]
theorem rnR_13 (m : gMem) (t j : Nat) (la n : Int32) : (rnR m t j la n).1 (t + 13) = upd (m.1 (t + 13)) j n := by
  funext r
  unfold rnR
  show (if t + 13 = t + 14 ∧ 40 * j ≤ r ∧ r < 40 * j + 40 then (0 : Int32) else (gW (gW m (t + 12) j la) (t + 13) j n).1 (t + 13) r) = _
  rw [if_neg (by omega), gW_ro, gW_rn (by omega)]
theorem rnR_14 (m : gMem) (t j : Nat) (la n : Int32) (r : Nat) : (rnR m t j la n).1 (t + 14) r = if 40 * j ≤ r ∧ r < 40 * j + 40 then 0 else m.1 (t + 14) r := by
  unfold rnR
  show (if t + 14 = t + 14 ∧ 40 * j ≤ r ∧ r < 40 * j + 40 then (0 : Int32) else (gW (gW m (t + 12) j la) (t + 13) j n).1 (t + 14) r) = _
  by_cases h : 40 * j ≤ r ∧ r < 40 * j + 40
  · rw [if_pos h, if_pos ⟨rfl, h⟩]
  · rw [if_neg h, if_neg (fun z => h z.2), gW_rn (by omega), gW_rn (by omega)]
theorem rnR_n {m : gMem} {t j q : Nat} {la n : Int32} (h : q ≠ t + 12 ∧ q ≠ t + 13 ∧ q ≠ t + 14) : (rnR m t j la n).1 q = m.1 q := by
  funext r
  unfold rnR
  show (if q = t + 14 ∧ 40 * j ≤ r ∧ r < 40 * j + 40 then (0 : Int32) else (gW (gW m (t + 12) j la) (t + 13) j n).1 q r) = _
  rw [if_neg (fun z => h.2.2 z.1), gW_rn h.2.1, gW_rn h.1]
theorem pr_sheet (E : gEv) (σ : gSg) (m : gMem) (hi x t : Nat) (k la n : Int32) (hN : gN σ x) (hR : gR σ t) (h : REL m x t) (ht : x + 94 ≤ t) : gPair E σ m hi x t yX6_sheet cX6_sheet 4 (some .int) 2 yX7_sheet cX7_sheet 5 (some .int) 1 [.int k, .int la, .int n] := by
  have h1 := cX_sheet E σ m hi x k la n hN
  have h2 := fun mm => cM_sheet E σ mm hi t k la n hR
  by_cases hg : gdS k la n ∧ 0 ≤ n
  · rw [if_pos hg] at h1
    have h3 := h2 (rnM m (x + 86 + 2 * k.toNatClampNeg) la n.toNatClampNeg)
    rw [if_pos hg] at h3
    refine pair_x h1 h3 ?_
    obtain ⟨j, hj, ej⟩ := le_nI (c := 3) (by omega) hg.1.1.1 hg.1.1.2
    obtain ⟨a, ha, ea⟩ := le_nI (c := 2) (by omega) hg.1.2.1.1 hg.1.2.1.2
    obtain ⟨u, hu, eu⟩ := le_nI (c := 40) (by omega) hg.2 hg.1.2.2
    rw [ej, eu, nI_clamp (by omega), nI_clamp (by omega), ea]
    have rH0 := h.2.2.2.2.2.1
    refine h.setH ht (fun i hi' => ?_) (fun q u1 u2 u3 u4 => ?_)
    · unfold shE
      rw [rnR_12, rnR_13, rnM_n (by omega), rnM_n (by omega), rnR_n (q := x + 86 + 2 * i) (by omega), rnR_n (q := x + 86 + 2 * i + 1) (by omega)]
      by_cases hij : i = j
      · subst hij
        rw [rnM_a, pk_us, pk_us, pk_us, pk_un (by decide), pk_us]
        refine ⟨Or.inr ⟨a, u, ha, hu, rfl, rfl, rfl, rfl⟩, fun r hr => ?_⟩
        rw [rnR_14, if_pos (by omega), rnM_c m _ _ _ hr]
      · rw [pk_un hij, pk_un hij, rnM_n (by omega), rnM_n (by omega)]
        refine ⟨(rH0 i hi').1, fun r hr => ?_⟩
        rw [rnR_14, if_neg (by omega), rnM_n (by omega)]
        exact (rH0 i hi').2 r hr
    · rw [rnR_n ⟨u2, u3, u4⟩, rnM_n (by omega)]
  · rw [if_neg hg] at h1
    have h3 := h2 m
    rw [if_neg hg] at h3
    exact pair_eq h h1 h3
theorem REL.oH {m : gMem} {x t : Nat} (h : REL m x t) : okH m x := fun j hj => (h.sz hj).2
theorem REL.oHR {m : gMem} {x t : Nat} (h : REL m x t) : okHR m t := by
  intro j hj
  rcases (h.2.2.2.2.2.1 j hj).1 with ⟨e1, e2⟩ | ⟨a, s, ha, hs, e1, e2, e3, e4⟩
  · exact Or.inl e2
  · exact Or.inr ⟨⟨a, ha, e4⟩, s, hs, e2⟩
theorem xLay_1 {m : gMem} {x : Nat} {k i : Int32} (h : xLay m x k i = 1) : (0 ≤ k ∧ k ≤ 3) ∧ fS (m.1 (x + 86 + 2 * k.toNatClampNeg) 2) 0 0 i.toInt = 0 := by
  unfold xLay at h
  by_cases hk : 0 ≤ k ∧ k ≤ 3
  · rw [if_pos hk] at h
    refine ⟨hk, ?_⟩
    by_cases hf : fS (m.1 (x + 86 + 2 * k.toNatClampNeg) 2) 0 0 i.toInt = 0
    · exact hf
    · rw [if_neg hf] at h
      unfold fS at h
      by_cases c1 : m.1 (x + 86 + 2 * k.toNatClampNeg) 2 < 0
      · rw [if_pos c1] at h; exact absurd h (by decide)
      rw [if_neg c1, if_neg (fun q => q rfl)] at h
      by_cases c2 : i.toInt < 0 ∨ (m.1 (x + 86 + 2 * k.toNatClampNeg) 2).toInt ≤ i.toInt
      · rw [if_pos c2] at h; exact absurd h (by decide)
      · rw [if_neg c2] at h; exact absurd h (by decide)
  · rw [if_neg hk] at h; exact absurd h (by decide)
theorem pr_lay (E : gEv) (σ : gSg) (m : gMem) (hi x t : Nat) (k i v : Int32) (hN : gN σ x) (hR : gR σ t) (h : REL m x t) (ht : x + 94 ≤ t) : gPair E σ m hi x t yX6_lay cX6_lay 5 (some .int) 1 yX7_lay cX7_lay 4 (some .int) 1 [.int k, .int i, .int v] := by
  have h1 := cX_lay E σ m hi x k i v hN h.oH
  have rH0 := h.2.2.2.2.2.1
  have eL : ∀ mm : gMem, mm.1 (t + 12) = m.1 (t + 12) → mm.1 (t + 13) = m.1 (t + 13) → xLayR mm t k i = xLay m x k i := by
    intro mm a b
    unfold xLayR xLay
    by_cases hk : 0 ≤ k ∧ k ≤ 3
    · rw [if_pos hk, if_pos hk]
      obtain ⟨j, hj, ej⟩ := le_nI (c := 3) (by omega) hk.1 hk.2
      rw [ej, nI_clamp (by omega), show szR mm t j = szR m t j by unfold szR; rw [a, b], (h.sz (by omega)).1]
    · rw [if_neg hk, if_neg hk]
  by_cases hg : xLay m x k i = 1
  · rw [if_pos hg] at h1
    obtain ⟨hk, hf⟩ := xLay_1 hg
    obtain ⟨j, hj, ej⟩ := le_nI (c := 3) (by omega) hk.1 hk.2
    subst ej
    rw [nI_clamp (by omega)] at hf
    obtain ⟨s, p, hs40, es, ep, hps⟩ := fS_ok hf (h.sz (by omega)).2
    have ei : i = nI p := Int32.toInt_inj.mp (by rw [ep, nI_toInt (by omega)])
    subst ei
    obtain ⟨q1, q2⟩ := rH0 j (by omega)
    have hln : m.1 (x + 86 + 2 * j) 1 = m.1 (t + 12) j := by
      rcases q1 with ⟨e1, -⟩ | ⟨a, s', -, -, -, -, e3, e4⟩
      · rw [e1] at es; exact absurd es (fun q => nI_pos (n := s) (by omega) (by rw [← q]; decide))
      · rw [e3, e4]
    have er : ∀ q, q ≠ x + 86 + 2 * j + 1 → (lyM m x (nI j) (nI p) v).1 q = m.1 q := fun q hq => by
      unfold lyM
      rw [nI_clamp (by omega)]
      exact gW_rn hq
    have hok : okHR (lyM m x (nI j) (nI p) v) t := by
      have := h.oHR
      unfold okHR
      rw [er (t + 12) (by omega), er (t + 13) (by omega)]
      exact this
    have h3 := cM_lay E σ (lyM m x (nI j) (nI p) v) hi t (nI j) (nI p) v hR hok
    rw [eL _ (er _ (by omega)) (er _ (by omega)), if_pos hg] at h3
    refine pair_x h1 h3 ?_
    have ec : (lyM m x (nI j) (nI p) v).1 (x + 86 + 2 * j + 1) = upd (m.1 (x + 86 + 2 * j + 1)) p (if m.1 (t + 12) j = 0 then v.toInt16.toInt32 else v) := by
      unfold lyM
      rw [nI_clamp (by omega), nI_clamp (by omega), gW_ro, hln]
    have er2 : ∀ q, q ≠ t + 14 → (lyR (lyM m x (nI j) (nI p) v) t (nI j) (nI p) v).1 q = (lyM m x (nI j) (nI p) v).1 q := fun q hq => by
      unfold lyR
      exact gW_rn hq
    have ec2 : (lyR (lyM m x (nI j) (nI p) v) t (nI j) (nI p) v).1 (t + 14) = upd (m.1 (t + 14)) (40 * j + p) (if m.1 (t + 12) j = 0 then v.toInt16.toInt32 else v) := by
      unfold lyR
      rw [nI_clamp (by omega), nI_clamp (by omega), gW_ro, er _ (by omega), er _ (by omega)]
    refine h.setH ht (fun i hi' => ?_) (fun q u1 u2 u3 u4 => ?_)
    · unfold shE
      rw [er2 (x + 86 + 2 * i) (by omega), er2 (t + 12) (by omega), er2 (t + 13) (by omega), er2 (x + 86 + 2 * i + 1) (by omega), er (x + 86 + 2 * i) (by omega), er (t + 12) (by omega), er (t + 13) (by omega), ec2]
      refine ⟨(rH0 i hi').1, fun r hr => ?_⟩
      by_cases hij : i = j
      · subst hij
        rw [ec]
        by_cases hrp : r = p
        · subst hrp; rw [pk_us, pk_us]
        · rw [pk_un (by omega), pk_un hrp]; exact q2 r hr
      · rw [er _ (by omega), pk_un (by omega)]
        exact (rH0 i hi').2 r hr
    · rw [er2 q u4, er q (by omega)]
  · rw [if_neg hg] at h1
    have h3 := cM_lay E σ m hi t k i v hR h.oHR
    rw [eL m rfl rfl, if_neg hg] at h3
    exact pair_eq h h1 h3
theorem f2S_al {sz ln ln' : Int32} (la : Int32) (h : sz = -4 ∨ ln' = ln) (p : Int) : f2S sz ln' la p = f2S sz ln la p := by
  rcases h with h | h
  · subst h
    have e : ∀ (l : Int32) (q : Int), fS (-4) l la q = 1 := fun l q => if_pos (by decide)
    unfold f2S
    rw [e ln' p, e ln' (p + 1), e ln p, e ln (p + 1)]
  · rw [h]
/-- alike sheets are read alike -/
def rdA (A A' : rdT) : Prop := A'.1 = A.1 ∧ A'.2.2 = A.2.2 ∧ veq A.2.1 A'.2.1 ∧ okC A.2.1 ∧ okB A.2.1 9999 ∧ pg0 A.2.1 ∧ pg0 A'.2.1
theorem rdA.mk {a a' : Int32} {g g' : Nat → Int32} {b : Int32 × Bool} (h1 : a' = a) (h2 : veq g g') (h3 : okC g) (h4 : okB g 9999) (h5 : pg0 g) (h6 : pg0 g') : rdA (a, g, b) (a', g', b) := ⟨h1, rfl, h2, h3, h4, h5, h6⟩
theorem rdR_al {sz ln ln' la : Int32} {C C' : Nat → Int32} (hsz : sz = -4 ∨ ∃ s, s ≤ 40 ∧ sz = nI s) (hln : sz = -4 ∨ ln' = ln) (hC : ∀ i, i < 40 → C' i = C i) (f : Int) : ∀ (k i : Nat) (g g' : Nat → Int32), veq g g' → okC g → okB g 9999 → pg0 g → pg0 g' → rdA (rdR sz ln la C f k i g) (rdR sz ln' la C' f k i g')
  | 0, i, g, g', h, hc, ho, h0, h0' => rdA.mk rfl h hc ho h0 h0'
  | k + 1, i, g, g', h, hc, ho, h0, h0' => by
    rw [rdR, rdR, f2S_al la hln]
    by_cases hf : f2S sz ln la (f + 2 * i) = 0
    · rw [if_pos hf, if_pos hf]
      have hA : fS sz ln la (f + 2 * i) = 0 := by
        by_cases q : fS sz ln la (f + 2 * i) = 0
        · exact q
        · unfold f2S at hf; rw [if_neg q] at hf; exact hf
      have hB : fS sz ln la (f + 2 * i + 1) = 0 := by unfold f2S at hf; rw [if_pos hA] at hf; exact hf
      obtain ⟨s0, p, hs0, -, hp, hps⟩ := fS_ok hA hsz
      obtain ⟨s1, p1, hs1, -, hp1, hps1⟩ := fS_ok hB hsz
      rw [hC (f + 2 * i).toNat (by omega), hC (f + 2 * i + 1).toNat (by omega)]
      have hx := xAdd_pPR h hc ho h0 h0' (C (f + 2 * i).toNat) (C (f + 2 * i + 1).toNat)
      rw [hx.1]
      by_cases hn : (xAdd g (C (f + 2 * i).toNat) (C (f + 2 * i + 1).toNat)).1 < 0
      · rw [if_pos hn, if_pos hn]; exact rdA.mk rfl h hc ho h0 h0'
      · rw [if_neg hn, if_neg hn]
        exact rdR_al hsz hln hC f k (i + 1) _ _ hx.2.1 hx.2.2.1 hx.2.2.2.1 hx.2.2.2.2.1 hx.2.2.2.2.2
    · rw [if_neg hf, if_neg hf]; exact rdA.mk rfl h hc ho h0 h0'
theorem xRead_al {m m1 : gMem} {x t : Nat} (h : REL m x t) (e12 : m1.1 (t + 12) = m.1 (t + 12)) (e13 : m1.1 (t + 13) = m.1 (t + 13)) (e14 : m1.1 (t + 14) = m.1 (t + 14)) (ep : pgR m1 t 0 = pgR m t 0) (k la f n : Int32) : rdA (xRead m x k la f n) (xReadR m1 t k la f n) := by
  unfold xRead xReadR
  rw [ep]
  by_cases hg : gdR k la n
  · rw [if_pos hg, if_pos hg]
    obtain ⟨j, hj, ej⟩ := le_nI (c := 3) (by omega) hg.1.1 hg.1.2
    rw [ej, nI_clamp (by omega)]
    obtain ⟨q1, q2⟩ := h.2.2.2.2.2.1 j (by omega)
    obtain ⟨z1, z2⟩ := h.sz (j := j) (by omega)
    rw [show szR m1 t j = szR m t j by unfold szR; rw [e12, e13], z1, e12, e14]
    refine rdR_al z2 ?_ (fun i hi => q2 i hi) _ _ _ _ _ h.v h.oc h.ob (pgC_0 _ _) (pgR_0 _ _ _)
    rcases q1 with ⟨e1, -⟩ | ⟨a, s, -, -, -, -, e3, e4⟩
    · exact Or.inl e1
    · exact Or.inr (e4.trans e3.symm)
  · rw [if_neg hg, if_neg hg]; exact rdA.mk rfl h.v h.oc h.ob (pgC_0 _ _) (pgR_0 _ _ _)
theorem pr_read (E : gEv) (σ : gSg) (m : gMem) (hi x t : Nat) (k la f n : Int32) (hN : gN σ x) (hR : gR σ t) (h : REL m x t) (ht : x + 94 ≤ t) : gPair E σ m hi x t yX6_read cX6_read 11 (some .int) 4 yX7_read cX7_read 9 (some .int) 2 [.int k, .int la, .int f, .int n] := by
  refine ⟨_, cX_read E σ m hi x k la f n hN h.ok h.oH, fun v m1 hv => ⟨_, hv.1, ?_⟩⟩
  obtain ⟨-, p1, p2⟩ := hv
  have er : ∀ q, t ≤ q → m1.1 q = m.1 q := by
    intro q hq
    cases hb : (xRead m x k la f n).2.2.2 with
    | false => exact p1 hb q (by omega)
    | true =>
      obtain ⟨P, -, -, q3⟩ := p2 hb
      rw [q3 q (by omega), gW_rn (by omega), gP_row (by omega)]
  have epg : pgR m1 t 0 = pgR m t 0 := pgR_row (er _ (by omega)) 0
  have hA := xRead_al h (er (t + 12) (by omega)) (er (t + 13) (by omega)) (er (t + 14) (by omega)) epg k la f n
  have hok : okHR m1 t := by
    have := h.oHR
    unfold okHR
    rw [er (t + 12) (by omega), er (t + 13) (by omega)]
    exact this
  have hm := cM_read E σ m1 hi t k la f n hR (by unfold okM; rw [epg]; exact h.om) hok
  refine gCo.wk hm ?_
  rintro v2 m2 ⟨rfl, r1, r2⟩
  obtain ⟨a1, a2, a3, a4, a5, a6, a7⟩ := hA
  refine ⟨by rw [a1], ?_⟩
  cases hb : (xRead m x k la f n).2.2.2 with
  | false => exact h.sc ht (p1 hb) (r1 (by rw [a2]; exact hb))
  | true =>
    obtain ⟨P, q1, q2, q3⟩ := p2 hb
    have r3 := r2 (by rw [a2]; exact hb)
    rw [a2] at r3
    have hv := h.pg ht (q1.sm.tr a3) (a4.v q1) (a5.v q1) q2 a7
    have hN0 : REL (gW (gQ (gW (gP m (x + 1) P) x 12 (xRead m x k la f n).2.2.1) t 0 (xReadR m1 t k la f n).2.1) t 29 (xRead m x k la f n).2.2.1) x t := by
      obtain ⟨b1, b2, b3, b4, b5, b6, b7⟩ := hv
      have e1 : ∀ q, q ≠ x → q ≠ t → (gW (gQ (gW (gP m (x + 1) P) x 12 (xRead m x k la f n).2.2.1) t 0 (xReadR m1 t k la f n).2.1) t 29 (xRead m x k la f n).2.2.1).1 q = (gQ (gP m (x + 1) P) t 0 (xReadR m1 t k la f n).2.1).1 q := by
        intro q u v
        rw [gW_rn v]
        funext r
        by_cases hq : q = t + 1 ∧ 0 ≤ r ∧ r < 0 + 53
        · obtain ⟨rfl, c1, c2⟩ := hq
          obtain ⟨i, rfl⟩ : ∃ i, r = 0 + i := ⟨r, by omega⟩
          rw [gQ_in (by omega), gQ_in (by omega)]
        · rw [gQ_out (by omega), gQ_out (by omega), gW_rn u]
      have e2 : ∀ r, r ≠ 12 → (gW (gQ (gW (gP m (x + 1) P) x 12 (xRead m x k la f n).2.2.1) t 0 (xReadR m1 t k la f n).2.1) t 29 (xRead m x k la f n).2.2.1).1 x r = (gQ (gP m (x + 1) P) t 0 (xReadR m1 t k la f n).2.1).1 x r := fun r hr => by rw [gW_rn (by omega), gQ_row (by omega), gQ_row (by omega), gW_n (by omega)]
      have e3 : ∀ r, r ≠ 29 → (gW (gQ (gW (gP m (x + 1) P) x 12 (xRead m x k la f n).2.2.1) t 0 (xReadR m1 t k la f n).2.1) t 29 (xRead m x k la f n).2.2.1).1 t r = (gQ (gP m (x + 1) P) t 0 (xReadR m1 t k la f n).2.1).1 t r := fun r hr => by rw [gW_n (by omega), gQ_row (by omega), gQ_row (by omega), gW_rn (by omega)]
      refine ⟨b1.cg (fun q u v => e1 q (by omega) (by omega)) (fun r _ => by rw [e1 _ (by omega) (by omega)]), b2.cg (by rw [e1 _ (by omega) (by omega)]) (e1 _ (by omega) (by omega)) (e3 _ (by omega)) (e1 _ (by omega) (by omega)), ⟨by rw [e3 6 (by omega), e2 11 (by omega)]; exact b3.1, ?_⟩, b4.cg (by rw [e1 _ (by omega) (by omega)]) (e1 _ (by omega) (by omega)) (e1 _ (by omega) (by omega)) (e1 _ (by omega) (by omega)) (e3 _ (by omega)) (e1 _ (by omega) (by omega)), b5.cg (e1 _ (by omega) (by omega)) (fun q u v => e1 q (by omega) (by omega)) (e1 _ (by omega) (by omega)) (fun r _ _ => by rw [e1 _ (by omega) (by omega)]), b6.cg (fun q u v => e1 q (by omega) (by omega)) (e1 _ (by omega) (by omega)) (e1 _ (by omega) (by omega)) (e1 _ (by omega) (by omega)), b7.cg (e1 _ (by omega) (by omega)) (e1 _ (by omega) (by omega))⟩
      rw [gW_s, gW_rn (by omega), gQ_row (by omega), gW_s]
    have hs2 : scr x (gW (gQ (gW (gP m (x + 1) P) x 12 (xRead m x k la f n).2.2.1) t 0 (xReadR m1 t k la f n).2.1) t 29 (xRead m x k la f n).2.2.1) (gW (gQ m1 t 0 (xReadR m1 t k la f n).2.1) t 29 (xRead m x k la f n).2.2.1) := by
      refine scr.w ?_ _ _ _
      intro q hq
      funext r
      by_cases hc : q = t + 1 ∧ 0 ≤ r ∧ r < 0 + 53
      · obtain ⟨rfl, c1, c2⟩ := hc
        obtain ⟨i, rfl⟩ : ∃ i, r = 0 + i := ⟨r, by omega⟩
        rw [gQ_in (by omega), gQ_in (by omega)]
      · rw [gQ_out (by omega), gQ_out (by omega), q3 q hq]
    exact hN0.sc ht hs2 r3
