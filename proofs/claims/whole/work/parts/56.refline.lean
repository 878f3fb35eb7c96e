/-! the reference: a line, the whole text -/
def pgT (m : gMem) (t : Nat) : Nat → Int32 := fun i => if i < 53 then m.1 (t + 2) i + aj i else 0
theorem pgT_lt {m : gMem} {t i : Nat} (h : i < 53) : pgT m t i = m.1 (t + 2) i + aj i := if_pos h
theorem pgT_i {m : gMem} {t i : Nat} (h : i < 50 ∨ i = 52) : m.1 (t + 2) i = pgT m t i := by rw [pgT_lt (by omega), aj0 (by omega) (by omega), i_a0]
theorem pgT_0 (m : gMem) (t : Nat) : pg0 (pgT m t) := fun i h => if_neg (by omega)
theorem pgT_row {m m' : gMem} {t : Nat} (h : m'.1 (t + 2) = m.1 (t + 2)) : pgT m' t = pgT m t := by
  funext i
  unfold pgT
  rw [h]
/-- a page by its row -/
def pgr (r : Nat → Int32) : Nat → Int32 := fun i => if i < 53 then r i + aj i else 0
theorem pgT_r (m : gMem) (t : Nat) : pgT m t = pgr (m.1 (t + 2)) := rfl
theorem pgr_up (r : Nat → Int32) {k : Nat} (hk : k < 53) (v : Int32) : pgr (upd r k v) = upd (pgr r) k (v + aj k) := by
  funext i
  unfold pgr
  by_cases h1 : i = k
  · subst h1; rw [if_pos hk, pk_us, pk_us]
  · rw [pk_un h1, pk_un h1]
theorem pgr_ui (r : Nat → Int32) {k : Nat} (hk : k < 50 ∨ k = 52) (v : Int32) : pgr (upd r k v) = upd (pgr r) k v := by rw [pgr_up r (by omega), aj0 (by omega) (by omega), i_a0]
theorem pgr_i (r : Nat → Int32) {k : Nat} (hk : k < 50 ∨ k = 52) : pgr r k = r k := by
  unfold pgr
  rw [if_pos (by omega), aj0 (by omega) (by omega), i_a0]
theorem pgr_opn (r : Nat → Int32) {c : Nat} (hc : c < 4) (h24 : r 24 = nI c) (hz : ∀ i, 12 ≤ i → i < 24 → r i = 0) (a b d : Int32) : pgr (upd (upd (upd (upd r c a) (4 + c) b) (8 + c) d) 24 (nI (c + 1))) = opn (pgr r) c a b d := by
  rw [pgr_ui _ (by omega), pgr_ui _ (by omega), pgr_ui _ (by omega), pgr_ui _ (by omega)]
  have key : ∀ (G : Nat → Int32) (i : Nat), opn G c a b d i = if i = 24 then G 24 + 1 else if i = 4 * 5 + c then 0 else if i = 4 * 4 + c then 0 else if i = 4 * 3 + c then 0 else if i = 4 * 2 + c then d else if i = 4 * 1 + c then b else if i = 4 * 0 + c then a else G i := fun G i => rfl
  funext i
  rw [key]
  by_cases e24 : i = 24
  · rw [if_pos e24, e24, pk_us, pgr_i _ (by omega), h24, nI_1]
  rw [if_neg e24, pk_un e24]
  by_cases q5 : i = 4 * 5 + c
  · rw [if_pos q5, pk_un (by omega), pk_un (by omega), pk_un (by omega), pgr_i _ (by omega)]; exact hz i (by omega) (by omega)
  rw [if_neg q5]
  by_cases q4 : i = 4 * 4 + c
  · rw [if_pos q4, pk_un (by omega), pk_un (by omega), pk_un (by omega), pgr_i _ (by omega)]; exact hz i (by omega) (by omega)
  rw [if_neg q4]
  by_cases q3 : i = 4 * 3 + c
  · rw [if_pos q3, pk_un (by omega), pk_un (by omega), pk_un (by omega), pgr_i _ (by omega)]; exact hz i (by omega) (by omega)
  rw [if_neg q3]
  by_cases q2 : i = 4 * 2 + c
  · rw [if_pos q2, show i = 8 + c by omega, pk_us]
  rw [if_neg q2, pk_un (by omega)]
  by_cases q1 : i = 4 * 1 + c
  · rw [if_pos q1, show i = 4 + c by omega, pk_us]
  rw [if_neg q1, pk_un (by omega)]
  by_cases q0 : i = 4 * 0 + c
  · rw [if_pos q0, show i = c by omega, pk_us]
  rw [if_neg q0, pk_un (by omega)]
theorem pgr_add (r : Nat → Int32) {c : Nat} (hc : c < 12) (h49 : r 49 = nI c) (a b : Int32) : pgr (upd (upd (upd r (25 + c) a) (37 + c) b) 49 (nI (c + 1))) = addR (pgr r) c a b := by
  rw [pgr_ui _ (by omega), pgr_ui _ (by omega), pgr_ui _ (by omega)]
  unfold addR
  rw [pgr_i _ (by omega), h49, nI_1]
def rl (t : Nat) (m m' : gMem) : Prop := (∀ q, q ≠ t → q ≠ t + 2 → m'.1 q = m.1 q) ∧ ∀ k, ¬ (k = 2 ∨ k = 3 ∨ (7 ≤ k ∧ k ≤ 12)) → m'.1 t k = m.1 t k
theorem rl.rf (t : Nat) (m : gMem) : rl t m m := ⟨fun _ _ _ => rfl, fun _ _ => rfl⟩
theorem rl.tr {t : Nat} {m m' m'' : gMem} (h : rl t m m') (h' : rl t m' m'') : rl t m m'' := ⟨fun q a b => (h'.1 q a b).trans (h.1 q a b), fun k a => (h'.2 k a).trans (h.2 k a)⟩
theorem rdq.l {t : Nat} {m m' : gMem} (h : rdq t m m') : rl t m m' := ⟨fun q a _ => h.n a, fun k a => h.k (by omega)⟩
theorem rl.f {t : Nat} {m m' : gMem} (h : rl t m m') {k : Nat} (hk : k = 2 ∨ k = 3 ∨ (7 ≤ k ∧ k ≤ 12)) (v : Int32) : rl t m (gW m' t k v) := ⟨fun q a b => by rw [gW_rn a]; exact h.1 q a b, fun j a => by rw [gW_n (by omega)]; exact h.2 j a⟩
theorem rl.T {t L : Nat} {m m' : gMem} (h : rl t m m') (hT : okTR m t L) : okTR m' t L := by
  unfold okTR
  rw [h.2 5 (by omega), h.1 (t + 3) (by omega) (by omega)]
  exact hT
theorem rl.L {t : Nat} {m m' : gMem} (h : rl t m m') (hl : okLt m t) : okLt m' t := by
  unfold okLt
  rw [h.1 (t + 4) (by omega) (by omega), h.1 (t + 5) (by omega) (by omega)]
  exact hl
theorem rl.w {t : Nat} {m m' : gMem} (h : rl t m m') (a k : Nat) (v : Int32) : rl t (gW m a k v) (gW m' a k v) := by
  refine ⟨fun q b c => ?_, fun j b => ?_⟩
  · funext r
    rw [gW_1, gW_1, h.1 q b c]
  · rw [gW_1, gW_1, h.2 j b]
theorem rl.q {t : Nat} {m m' : gMem} (h : rl t m m') (p : Nat) (g : Nat → Int32) : rl t (gQ m t p g) (gQ m' t p g) := by
  refine ⟨fun q b c => ?_, fun j b => ?_⟩
  · funext r
    by_cases h1 : q = t + 1 ∧ p ≤ r ∧ r < p + 53
    · obtain ⟨rfl, h2, h3⟩ := h1
      obtain ⟨i, rfl⟩ : ∃ i, r = p + i := ⟨r - p, by omega⟩
      rw [gQ_in (by omega), gQ_in (by omega)]
    · rw [gQ_out (by omega), gQ_out (by omega), h.1 q b c]
  · rw [gQ_out (by omega), gQ_out (by omega), h.2 j b]
theorem rl.s {t : Nat} {m m' : gMem} (h : rl t m m') : rsc t m m' := ⟨fun q a => h.1 q (by omega) (by omega), fun r _ => by rw [h.1 (t + 1) (by omega) (by omega)], fun r a => h.2 r (by omega)⟩
theorem RSR.c {f f' : Nat → Int32} {R : pT} (h : RSR f R) (hk : ∀ k, 7 ≤ k → k ≤ 12 → f' k = f k) : RSR f' R := by
  match R, h with
  | .inl e, h => exact ⟨by rw [hk 7 (by omega) (by omega)]; exact h.1, by rw [hk 8 (by omega) (by omega)]; exact h.2⟩
  | .inr t, h => exact ⟨by rw [hk 7 (by omega) (by omega)]; exact h.1, by rw [hk 11 (by omega) (by omega)]; exact h.2.1, by rw [hk 10 (by omega) (by omega)]; exact h.2.2.1, by rw [hk 9 (by omega) (by omega)]; exact h.2.2.2.1, fun q => by rw [hk 12 (by omega) (by omega)]; exact h.2.2.2.2 q⟩
/-- what the page must be -/
def pgO (t : Nat) (m : gMem) (g : Nat → Int32) (fl ca : Int32) : Prop := veq g (pgT m t) ∧ (∀ i, 12 ≤ i → i < 24 → m.1 (t + 2) i = 0) ∧ m.1 t 2 = fl ∧ m.1 t 3 = ca
theorem pgO.q {t : Nat} {m m' : gMem} {g : Nat → Int32} {fl ca : Int32} (h : pgO t m g fl ca) (d : rdq t m m') : pgO t m' g fl ca := by
  refine ⟨?_, fun i a b => ?_, ?_, ?_⟩
  · rw [pgT_row (d.n (by omega))]; exact h.1
  · rw [d.n (by omega)]; exact h.2.1 i a b
  · rw [d.k (by omega)]; exact h.2.2.1
  · rw [d.k (by omega)]; exact h.2.2.2
def lnPR (t : Nat) (m : gMem) (Q : lnT) (m' : gMem) : Prop := rl t m m' ∧ RSR (m'.1 t) Q.1 ∧ ∀ u, Q.1 = .inr u → pgO t m' Q.2.1 Q.2.2.1 Q.2.2.2
theorem flr_eq {c : Nat} {b : Bool} {u u' : tkT} (h : flr c b (.inr u) = .inr u') : u' = u := by
  cases b
  · exact Eq.symm (by simpa [flr] using h)
  · exact absurd h (by simp [flr])
theorem cM_readLine (E : gEv) (σ : gSg) (m : gMem) (hi t L : Nat) (u : tkT) (g : Nat → Int32) (fl ca : Int32) (hR : gR σ t) (hT : okTR m t L) (hl : okLt m t) (hS : RSR (m.1 t) (.inr u)) (hk : okTk L (.inr u)) (h0u : u.1 ≠ 0) (hg : okG g) (hP : pgO t m g fl ca) (hfl : fl = 0 ∨ fl = 1) (hca : ca = 0 ∨ ca = 1) : gCo E yX7_readLine cX7_readLine 2 (none) 4 [.ref t] σ m hi (fun v' m' => v' = none ∧ lnPR t m (lnR (m.1 (t + 3)) L u g fl ca) m') := by
  refine gCo.of mwX7_readLine (Nat.le_of_ble_eq_true rfl) ?_
  intro F hF
  have h0 := hR.1
  have h2 := hR.2.2.1
  have i24 : gIdx 24 53 24 := gIdx.of rfl (by decide) (by decide)
  have i49 : gIdx 49 53 49 := gIdx.of rfl (by decide) (by decide)
  obtain ⟨hv, hz, e2, e3⟩ := id hP
  obtain ⟨⟨c, hc, hc4⟩, r, hr, hr12⟩ := id hg
  have hcn : cnt g = c := by unfold cnt; rw [hc, nI_clamp (by omega)]
  have hrn : rws g = r := by unfold rws; rw [hr, nI_clamp (by omega)]
  have m24 : m.1 (t + 2) 24 = nI c := by rw [pgT_i (by omega), hv.a24]; exact hc
  have m49 : m.1 (t + 2) 49 = nI r := by rw [pgT_i (by omega), hv.a49]; exact hr
  have hNm := cM_nameHere E σ m hi t L u hR hT hl hS hk h0u
  have hn8 := nmI_lt (m.1 (t + 3)) u
  have Q7 : nmI (m.1 (t + 3)) u = 7 → lnR (m.1 (t + 3)) L u g fl ca = (.inl (2, u.2.1), g, fl, ca) := fun h => by unfold lnR; rw [if_pos h]
  have Q4 : nmI (m.1 (t + 3)) u = 4 → lnR (m.1 (t + 3)) L u g fl ca = ((ln1 (m.1 (t + 3)) L 4 (decide (fl ≠ 0)) 40 u).1, upd g 50 (ln1 (m.1 (t + 3)) L 4 (decide (fl ≠ 0)) 40 u).2, 1, ca) := fun h => by unfold lnR; rw [if_neg (by omega), if_pos h]
  have Q5 : nmI (m.1 (t + 3)) u = 5 → lnR (m.1 (t + 3)) L u g fl ca = ((ln1 (m.1 (t + 3)) L 4 (decide (ca ≠ 0)) 20 u).1, upd g 51 (ln1 (m.1 (t + 3)) L 4 (decide (ca ≠ 0)) 20 u).2, fl, 1) := fun h => by unfold lnR; rw [if_neg (by omega), if_neg (by omega), if_pos h]
  have Q6 : nmI (m.1 (t + 3)) u = 6 → lnR (m.1 (t + 3)) L u g fl ca = ((ln2 (m.1 (t + 3)) L (decide (12 ≤ r)) 0 9 4 u).1, if r < 12 then addR g r (ln2 (m.1 (t + 3)) L (decide (12 ≤ r)) 0 9 4 u).2.1 (ln2 (m.1 (t + 3)) L (decide (12 ≤ r)) 0 9 4 u).2.2 else g, fl, ca) := fun h => by unfold lnR; rw [if_neg (by omega), if_neg (by omega), if_neg (by omega), if_pos h, hrn]
  have Q3 : nmI (m.1 (t + 3)) u ≤ 3 → lnR (m.1 (t + 3)) L u g fl ca = ((ln2 (m.1 (t + 3)) L (decide (4 ≤ c)) 1 60 9 u).1, if c < 4 then opn g c (nI (nmI (m.1 (t + 3)) u)) (ln2 (m.1 (t + 3)) L (decide (4 ≤ c)) 1 60 9 u).2.1 (ln2 (m.1 (t + 3)) L (decide (4 ≤ c)) 1 60 9 u).2.2 else g, fl, ca) := fun h => by unfold lnR; rw [if_neg (by omega), if_neg (by omega), if_neg (by omega), if_neg (by omega), hcn]
  generalize hB : m.1 (t + 3) = B at *
  generalize hn : nmI B u = n at *
  generalize hQ : lnR B L u g fl ca = Q at hF Q7 Q4 Q5 Q6 Q3
  have hin : okTk L (.inr u) := hk
  -- the end of a line
  have K150 : ∀ (m3 : gMem) (R4 : pT) (o1 : Option Value), rl t m m3 → RSR (m3.1 t) R4 → okTk L R4 → Q.1 = stpR B L R4 → (∀ u4, R4 = .inr u4 → pgO t m3 Q.2.1 Q.2.2.1 Q.2.2.2) → (gJ E yX7_readLine cX7_readLine 2 (none) (gRm 4 0 0) F 150 ([some (.ref t), o1]) ([]) 0 0 σ (m3) hi) := by
    intro m3 R4 o1 d3 s3 k3 hq hpg
    match R4, s3, k3, hq, hpg with
    | .inl e, s3, k3, hq, hpg =>
      have hb := s3.b k3
      refine j_aload_n (q := 151) dX7_readLine_150 rfl (by rfl) ?_
      refine j_geti (q := 154) dX7_readLine_151 rfl fX7_63 (by first | with_reducible assumption | assumption) (by rfl) ?_
      refine j_if_ne (q := 157) (tgt := 170) dX7_readLine_154 rfl (by decide) (fun h154 => ?_) (fun h154 => ?_)
      · refine j_aload_n (q := 171) dX7_readLine_170 rfl (by rfl) ?_
        refine o_callVv (q := 174) dX7_readLine_171 rfl lX7_97 mwX7_readsOn mvX7_readsOn cn7 (by assumption) (by rfl) rfl (Nat.le_of_ble_eq_true (by rfl)) (by first | decide | omega) (cM_readsOn0 E σ m3 hi t hR hb.2) ?_
        refine o_vret hF rfl dX7_readLine_174 ?_
        have hq' : Q.1 = .inl e := hq
        exact ⟨rfl, d3, by rw [hq']; exact s3, fun u4 h => by rw [hq'] at h; cases h⟩
      · exact absurd (by first | exact h154 | exact Decidable.not_not.mp h154) hb.1
    | .inr u4, s3, k3, hq, hpg =>
      obtain ⟨q7, q11, q10, q9, q12⟩ := id s3
      refine j_aload_n (q := 151) dX7_readLine_150 rfl (by rfl) ?_
      refine j_geti (q := 154) dX7_readLine_151 rfl fX7_63 (by first | with_reducible assumption | assumption) (by rfl) ?_
      rw [q7]
      refine j_if_ne (q := 157) (tgt := 170) dX7_readLine_154 rfl (by decide) (fun h154 => ?_) (fun h154 => ?_)
      · exact absurd rfl h154
      refine j_aload_n (q := 158) dX7_readLine_157 rfl (by rfl) ?_
      refine j_geti (q := 161) dX7_readLine_158 rfl fX7_72 (by first | with_reducible assumption | assumption) (by rfl) ?_
      rw [q11]
      refine j_iconst (q := 162) (v := 3) dX7_readLine_161 rfl (by decide) ?_
      by_cases h3 : u4.1 = 3
      · have hq' : Q.1 = nxt B L u4.2.2.1 := hq.trans (if_pos h3)
        have hRd := cM_readsOn1 E σ m3 hi t L u4.2.2.1 hR (d3.T hT) q7 q9 (k3.2.2 (by omega)).2
        rw [d3.1 (t + 3) (by omega) (by omega), hB] at hRd
        refine j_icmp_eq (q := 165) (tgt := 170) dX7_readLine_162 rfl (by decide) (fun h162 => ?_) (fun h162 => ?_)
        · refine j_aload_n (q := 171) dX7_readLine_170 rfl (by rfl) ?_
          refine o_callVx (q := 174) dX7_readLine_171 rfl lX7_97 mwX7_readsOn mvX7_readsOn cn7 (by assumption) (by rfl) rfl (Nat.le_of_ble_eq_true (by rfl)) (by first | decide | omega) (hRd) ?_
          rintro _ m4 ⟨rfl, d4, s4⟩
          refine o_vret hF rfl dX7_readLine_174 ?_
          exact ⟨rfl, d3.tr d4.l, by rw [hq']; exact s4, fun u5 _ => (hpg u4 rfl).q d4⟩
        · exact absurd (by rw [h3]; rfl) h162
      · have hq' : Q.1 = .inl (2, u4.2.1) := hq.trans (if_neg h3)
        have k4 : okTk L (.inl (2, u4.2.1)) := ⟨by show 2 < 6; decide, by show 2 ≠ 0; decide, k3.2.1⟩
        refine j_icmp_eq (q := 165) (tgt := 170) dX7_readLine_162 rfl (by decide) (fun h162 => ?_) (fun h162 => ?_)
        · exact absurd (nI_inj (b := 3) (by have := k3.1; omega) (by omega) (by first | exact h162 | exact Decidable.not_not.mp h162)) h3
        refine j_aload_n (q := 166) dX7_readLine_165 rfl (by rfl) ?_
        refine j_iconst (q := 167) (v := 2) dX7_readLine_166 rfl (by decide) ?_
        refine o_callVx (q := 170) dX7_readLine_167 rfl lX7_93 mwX7_fails mvX7_fails cn7 (by assumption) (by rfl) rfl (Nat.le_of_ble_eq_true (by rfl)) (by first | decide | omega) (cM_failAt E σ m3 hi t 2 u4 hR s3) ?_
        rintro _ m4 ⟨rfl, d4, s4⟩
        have hb := s4.b k4
        refine j_aload_n (q := 171) dX7_readLine_170 rfl (by rfl) ?_
        refine o_callVv (q := 174) dX7_readLine_171 rfl lX7_97 mwX7_readsOn mvX7_readsOn cn7 (by assumption) (by rfl) rfl (Nat.le_of_ble_eq_true (by rfl)) (by first | decide | omega) (cM_readsOn0 E σ m4 hi t hR hb.2) ?_
        refine o_vret hF rfl dX7_readLine_174 ?_
        exact ⟨rfl, d3.tr d4.l, by rw [hq']; exact s4, fun u5 h => by rw [hq'] at h; cases h⟩
  -- from the name on
  have K91 : ∀ (m1 : gMem) (R1 : pT) (fl' ca' : Int32), rdq t m m1 → RSR (m1.1 t) R1 → okTk L R1 → (∀ u', R1 = .inr u' → u' = u) → fl' = (if n = 4 then 1 else fl) → ca' = (if n = 5 then 1 else ca) → n < 7 → (∀ e, namR B L R1 = .inl e → Q.1 = .inl e) → (∀ (m2 : gMem) (u2 : tkT), rl t m m2 → m2.1 (t + 2) = m.1 (t + 2) → m2.1 t 2 = fl' → m2.1 t 3 = ca' → namR B L R1 = .inr u2 → RSR (m2.1 t) (.inr u2) → okTk L (.inr u2) → (gJ E yX7_readLine cX7_readLine 2 (none) (gRm 4 0 0) F 145 ([some (.ref t), some (.int (nI n))]) ([]) 0 0 σ (m2) hi)) → (gJ E yX7_readLine cX7_readLine 2 (none) (gRm 4 0 0) F 91 ([some (.ref t), some (.int (nI n))]) ([]) 0 0 σ (m1) hi) := by
    intro m1 R1 fl' ca' d1 s1 k1 hu1 hfl' hca' hn7 hqe K145
    have f2 : m1.1 t 2 = fl := by rw [d1.k (by omega)]; exact e2
    have f3 : m1.1 t 3 = ca := by rw [d1.k (by omega)]; exact e3
    have K133 : (gJ E yX7_readLine cX7_readLine 2 (none) (gRm 4 0 0) F 133 ([some (.ref t), some (.int (nI n))]) ([]) 0 0 σ (gW (gW m1 t 2 fl') t 3 ca') hi) := by
      have dM : rl t m (gW (gW m1 t 2 fl') t 3 ca') := (d1.l.f (by omega) _).f (by omega) _
      have sM : RSR ((gW (gW m1 t 2 fl') t 3 ca').1 t) R1 := s1.c (fun k a b => by rw [gW_n (by omega), gW_n (by omega)])
      have g2 : (gW (gW m1 t 2 fl') t 3 ca').1 (t + 2) = m.1 (t + 2) := by rw [gW_rn (by omega), gW_rn (by omega), d1.n (by omega)]
      have gf : (gW (gW m1 t 2 fl') t 3 ca').1 t 2 = fl' := by rw [gW_n (by omega), gW_s]
      have gc : (gW (gW m1 t 2 fl') t 3 ca').1 t 3 = ca' := by rw [gW_s]
      generalize gW (gW m1 t 2 fl') t 3 ca' = M at *
      match R1, sM, k1, hu1, hqe, K145 with
      | .inl e, sM, k1, hu1, hqe, K145 =>
        have hb := sM.b k1
        have hq' := hqe e rfl
        refine j_aload_n (q := 134) dX7_readLine_133 rfl (by rfl) ?_
        refine o_callVv (q := 137) dX7_readLine_134 rfl lX7_97 mwX7_readsOn mvX7_readsOn cn7 (by assumption) (by rfl) rfl (Nat.le_of_ble_eq_true (by rfl)) (by first | decide | omega) (cM_readsOn0 E σ M hi t hR hb.2) ?_
        refine j_aload_n (q := 138) dX7_readLine_137 rfl (by rfl) ?_
        refine j_geti (q := 141) dX7_readLine_138 rfl fX7_63 (by first | with_reducible assumption | assumption) (by rfl) ?_
        refine j_if_le (q := 144) (tgt := 145) dX7_readLine_141 rfl (by decide) (fun h141 => ?_) (fun h141 => ?_)
        · exact absurd h141 hb.2
        refine o_vret hF rfl dX7_readLine_144 ?_
        exact ⟨rfl, dM, by rw [hq']; exact sM, fun u4 h => by rw [hq'] at h; cases h⟩
      | .inr u1, sM, k1, hu1, hqe, K145 =>
        have huu := hu1 u1 rfl
        subst huu
        have hRd := cM_readsOn1 E σ M hi t L u1.2.2.1 hR (dM.T hT) sM.1 sM.2.2.2.1 (k1.2.2 h0u).2
        rw [dM.1 (t + 3) (by omega) (by omega), hB] at hRd
        have hnk : okTk L (nxt B L u1.2.2.1) := nxt_ok (k1.2.2 h0u).2
        have hnm : namR B L (.inr u1) = nxt B L u1.2.2.1 := rfl
        rw [hnm] at hqe K145
        refine j_aload_n (q := 134) dX7_readLine_133 rfl (by rfl) ?_
        refine o_callVx (q := 137) dX7_readLine_134 rfl lX7_97 mwX7_readsOn mvX7_readsOn cn7 (by assumption) (by rfl) rfl (Nat.le_of_ble_eq_true (by rfl)) (by first | decide | omega) (hRd) ?_
        rintro _ m2 ⟨rfl, d2, s2⟩
        match hnx : nxt B L u1.2.2.1, hnk, s2, hqe, K145 with
        | .inl e, hnk, s2, hqe, K145 =>
          have hb := s2.b hnk
          have hq' := hqe e rfl
          refine j_aload_n (q := 138) dX7_readLine_137 rfl (by rfl) ?_
          refine j_geti (q := 141) dX7_readLine_138 rfl fX7_63 (by first | with_reducible assumption | assumption) (by rfl) ?_
          refine j_if_le (q := 144) (tgt := 145) dX7_readLine_141 rfl (by decide) (fun h141 => ?_) (fun h141 => ?_)
          · exact absurd h141 hb.2
          refine o_vret hF rfl dX7_readLine_144 ?_
          exact ⟨rfl, dM.tr d2.l, by rw [hq']; exact s2, fun u4 h => by rw [hq'] at h; cases h⟩
        | .inr u2, hnk, s2, hqe, K145 =>
          refine j_aload_n (q := 138) dX7_readLine_137 rfl (by rfl) ?_
          refine j_geti (q := 141) dX7_readLine_138 rfl fX7_63 (by first | with_reducible assumption | assumption) (by rfl) ?_
          rw [s2.1]
          refine j_if_le (q := 144) (tgt := 145) dX7_readLine_141 rfl (by decide) (fun h141 => ?_) (fun h141 => ?_)
          · exact K145 m2 u2 (dM.tr d2.l) (by rw [d2.n (by omega)]; exact g2) (by rw [d2.k (by omega)]; exact gf) (by rw [d2.k (by omega)]; exact gc) rfl s2 hnk
          · exact absurd (Int32.le_refl 0) h141
    have K112 : (gJ E yX7_readLine cX7_readLine 2 (none) (gRm 4 0 0) F 112 ([some (.ref t), some (.int (nI n))]) ([]) 0 0 σ (gW m1 t 2 fl') hi) := by
      have K130 : ∀ z : Int32, z = ca' → (z = 0 ∨ z = 1) → (gJ E yX7_readLine cX7_readLine 2 (none) (gRm 4 0 0) F 130 ([some (.ref t), some (.int (nI n))]) ([.int z, .ref t]) 0 0 σ (gW m1 t 2 fl') hi) := by
        intro z hz hz2
        subst hz
        refine j_putz (q := 133) dX7_readLine_130 rfl fX7_114 p7_3 (by first | with_reducible assumption | assumption) (by rfl) (by first | assumption | exact Or.inl rfl | exact Or.inr rfl) ?_
        exact K133
      refine j_aload_n (q := 113) dX7_readLine_112 rfl (by rfl) ?_
      refine j_aload_n (q := 114) dX7_readLine_113 rfl (by rfl) ?_
      refine j_geti (q := 117) dX7_readLine_114 rfl fX7_114 (by first | with_reducible assumption | assumption) (by rfl) ?_
      rw [gW_n (by omega), f3]
      refine j_if_ne (q := 120) (tgt := 125) dX7_readLine_117 rfl (by decide) (fun h117 => ?_) (fun h117 => ?_)
      · refine j_iconst (q := 126) (v := 1) dX7_readLine_125 rfl (by decide) ?_
        refine j_goto (tgt := 130) dX7_readLine_126 (by decide) ?_
        refine K130 1 ?_ (Or.inr rfl)
        rw [hca']
        by_cases h5 : n = 5
        · rw [if_pos h5]
        · rw [if_neg h5]; exact (hca.resolve_left h117).symm
      · have hc0 : ca = 0 := by first | exact h117 | exact Decidable.not_not.mp h117
        refine j_iload_n (q := 121) dX7_readLine_120 rfl (by rfl) ?_
        refine j_iconst (q := 122) (v := 5) dX7_readLine_121 rfl (by decide) ?_
        refine j_icmp_ne (q := 125) (tgt := 129) dX7_readLine_122 rfl (by decide) (fun h122 => ?_) (fun h122 => ?_)
        · refine j_iconst (q := 130) (v := 0) dX7_readLine_129 rfl (by decide) ?_
          refine K130 0 ?_ (Or.inl rfl)
          rw [hca', if_neg (fun q => h122 (by rw [q]; rfl)), hc0]
        · refine j_iconst (q := 126) (v := 1) dX7_readLine_125 rfl (by decide) ?_
          refine j_goto (tgt := 130) dX7_readLine_126 (by decide) ?_
          refine K130 1 ?_ (Or.inr rfl)
          rw [hca', if_pos (nI_inj (b := 5) (by omega) (by omega) (by first | exact h122 | exact Decidable.not_not.mp h122))]
    have K109 : ∀ z : Int32, z = fl' → (z = 0 ∨ z = 1) → (gJ E yX7_readLine cX7_readLine 2 (none) (gRm 4 0 0) F 109 ([some (.ref t), some (.int (nI n))]) ([.int z, .ref t]) 0 0 σ (m1) hi) := by
      intro z hz hz2
      subst hz
      refine j_putz (q := 112) dX7_readLine_109 rfl fX7_110 p7_2 (by first | with_reducible assumption | assumption) (by rfl) (by first | assumption | exact Or.inl rfl | exact Or.inr rfl) ?_
      exact K112
    refine j_aload_n (q := 92) dX7_readLine_91 rfl (by rfl) ?_
    refine j_aload_n (q := 93) dX7_readLine_92 rfl (by rfl) ?_
    refine j_geti (q := 96) dX7_readLine_93 rfl fX7_110 (by first | with_reducible assumption | assumption) (by rfl) ?_
    rw [f2]
    refine j_if_ne (q := 99) (tgt := 104) dX7_readLine_96 rfl (by decide) (fun h96 => ?_) (fun h96 => ?_)
    · refine j_iconst (q := 105) (v := 1) dX7_readLine_104 rfl (by decide) ?_
      refine j_goto (tgt := 109) dX7_readLine_105 (by decide) ?_
      refine K109 1 ?_ (Or.inr rfl)
      rw [hfl']
      by_cases h5 : n = 4
      · rw [if_pos h5]
      · rw [if_neg h5]; exact (hfl.resolve_left h96).symm
    · have hc0 : fl = 0 := by first | exact h96 | exact Decidable.not_not.mp h96
      refine j_iload_n (q := 100) dX7_readLine_99 rfl (by rfl) ?_
      refine j_iconst (q := 101) (v := 4) dX7_readLine_100 rfl (by decide) ?_
      refine j_icmp_ne (q := 104) (tgt := 108) dX7_readLine_101 rfl (by decide) (fun h101 => ?_) (fun h101 => ?_)
      · refine j_iconst (q := 109) (v := 0) dX7_readLine_108 rfl (by decide) ?_
        refine K109 0 ?_ (Or.inl rfl)
        rw [hfl', if_neg (fun q => h101 (by rw [q]; rfl)), hc0]
      · refine j_iconst (q := 105) (v := 1) dX7_readLine_104 rfl (by decide) ?_
        refine j_goto (tgt := 109) dX7_readLine_105 (by decide) ?_
        refine K109 1 ?_ (Or.inr rfl)
        rw [hfl', if_pos (nI_inj (b := 4) (by omega) (by omega) (by first | exact h101 | exact Decidable.not_not.mp h101))]
  have K62 : ∀ (m1 : gMem), n < 7 → n ≠ 4 → n ≠ 5 → (gJ E yX7_readLine cX7_readLine 2 (none) (gRm 4 0 0) F 91 ([some (.ref t), some (.int (nI n))]) ([]) 0 0 σ (m1) hi) → (gJ E yX7_readLine cX7_readLine 2 (none) (gRm 4 0 0) F 62 ([some (.ref t), some (.int (nI n))]) ([]) 0 0 σ (m1) hi) := by
    intro m1 h7 h4 h5 hK
    refine j_iload_n (q := 63) dX7_readLine_62 rfl (by rfl) ?_
    refine j_iconst (q := 64) (v := 4) dX7_readLine_63 rfl (by decide) ?_
    refine j_icmp_ne (q := 67) (tgt := 74) dX7_readLine_64 rfl (by decide) (fun h64 => ?_) (fun h64 => ?_)
    · refine j_iload_n (q := 75) dX7_readLine_74 rfl (by rfl) ?_
      refine j_iconst (q := 76) (v := 5) dX7_readLine_75 rfl (by decide) ?_
      refine j_icmp_ne (q := 79) (tgt := 91) dX7_readLine_76 rfl (by decide) (fun h76 => ?_) (fun h76 => ?_)
      · exact hK
      · exact absurd (nI_inj (b := 5) (by omega) (by omega) (by first | exact h76 | exact Decidable.not_not.mp h76)) h5
    · exact absurd (nI_inj (b := 4) (by omega) (by omega) (by first | exact h64 | exact Decidable.not_not.mp h64)) h4
  refine j_aload_n (q := 1) dX7_readLine_0 rfl (by rfl) ?_
  refine o_callVi (q := 4) dX7_readLine_1 rfl lX7_104 mwX7_nameHere mvX7_nameHere cn7 (by assumption) (by rfl) rfl (Nat.le_of_ble_eq_true (by rfl)) (by first | decide | omega) (hNm) ?_
  by_cases n7 : n = 7
  · have hq' : Q = (.inl (2, u.2.1), g, fl, ca) := Q7 n7
    rw [if_pos n7]
    refine j_istore_n (q := 5) dX7_readLine_4 rfl (by decide) ?_
    refine j_iload_n (q := 6) dX7_readLine_5 rfl (by rfl) ?_
    refine j_i2l (q := 7) dX7_readLine_6 rfl ?_
    refine j_lconst (q := 8) (v := 0) dX7_readLine_7 rfl (by decide) ?_
    refine j_ldc2 (q := 11) dX7_readLine_8 rfl kX7_108 ?_
    refine o_callSi (q := 14) dX7_readLine_11 rfl lX7_55 mwX7_in msX7_in (by rfl) rfl (Nat.le_of_ble_eq_true (by rfl)) (by first | decide | omega) (cM_inI E σ m hi (-4) 0 6 (by decide) (by decide)) ?_
    rw [show sWi (-4) 0 6 = 0 by decide]
    refine j_if_ne (q := 17) (tgt := 23) dX7_readLine_14 rfl (by decide) (fun h14 => ?_) (fun h14 => ?_)
    · exact absurd rfl h14
    refine j_aload_n (q := 18) dX7_readLine_17 rfl (by rfl) ?_
    refine j_iconst (q := 19) (v := 2) dX7_readLine_18 rfl (by decide) ?_
    refine o_callVx (q := 22) dX7_readLine_19 rfl lX7_93 mwX7_fails mvX7_fails cn7 (by assumption) (by rfl) rfl (Nat.le_of_ble_eq_true (by rfl)) (by first | decide | omega) (cM_failAt E σ m hi t 2 u hR hS) ?_
    rintro _ m1 ⟨rfl, d1, s1⟩
    refine o_vret hF rfl dX7_readLine_22 ?_
    rw [hq']
    exact ⟨rfl, d1.l, s1, fun u4 h => by cases h⟩
  · have hn7 : n < 7 := by omega
    rw [if_neg n7]
    have hwi : sWi (nI n) 0 6 = 1 := by rw [sWi_eq, if_pos ⟨nI_pos' (by omega), nI_le (b := 6) (by omega) (by omega)⟩]
    refine j_istore_n (q := 5) dX7_readLine_4 rfl (by decide) ?_
    refine j_iload_n (q := 6) dX7_readLine_5 rfl (by rfl) ?_
    refine j_i2l (q := 7) dX7_readLine_6 rfl ?_
    refine j_lconst (q := 8) (v := 0) dX7_readLine_7 rfl (by decide) ?_
    refine j_ldc2 (q := 11) dX7_readLine_8 rfl kX7_108 ?_
    refine o_callSi (q := 14) dX7_readLine_11 rfl lX7_55 mwX7_in msX7_in (by rfl) rfl (Nat.le_of_ble_eq_true (by rfl)) (by first | decide | omega) (cM_inI E σ m hi (nI n) 0 6 (by decide) (by decide)) ?_
    rw [hwi]
    refine j_if_ne (q := 17) (tgt := 23) dX7_readLine_14 rfl (by decide) (fun h14 => ?_) (fun h14 => ?_)
    case refine_2 => exact absurd h14 (by decide)
    refine j_iload_n (q := 24) dX7_readLine_23 rfl (by rfl) ?_
    refine j_iconst (q := 25) (v := 3) dX7_readLine_24 rfl (by decide) ?_
    have k5 : ∀ cd : Nat, cd < 6 → cd ≠ 0 → okTk L (.inl (cd, u.2.1)) := fun cd a b => ⟨a, b, hk.2.1⟩
    by_cases n4 : n = 4
    · subst n4
      have hq := Q4 rfl
      have K4 : ∀ (m1 : gMem) (R1 : pT), flr 4 (decide (fl ≠ 0)) (.inr u) = R1 → rdq t m m1 → RSR (m1.1 t) R1 → okTk L R1 → (gJ E yX7_readLine cX7_readLine 2 (none) (gRm 4 0 0) F 91 ([some (.ref t), some (.int (nI 4))]) ([]) 0 0 σ (m1) hi) := by
        intro m1 R1 hf d1 s1 k1
        unfold ln1 at hq
        rw [hf] at hq
        have hq1 : Q.1 = stpR B L (numR B L 0 40 (namR B L R1)) := by rw [hq]
        refine K91 m1 R1 1 ca d1 s1 k1 (fun u' h => flr_eq (hf.trans h)) (if_pos rfl).symm (if_neg (by decide)).symm (by decide) (fun e he => by rw [hq1, he]; rfl) ?_
        intro m2 u2 d2 r2 g2 g3 hnu s2 k2
        refine j_aload_n (q := 146) dX7_readLine_145 rfl (by rfl) ?_
        refine j_iload_n (q := 147) dX7_readLine_146 rfl (by rfl) ?_
        refine o_callVx (q := 150) dX7_readLine_147 rfl lX7_117 mwX7_readMore mvX7_readMore cn7 (by assumption) (by rfl) rfl (Nat.le_of_ble_eq_true (by rfl)) (by first | decide | omega) (cM_readMoreF E σ m2 hi t L (.inr u2) hR (d2.T hT) s2 k2) ?_
        rintro _ m3 ⟨rfl, p1, p2, p3, p4⟩
        rw [d2.1 (t + 3) (by omega) (by omega), hB] at p4
        refine K150 m3 _ _ (d2.tr ⟨p1, fun k a => p2 k (by omega)⟩) p4 (numR_ok _ _ k2) (by rw [hq1, hnu]) (fun u4 _ => ?_)
        rw [hq, hnu]
        refine ⟨?_, fun i a b => ?_, ?_, ?_⟩
        · rw [pgT_r, p3, r2, pgr_up _ (by decide), show numV 0 40 (.inr u2) - 8 + aj 50 = numV 0 40 (.inr u2) from Int32.sub_add_cancel _ 8]
          exact hv.up (by decide) (by decide) _
        · rw [p3, pk_un (by omega), r2]; exact hz i a b
        · rw [p2 2 (by omega)]; exact g2
        · rw [p2 3 (by omega)]; exact g3
      refine j_icmp_gt (q := 28) (tgt := 39) dX7_readLine_25 rfl (by decide) (fun h25 => ?_) (fun h25 => ?_)
      · refine j_iload_n (q := 40) dX7_readLine_39 rfl (by rfl) ?_
        refine j_bipush (q := 42) (v := 6) dX7_readLine_40 rfl (by decide) ?_
        refine j_icmp_ne (q := 45) (tgt := 62) dX7_readLine_42 rfl (by decide) (fun h42 => ?_) (fun h42 => ?_)
        · refine j_iload_n (q := 63) dX7_readLine_62 rfl (by rfl) ?_
          refine j_iconst (q := 64) (v := 4) dX7_readLine_63 rfl (by decide) ?_
          refine j_icmp_ne (q := 67) (tgt := 74) dX7_readLine_64 rfl (by decide) (fun h64 => ?_) (fun h64 => ?_)
          · exact absurd rfl h64
          refine j_aload_n (q := 68) dX7_readLine_67 rfl (by rfl) ?_
          refine j_geti (q := 71) dX7_readLine_68 rfl fX7_110 (by first | with_reducible assumption | assumption) (by rfl) ?_
          rw [e2]
          refine j_if_ne (q := 74) (tgt := 86) dX7_readLine_71 rfl (by decide) (fun h71 => ?_) (fun h71 => ?_)
          · refine j_aload_n (q := 87) dX7_readLine_86 rfl (by rfl) ?_
            refine j_iconst (q := 88) (v := 4) dX7_readLine_87 rfl (by decide) ?_
            refine o_callVx (q := 91) dX7_readLine_88 rfl lX7_93 mwX7_fails mvX7_fails cn7 (by assumption) (by rfl) rfl (Nat.le_of_ble_eq_true (by rfl)) (by first | decide | omega) (cM_failAt E σ m hi t 4 u hR hS) ?_
            rintro _ m1 ⟨rfl, d1, s1⟩
            exact K4 m1 _ (by rw [decide_eq_true h71]; rfl) d1 s1 (k5 4 (by decide) (by decide))
          · have hf0 : fl = 0 := by first | exact h71 | exact Decidable.not_not.mp h71
            refine j_iload_n (q := 75) dX7_readLine_74 rfl (by rfl) ?_
            refine j_iconst (q := 76) (v := 5) dX7_readLine_75 rfl (by decide) ?_
            refine j_icmp_ne (q := 79) (tgt := 91) dX7_readLine_76 rfl (by decide) (fun h76 => ?_) (fun h76 => ?_)
            · exact K4 m _ (by rw [hf0]; rfl) (rdq.rf t m) hS hk
            · exact absurd (show nI 4 = 5 by first | exact h76 | exact Decidable.not_not.mp h76) (by decide)
        · exact absurd (show nI 4 = 6 by first | exact h42 | exact Decidable.not_not.mp h42) (by decide)
      · exact absurd (show (3 : Int32) < nI 4 by decide) h25
    by_cases n5 : n = 5
    · subst n5
      have hq := Q5 rfl
      have K4 : ∀ (m1 : gMem) (R1 : pT), flr 4 (decide (ca ≠ 0)) (.inr u) = R1 → rdq t m m1 → RSR (m1.1 t) R1 → okTk L R1 → (gJ E yX7_readLine cX7_readLine 2 (none) (gRm 4 0 0) F 91 ([some (.ref t), some (.int (nI 5))]) ([]) 0 0 σ (m1) hi) := by
        intro m1 R1 hf d1 s1 k1
        unfold ln1 at hq
        rw [hf] at hq
        have hq1 : Q.1 = stpR B L (numR B L 0 20 (namR B L R1)) := by rw [hq]
        refine K91 m1 R1 fl 1 d1 s1 k1 (fun u' h => flr_eq (hf.trans h)) (if_neg (by decide)).symm (if_pos rfl).symm (by decide) (fun e he => by rw [hq1, he]; rfl) ?_
        intro m2 u2 d2 r2 g2 g3 hnu s2 k2
        refine j_aload_n (q := 146) dX7_readLine_145 rfl (by rfl) ?_
        refine j_iload_n (q := 147) dX7_readLine_146 rfl (by rfl) ?_
        refine o_callVx (q := 150) dX7_readLine_147 rfl lX7_117 mwX7_readMore mvX7_readMore cn7 (by assumption) (by rfl) rfl (Nat.le_of_ble_eq_true (by rfl)) (by first | decide | omega) (cM_readMoreC E σ m2 hi t L (.inr u2) hR (d2.T hT) s2 k2) ?_
        rintro _ m3 ⟨rfl, p1, p2, p3, p4⟩
        rw [d2.1 (t + 3) (by omega) (by omega), hB] at p4
        refine K150 m3 _ _ (d2.tr ⟨p1, fun k a => p2 k (by omega)⟩) p4 (numR_ok _ _ k2) (by rw [hq1, hnu]) (fun u4 _ => ?_)
        rw [hq, hnu]
        refine ⟨?_, fun i a b => ?_, ?_, ?_⟩
        · rw [pgT_r, p3, r2, pgr_up _ (by decide), show numV 0 20 (.inr u2) - 4 + aj 51 = numV 0 20 (.inr u2) from Int32.sub_add_cancel _ 4]
          exact hv.up (by decide) (by decide) _
        · rw [p3, pk_un (by omega), r2]; exact hz i a b
        · rw [p2 2 (by omega)]; exact g2
        · rw [p2 3 (by omega)]; exact g3
      refine j_icmp_gt (q := 28) (tgt := 39) dX7_readLine_25 rfl (by decide) (fun h25 => ?_) (fun h25 => ?_)
      · refine j_iload_n (q := 40) dX7_readLine_39 rfl (by rfl) ?_
        refine j_bipush (q := 42) (v := 6) dX7_readLine_40 rfl (by decide) ?_
        refine j_icmp_ne (q := 45) (tgt := 62) dX7_readLine_42 rfl (by decide) (fun h42 => ?_) (fun h42 => ?_)
        · refine j_iload_n (q := 63) dX7_readLine_62 rfl (by rfl) ?_
          refine j_iconst (q := 64) (v := 4) dX7_readLine_63 rfl (by decide) ?_
          refine j_icmp_ne (q := 67) (tgt := 74) dX7_readLine_64 rfl (by decide) (fun h64 => ?_) (fun h64 => ?_)
          · refine j_iload_n (q := 75) dX7_readLine_74 rfl (by rfl) ?_
            refine j_iconst (q := 76) (v := 5) dX7_readLine_75 rfl (by decide) ?_
            refine j_icmp_ne (q := 79) (tgt := 91) dX7_readLine_76 rfl (by decide) (fun h76 => ?_) (fun h76 => ?_)
            · exact absurd rfl h76
            refine j_aload_n (q := 80) dX7_readLine_79 rfl (by rfl) ?_
            refine j_geti (q := 83) dX7_readLine_80 rfl fX7_114 (by first | with_reducible assumption | assumption) (by rfl) ?_
            rw [e3]
            refine j_if_eq (q := 86) (tgt := 91) dX7_readLine_83 rfl (by decide) (fun h83 => ?_) (fun h83 => ?_)
            · exact K4 m _ (by rw [h83]; rfl) (rdq.rf t m) hS hk
            · refine j_aload_n (q := 87) dX7_readLine_86 rfl (by rfl) ?_
              refine j_iconst (q := 88) (v := 4) dX7_readLine_87 rfl (by decide) ?_
              refine o_callVx (q := 91) dX7_readLine_88 rfl lX7_93 mwX7_fails mvX7_fails cn7 (by assumption) (by rfl) rfl (Nat.le_of_ble_eq_true (by rfl)) (by first | decide | omega) (cM_failAt E σ m hi t 4 u hR hS) ?_
              rintro _ m1 ⟨rfl, d1, s1⟩
              exact K4 m1 _ (by rw [decide_eq_true h83]; rfl) d1 s1 (k5 4 (by decide) (by decide))
          · exact absurd (show nI 5 = 4 by first | exact h64 | exact Decidable.not_not.mp h64) (by decide)
        · exact absurd (show nI 5 = 6 by first | exact h42 | exact Decidable.not_not.mp h42) (by decide)
      · exact absurd (show (3 : Int32) < nI 5 by decide) h25
    by_cases n6 : n = 6
    · subst n6
      have hq := Q6 rfl
      have K4 : ∀ (m1 : gMem) (R1 : pT), flr 5 (decide (12 ≤ r)) (.inr u) = R1 → rdq t m m1 → RSR (m1.1 t) R1 → okTk L R1 → (gJ E yX7_readLine cX7_readLine 2 (none) (gRm 4 0 0) F 62 ([some (.ref t), some (.int (nI 6))]) ([]) 0 0 σ (m1) hi) := by
        intro m1 R1 hf d1 s1 k1
        unfold ln2 at hq
        rw [hf] at hq
        have hq1 : Q.1 = stpR B L (numR B L 0 4 (numR B L 0 9 (namR B L R1))) := by rw [hq]
        refine K62 m1 (by decide) (by decide) (by decide) (K91 m1 R1 fl ca d1 s1 k1 (fun u' h => flr_eq (hf.trans h)) (if_neg (by decide)).symm (if_neg (by decide)).symm (by decide) (fun e he => by rw [hq1, he]; rfl) ?_)
        intro m2 u2 d2 r2 g2 g3 hnu s2 k2
        have hlt : r < 12 := by
          by_cases h12 : 12 ≤ r
          · rw [decide_eq_true h12] at hf
            rw [← hf] at hnu
            exact absurd hnu (by simp [flr, namR])
          · omega
        rw [if_pos hlt] at hq
        refine j_aload_n (q := 146) dX7_readLine_145 rfl (by rfl) ?_
        refine j_iload_n (q := 147) dX7_readLine_146 rfl (by rfl) ?_
        refine o_callVx (q := 150) dX7_readLine_147 rfl lX7_117 mwX7_readMore mvX7_readMore cn7 (by assumption) (by rfl) rfl (Nat.le_of_ble_eq_true (by rfl)) (by first | decide | omega) (cM_readMoreH E σ m2 hi t L r (.inr u2) hR (d2.T hT) s2 k2 (by rw [r2]; exact m49) hlt) ?_
        rintro _ m3 ⟨rfl, p1, p2, p3, p4⟩
        rw [d2.1 (t + 3) (by omega) (by omega), hB] at p4 p3
        refine K150 m3 _ _ (d2.tr ⟨p1, fun k a => p2 k (by omega)⟩) p4 (numR_ok _ _ (numR_ok _ _ k2)) (by rw [hq1, hnu]) (fun u4 _ => ?_)
        rw [hq, hnu]
        refine ⟨?_, fun i a b => ?_, ?_, ?_⟩
        · rw [pgT_r, p3, r2, pgr_add _ hlt m49]
          exact addR_veq hv ⟨c, hc, hc4⟩ hr hlt _ _
        · rw [p3, pk_un (by omega), pk_un (by omega), pk_un (by omega), r2]; exact hz i a b
        · rw [p2 2 (by omega)]; exact g2
        · rw [p2 3 (by omega)]; exact g3
      refine j_icmp_gt (q := 28) (tgt := 39) dX7_readLine_25 rfl (by decide) (fun h25 => ?_) (fun h25 => ?_)
      · refine j_iload_n (q := 40) dX7_readLine_39 rfl (by rfl) ?_
        refine j_bipush (q := 42) (v := 6) dX7_readLine_40 rfl (by decide) ?_
        refine j_icmp_ne (q := 45) (tgt := 62) dX7_readLine_42 rfl (by decide) (fun h42 => ?_) (fun h42 => ?_)
        · exact absurd rfl h42
        refine j_aload_n (q := 46) dX7_readLine_45 rfl (by rfl) ?_
        refine j_getr (q := 49) dX7_readLine_46 rfl fX7_13 (by first | with_reducible assumption | assumption) (by rfl) ?_
        refine j_bipush (q := 51) (v := 49) dX7_readLine_49 rfl (by decide) ?_
        refine j_iaload (q := 52) dX7_readLine_51 rfl (by first | with_reducible assumption | assumption) (by first | with_reducible assumption | assumption) ?_
        rw [m49]
        refine j_bipush (q := 54) (v := 12) dX7_readLine_52 rfl (by decide) ?_
        refine j_icmp_ne (q := 57) (tgt := 62) dX7_readLine_54 rfl (by decide) (fun h54 => ?_) (fun h54 => ?_)
        · have hlt : ¬ 12 ≤ r := fun q => h54 (by rw [show r = 12 by omega]; rfl)
          exact K4 m _ (by rw [decide_eq_false hlt]; rfl) (rdq.rf t m) hS hk
        · have h12 : r = 12 := nI_inj (b := 12) (by omega) (by omega) (by first | exact h54 | exact Decidable.not_not.mp h54)
          refine j_aload_n (q := 58) dX7_readLine_57 rfl (by rfl) ?_
          refine j_iconst (q := 59) (v := 5) dX7_readLine_58 rfl (by decide) ?_
          refine o_callVx (q := 62) dX7_readLine_59 rfl lX7_93 mwX7_fails mvX7_fails cn7 (by assumption) (by rfl) rfl (Nat.le_of_ble_eq_true (by rfl)) (by first | decide | omega) (cM_failAt E σ m hi t 5 u hR hS) ?_
          rintro _ m1 ⟨rfl, d1, s1⟩
          exact K4 m1 _ (by rw [decide_eq_true (show 12 ≤ r by omega)]; rfl) d1 s1 (k5 5 (by decide) (by decide))
      · exact absurd (show (3 : Int32) < nI 6 by decide) h25
    have hn3 : n ≤ 3 := by omega
    have hq := Q3 hn3
    have K4 : ∀ (m1 : gMem) (R1 : pT), flr 5 (decide (4 ≤ c)) (.inr u) = R1 → rdq t m m1 → RSR (m1.1 t) R1 → okTk L R1 → (gJ E yX7_readLine cX7_readLine 2 (none) (gRm 4 0 0) F 62 ([some (.ref t), some (.int (nI n))]) ([]) 0 0 σ (m1) hi) := by
      intro m1 R1 hf d1 s1 k1
      unfold ln2 at hq
      rw [hf] at hq
      have hq1 : Q.1 = stpR B L (numR B L 0 9 (numR B L 1 60 (namR B L R1))) := by rw [hq]
      refine K62 m1 hn7 n4 n5 (K91 m1 R1 fl ca d1 s1 k1 (fun u' h => flr_eq (hf.trans h)) (if_neg n4).symm (if_neg n5).symm hn7 (fun e he => by rw [hq1, he]; rfl) ?_)
      intro m2 u2 d2 r2 g2 g3 hnu s2 k2
      have hlt : c < 4 := by
        by_cases h12 : 4 ≤ c
        · rw [decide_eq_true h12] at hf
          rw [← hf] at hnu
          exact absurd hnu (by simp [flr, namR])
        · omega
      rw [if_pos hlt] at hq
      refine j_aload_n (q := 146) dX7_readLine_145 rfl (by rfl) ?_
      refine j_iload_n (q := 147) dX7_readLine_146 rfl (by rfl) ?_
      refine o_callVx (q := 150) dX7_readLine_147 rfl lX7_117 mwX7_readMore mvX7_readMore cn7 (by assumption) (by rfl) rfl (Nat.le_of_ble_eq_true (by rfl)) (by first | decide | omega) (cM_readMoreV E σ m2 hi t L n c (.inr u2) hR (d2.T hT) s2 k2 hn3 (by rw [r2]; exact m24) hlt) ?_
      rintro _ m3 ⟨rfl, p1, p2, p3, p4⟩
      rw [d2.1 (t + 3) (by omega) (by omega), hB] at p4 p3
      refine K150 m3 _ _ (d2.tr ⟨p1, fun k a => p2 k (by omega)⟩) p4 (numR_ok _ _ (numR_ok _ _ k2)) (by rw [hq1, hnu]) (fun u4 _ => ?_)
      rw [hq, hnu]
      refine ⟨?_, fun i a b => ?_, ?_, ?_⟩
      · rw [pgT_r, p3, r2, pgr_opn _ hlt m24 hz]
        exact opn_veq hv hc hlt _ _ _
      · rw [p3, pk_un (by omega), pk_un (by omega), pk_un (by omega), pk_un (by omega), r2]; exact hz i a b
      · rw [p2 2 (by omega)]; exact g2
      · rw [p2 3 (by omega)]; exact g3
    have K39 : ∀ m1 : gMem, (gJ E yX7_readLine cX7_readLine 2 (none) (gRm 4 0 0) F 62 ([some (.ref t), some (.int (nI n))]) ([]) 0 0 σ (m1) hi) → (gJ E yX7_readLine cX7_readLine 2 (none) (gRm 4 0 0) F 39 ([some (.ref t), some (.int (nI n))]) ([]) 0 0 σ (m1) hi) := by
      intro m1 hK
      refine j_iload_n (q := 40) dX7_readLine_39 rfl (by rfl) ?_
      refine j_bipush (q := 42) (v := 6) dX7_readLine_40 rfl (by decide) ?_
      refine j_icmp_ne (q := 45) (tgt := 62) dX7_readLine_42 rfl (by decide) (fun h42 => ?_) (fun h42 => ?_)
      · exact hK
      · exact absurd (nI_inj (b := 6) (by omega) (by omega) (by first | exact h42 | exact Decidable.not_not.mp h42)) n6
    refine j_icmp_gt (q := 28) (tgt := 39) dX7_readLine_25 rfl (by decide) (fun h25 => ?_) (fun h25 => ?_)
    · exact absurd h25 (nI_nlt (a := 3) (b := n) (by omega) (by omega))
    refine j_aload_n (q := 29) dX7_readLine_28 rfl (by rfl) ?_
    refine j_getr (q := 32) dX7_readLine_29 rfl fX7_13 (by first | with_reducible assumption | assumption) (by rfl) ?_
    refine j_bipush (q := 34) (v := 24) dX7_readLine_32 rfl (by decide) ?_
    refine j_iaload (q := 35) dX7_readLine_34 rfl (by first | with_reducible assumption | assumption) (by first | with_reducible assumption | assumption) ?_
    rw [m24]
    refine j_iconst (q := 36) (v := 4) dX7_readLine_35 rfl (by decide) ?_
    refine j_icmp_eq (q := 39) (tgt := 57) dX7_readLine_36 rfl (by decide) (fun h36 => ?_) (fun h36 => ?_)
    · have h4 : c = 4 := nI_inj (b := 4) (by omega) (by omega) (by first | exact h36 | exact Decidable.not_not.mp h36)
      refine j_aload_n (q := 58) dX7_readLine_57 rfl (by rfl) ?_
      refine j_iconst (q := 59) (v := 5) dX7_readLine_58 rfl (by decide) ?_
      refine o_callVx (q := 62) dX7_readLine_59 rfl lX7_93 mwX7_fails mvX7_fails cn7 (by assumption) (by rfl) rfl (Nat.le_of_ble_eq_true (by rfl)) (by first | decide | omega) (cM_failAt E σ m hi t 5 u hR hS) ?_
      rintro _ m1 ⟨rfl, d1, s1⟩
      exact K4 m1 _ (by rw [decide_eq_true (show 4 ≤ c by omega)]; rfl) d1 s1 (k5 5 (by decide) (by decide))
    · have hlt : ¬ 4 ≤ c := fun q => h36 (by rw [show c = 4 by omega]; rfl)
      exact K39 m (K4 m _ (by rw [decide_eq_false hlt]; rfl) (rdq.rf t m) hS hk)
