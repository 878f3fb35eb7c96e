/-! the calls that change more: tape, seen, images -/
theorem by127 : ∀ b, b < 128 → (nI b).toInt8.toInt32 = nI b := by decide +kernel
section PT
variable {m m' : gMem} {x t : Nat}
/-- the tape's rows changed alone -/
theorem REL.setT (h : REL m x t) (ht : x + 94 ≤ t) (hT : rT m' x t) (h1 : ∀ q, q ≠ x + 21 → q ≠ x + 22 → q ≠ t + 3 → q ≠ t → m'.1 q = m.1 q) (h2 : ∀ r, r ≠ 5 → m'.1 t r = m.1 t r) : REL m' x t := by
  obtain ⟨a1, a2, a3, a4, a5, a6, a7⟩ := h
  exact ⟨a1.cg (fun q u v => h1 q (by omega) (by omega) (by omega) (by omega)) (fun r _ => by rw [h1 _ (by omega) (by omega) (by omega) (by omega)]), hT, a3.cg (by rw [h1 _ (by omega) (by omega) (by omega) (by omega)]) (by rw [h1 _ (by omega) (by omega) (by omega) (by omega)]) (h2 _ (by omega)) (h2 _ (by omega)), a4.cg (by rw [h1 _ (by omega) (by omega) (by omega) (by omega)]) (h1 _ (by omega) (by omega) (by omega) (by omega)) (h1 _ (by omega) (by omega) (by omega) (by omega)) (h1 _ (by omega) (by omega) (by omega) (by omega)) (h2 _ (by omega)) (h1 _ (by omega) (by omega) (by omega) (by omega)), a5.cg (h1 _ (by omega) (by omega) (by omega) (by omega)) (fun q u v => h1 q (by omega) (by omega) (by omega) (by omega)) (h1 _ (by omega) (by omega) (by omega) (by omega)) (fun r _ _ => by rw [h1 _ (by omega) (by omega) (by omega) (by omega)]), a6.cg (fun q u v => h1 q (by omega) (by omega) (by omega) (by omega)) (h1 _ (by omega) (by omega) (by omega) (by omega)) (h1 _ (by omega) (by omega) (by omega) (by omega)) (h1 _ (by omega) (by omega) (by omega) (by omega)), a7.cg (h1 _ (by omega) (by omega) (by omega) (by omega)) (h1 _ (by omega) (by omega) (by omega) (by omega))⟩
theorem REL.setS (h : REL m x t) (ht : x + 94 ≤ t) (hS : rS m' x t) (h1 : ∀ q, ¬ (x + 23 ≤ q ∧ q < x + 27) → q ≠ t + 9 → q ≠ t → m'.1 q = m.1 q) (h2 : ∀ r, r ≠ 23 → m'.1 t r = m.1 t r) : REL m' x t := by
  obtain ⟨a1, a2, a3, a4, a5, a6, a7⟩ := h
  exact ⟨a1.cg (fun q u v => h1 q (by omega) (by omega) (by omega)) (fun r _ => by rw [h1 _ (by omega) (by omega) (by omega)]), a2.cg (by rw [h1 _ (by omega) (by omega) (by omega)]) (h1 _ (by omega) (by omega) (by omega)) (h2 _ (by omega)) (h1 _ (by omega) (by omega) (by omega)), a3.cg (by rw [h1 _ (by omega) (by omega) (by omega)]) (by rw [h1 _ (by omega) (by omega) (by omega)]) (h2 _ (by omega)) (h2 _ (by omega)), hS, a5.cg (h1 _ (by omega) (by omega) (by omega)) (fun q u v => h1 q (by omega) (by omega) (by omega)) (h1 _ (by omega) (by omega) (by omega)) (fun r _ _ => by rw [h1 _ (by omega) (by omega) (by omega)]), a6.cg (fun q u v => h1 q (by omega) (by omega) (by omega)) (h1 _ (by omega) (by omega) (by omega)) (h1 _ (by omega) (by omega) (by omega)) (h1 _ (by omega) (by omega) (by omega)), a7.cg (h1 _ (by omega) (by omega) (by omega)) (h1 _ (by omega) (by omega) (by omega))⟩
theorem REL.setI (h : REL m x t) (ht : x + 94 ≤ t) (hI : rI m' x t) (h1 : ∀ q, q ≠ x + 19 → ¬ (x + 70 ≤ q ∧ q < x + 86) → q ≠ t + 11 → q ≠ t + 1 → m'.1 q = m.1 q) (h2 : ∀ r, r < 53 → m'.1 (t + 1) r = m.1 (t + 1) r) : REL m' x t := by
  obtain ⟨a1, a2, a3, a4, a5, a6, a7⟩ := h
  exact ⟨a1.cg (fun q u v => h1 q (by omega) (by omega) (by omega) (by omega)) (fun r u => h2 r u), a2.cg (by rw [h1 _ (by omega) (by omega) (by omega) (by omega)]) (h1 _ (by omega) (by omega) (by omega) (by omega)) (by rw [h1 _ (by omega) (by omega) (by omega) (by omega)]) (h1 _ (by omega) (by omega) (by omega) (by omega)), a3.cg (by rw [h1 _ (by omega) (by omega) (by omega) (by omega)]) (by rw [h1 _ (by omega) (by omega) (by omega) (by omega)]) (by rw [h1 _ (by omega) (by omega) (by omega) (by omega)]) (by rw [h1 _ (by omega) (by omega) (by omega) (by omega)]), a4.cg (by rw [h1 _ (by omega) (by omega) (by omega) (by omega)]) (h1 _ (by omega) (by omega) (by omega) (by omega)) (h1 _ (by omega) (by omega) (by omega) (by omega)) (h1 _ (by omega) (by omega) (by omega) (by omega)) (by rw [h1 _ (by omega) (by omega) (by omega) (by omega)]) (h1 _ (by omega) (by omega) (by omega) (by omega)), hI, a6.cg (fun q u v => h1 q (by omega) (by omega) (by omega) (by omega)) (h1 _ (by omega) (by omega) (by omega) (by omega)) (h1 _ (by omega) (by omega) (by omega) (by omega)) (h1 _ (by omega) (by omega) (by omega) (by omega)), a7.cg (h1 _ (by omega) (by omega) (by omega) (by omega)) (h1 _ (by omega) (by omega) (by omega) (by omega))⟩
theorem REL.setH (h : REL m x t) (ht : x + 94 ≤ t) (hH : rH m' x t) (h1 : ∀ q, ¬ (x + 86 ≤ q ∧ q < x + 94) → q ≠ t + 12 → q ≠ t + 13 → q ≠ t + 14 → m'.1 q = m.1 q) : REL m' x t := by
  obtain ⟨a1, a2, a3, a4, a5, a6, a7⟩ := h
  exact ⟨a1.cg (fun q u v => h1 q (by omega) (by omega) (by omega) (by omega)) (fun r _ => by rw [h1 _ (by omega) (by omega) (by omega) (by omega)]), a2.cg (by rw [h1 _ (by omega) (by omega) (by omega) (by omega)]) (h1 _ (by omega) (by omega) (by omega) (by omega)) (by rw [h1 _ (by omega) (by omega) (by omega) (by omega)]) (h1 _ (by omega) (by omega) (by omega) (by omega)), a3.cg (by rw [h1 _ (by omega) (by omega) (by omega) (by omega)]) (by rw [h1 _ (by omega) (by omega) (by omega) (by omega)]) (by rw [h1 _ (by omega) (by omega) (by omega) (by omega)]) (by rw [h1 _ (by omega) (by omega) (by omega) (by omega)]), a4.cg (by rw [h1 _ (by omega) (by omega) (by omega) (by omega)]) (h1 _ (by omega) (by omega) (by omega) (by omega)) (h1 _ (by omega) (by omega) (by omega) (by omega)) (h1 _ (by omega) (by omega) (by omega) (by omega)) (by rw [h1 _ (by omega) (by omega) (by omega) (by omega)]) (h1 _ (by omega) (by omega) (by omega) (by omega)), a5.cg (h1 _ (by omega) (by omega) (by omega) (by omega)) (fun q u v => h1 q (by omega) (by omega) (by omega) (by omega)) (h1 _ (by omega) (by omega) (by omega) (by omega)) (fun r _ _ => by rw [h1 _ (by omega) (by omega) (by omega) (by omega)]), hH, a7.cg (h1 _ (by omega) (by omega) (by omega) (by omega)) (h1 _ (by omega) (by omega) (by omega) (by omega))⟩
end PT
theorem pr_feed (E : gEv) (σ : gSg) (m : gMem) (hi x t : Nat) (c : Int32) (hN : gN σ x) (hR : gR σ t) (h : REL m x t) (ht : x + 94 ≤ t) : gPair E σ m hi x t yX6_feed cX6_feed 2 (some .int) 1 yX7_feed cX7_feed 2 (some .int) 1 [.int c] := by
  obtain ⟨L, hL, l1, l2, l3, l4⟩ := h.2.1
  have h1 := cX_feed E σ m hi x L c hN l1 hL
  by_cases hg : (0 ≤ c ∧ c ≤ 127) ∧ L < 160
  · rw [if_pos hg] at h1
    obtain ⟨b, hb, eb⟩ := le_nI (c := 127) (by omega) hg.1.1 hg.1.2
    have ec : c.toInt8.toInt32 = c := by rw [eb]; exact by127 b (by omega)
    have h2 := cM_feed E σ (tkM m x L c) hi t L c hR (by unfold tkM; rw [gW_n (by omega), gW_n (by omega)]; exact l2) hL
    rw [if_pos hg] at h2
    refine pair_x h1 h2 ?_
    unfold tkM
    refine h.setT ht ⟨L + 1, by omega, ?_, ?_, ?_, fun p hp => ?_⟩ (fun q u1 u2 u3 u4 => ?_) (fun r hr => ?_)
    · rw [gW_n (by omega), gW_n (by omega), gW_s]
    · rw [gW_s]
    · rw [gW_rn (by omega), gW_rn (by omega), gW_rn (by omega), gW_ro, gW_rn (by omega), gW_ro, gW_rn (by omega), gW_rn (by omega), l3, ec]
    · rw [gW_rn (by omega), gW_ro, gW_rn (by omega), gW_rn (by omega)]
      by_cases hpL : p = L
      · subst hpL; rw [pk_us]; exact ⟨b, by omega, eb⟩
      · rw [pk_un hpL]; exact l4 p (by omega)
    · rw [gW_rn u4, gW_rn u3, gW_rn u1, gW_rn u2]
    · rw [gW_n (by omega), gW_rn (by omega), gW_rn (by omega), gW_rn (by omega)]
  · rw [if_neg hg] at h1
    have h2 := cM_feed E σ m hi t L c hR l2 hL
    rw [if_neg hg] at h2
    exact pair_eq h h1 h2
theorem pr_end (E : gEv) (σ : gSg) (m : gMem) (hi x t : Nat) (n : Int32) (hN : gN σ x) (hR : gR σ t) (h : REL m x t) (ht : x + 94 ≤ t) : gPair E σ m hi x t yX6_end cX6_end 3 (some .int) 1 yX7_end cX7_end 3 (some .int) 1 [.int n] := by
  obtain ⟨L, hL, l1, l2, l3, l4⟩ := h.2.1
  have h1 := cX_end E σ m hi x n hN
  rw [l1] at h1
  by_cases hg : 0 ≤ n ∧ n ≤ nI L
  · rw [if_pos hg, if_pos hg] at h1
    obtain ⟨j, hj, ej⟩ := le_nI (c := L) (by omega) hg.1 hg.2
    have h2 := cM_end E σ (gW m (x + 21) 1 n) hi t n hR
    rw [gW_n (by omega), l2, if_pos hg, if_pos hg] at h2
    refine pair_x h1 h2 ?_
    refine h.setT ht ⟨j, by omega, ?_, ?_, ?_, fun p hp => ?_⟩ (fun q u1 u2 u3 u4 => ?_) (fun r hr => ?_)
    · rw [gW_n (by omega), gW_s]; exact ej
    · rw [gW_s]; exact ej
    · rw [gW_rn (by omega), gW_rn (by omega), gW_rn (by omega), gW_rn (by omega), l3]
    · rw [gW_rn (by omega), gW_rn (by omega)]; exact l4 p (by omega)
    · rw [gW_rn u4, gW_rn u1]
    · rw [gW_n (by omega), gW_rn (by omega)]
  · rw [if_neg hg, if_neg hg] at h1
    have h2 := cM_end E σ m hi t n hR
    rw [l2, if_neg hg, if_neg hg] at h2
    exact pair_eq h h1 h2
theorem pr_see (E : gEv) (σ : gSg) (m : gMem) (hi x t : Nat) (n v w : Int32) (hN : gN σ x) (hR : gR σ t) (h : REL m x t) (ht : x + 94 ≤ t) : gPair E σ m hi x t yX6_see cX6_see 4 (some .int) 1 yX7_see cX7_see 4 (some .int) 2 [.int n, .int v, .int w] := by
  obtain ⟨s, s6, s1, s2, s3⟩ := h.2.2.2.1
  have h1 := cX_see E σ m hi x s n v w hN h.ok s1 s6
  by_cases hg : goodSee (pgC m (x + 1)) n v w
  · by_cases hl : s < 6
    · rw [if_pos hg, if_pos hl, if_pos ⟨hg, hl⟩] at h1
      have er : ∀ q, ¬ (x + 23 ≤ q ∧ q < x + 27) → (seM m (x + 23) s n v w).1 q = m.1 q := fun q hq => by
        unfold seM
        rw [gW_rn (by omega), gW_rn (by omega), gW_rn (by omega), gW_rn (by omega)]
      have hpg : pgR (seM m (x + 23) s n v w) t 0 = pgR m t 0 := pgR_row (er _ (by omega)) 0
      have h2 := cM_see E σ (seM m (x + 23) s n v w) hi t s n v w hR (by unfold okM; rw [hpg]; exact h.om) (by rw [er t (by omega)]; exact s2) s6
      have hg2 : goodSee (pgR m t 0) n v w := (goodSee_veq h.v n v w).mpr hg
      rw [hpg, if_pos hg2, if_pos hl, if_pos ⟨hg2, hl⟩] at h2
      refine pair_x h1 h2 ?_
      obtain ⟨e1, e2⟩ := h.oc.n
      obtain ⟨nn, hnn, en⟩ := le_nI (c := 40) (by omega) hg.1.1 hg.1.2
      obtain ⟨jj, hjj, ejj⟩ : ∃ j, j < 4 ∧ v = nI j := by
        rcases ixV_or v e1 (by omega) with ⟨-, q⟩ | ⟨j, q1, q2, -, -⟩
        · exact absurd q hg.2.1
        · exact ⟨j, by omega, q2⟩
      have c24 : (seM m (x + 23) s n v w).1 (x + 24) = upd (m.1 (x + 24)) s n := by unfold seM; rw [gW_rn (by omega), gW_rn (by omega), gW_rn (by omega), gW_ro]
      have c25 : (seM m (x + 23) s n v w).1 (x + 25) = upd (m.1 (x + 25)) s v := by unfold seM; rw [gW_rn (by omega), gW_rn (by omega), gW_ro, gW_rn (by omega)]
      have c26 : (seM m (x + 23) s n v w).1 (x + 26) = upd (m.1 (x + 26)) s w := by unfold seM; rw [gW_rn (by omega), gW_ro, gW_rn (by omega), gW_rn (by omega)]
      have c23 : (seM m (x + 23) s n v w).1 (x + 23) 3 = nI (s + 1) := by unfold seM; rw [gW_s]
      generalize seM m (x + 23) s n v w = M at *
      have d : ∀ q, q ≠ t → q ≠ t + 9 → (seR M t s n v w).1 q = M.1 q := fun q a b => by
        unfold seR
        rw [gW_rn a, gW_rn b, gW_rn b, gW_rn b]
      have d9 : (seR M t s n v w).1 (t + 9) = upd (upd (upd (m.1 (t + 9)) (3 * s) n) (3 * s + 1) v) (3 * s + 2) w := by
        unfold seR
        rw [gW_rn (by omega), gW_ro, gW_ro, gW_ro, er _ (by omega)]
      refine h.setS ht ⟨s + 1, by omega, ?_, ?_, fun i hi' => ?_⟩ (fun q u1 u2 u3 => ?_) (fun r hr => ?_)
      · rw [d _ (by omega) (by omega)]; exact c23
      · unfold seR; rw [gW_s]
      · rw [d (x + 24) (by omega) (by omega), d (x + 25) (by omega) (by omega), d (x + 26) (by omega) (by omega), d9, c24, c25, c26]
        by_cases his : i = s
        · subst his
          rw [pk_us, pk_us, pk_us, pk_un (by omega), pk_un (by omega), pk_us, pk_un (by omega), pk_us, pk_us]
          exact ⟨⟨rfl, rfl, rfl⟩, ⟨nn, hnn, en⟩, jj, hjj, ejj⟩
        · rw [pk_un his, pk_un his, pk_un his, pk_un (by omega), pk_un (by omega), pk_un (by omega), pk_un (by omega), pk_un (by omega), pk_un (by omega), pk_un (by omega), pk_un (by omega), pk_un (by omega)]
          exact s3 i (by omega)
      · rw [d q u3 u2, er q u1]
      · unfold seR
        rw [gW_n (by omega), gW_rn (by omega), gW_rn (by omega), gW_rn (by omega), er t (by omega)]
    · rw [if_pos hg, if_neg hl, if_neg (fun q => hl q.2)] at h1
      have h2 := cM_see E σ m hi t s n v w hR h.om s2 s6
      rw [if_pos ((goodSee_veq h.v n v w).mpr hg), if_neg hl, if_neg (fun q => hl q.2)] at h2
      exact pair_eq h h1 h2
  · rw [if_neg hg, if_neg (fun q => hg q.1)] at h1
    have h2 := cM_see E σ m hi t s n v w hR h.om s2 s6
    have hg2 : ¬ goodSee (pgR m t 0) n v w := fun q => hg ((goodSee_veq h.v n v w).mp q)
    rw [if_neg hg2, if_neg (fun q => hg2 q.1)] at h2
    exact pair_eq h h1 h2
theorem pr_forget (E : gEv) (σ : gSg) (m : gMem) (hi x t : Nat) (n : Int32) (hN : gN σ x) (hR : gR σ t) (h : REL m x t) (ht : x + 94 ≤ t) : gPair E σ m hi x t yX6_forget cX6_forget 3 (some .int) 1 yX7_forget cX7_forget 3 (some .int) 1 [.int n] := by
  obtain ⟨s, s6, s1, s2, s3⟩ := h.2.2.2.1
  have h1 := cX_forget E σ m hi x n hN
  rw [s1] at h1
  by_cases hg : 0 ≤ n ∧ n ≤ nI s
  · rw [if_pos hg, if_pos hg] at h1
    obtain ⟨j, hj, ej⟩ := le_nI (c := s) (by omega) hg.1 hg.2
    have h2 := cM_forget E σ (gW m (x + 23) 3 n) hi t n hR
    rw [gW_n (by omega), s2, if_pos hg, if_pos hg] at h2
    refine pair_x h1 h2 ?_
    refine h.setS ht ⟨j, by omega, ?_, ?_, fun i hi' => ?_⟩ (fun q u1 u2 u3 => ?_) (fun r hr => ?_)
    · rw [gW_n (by omega), gW_s]; exact ej
    · rw [gW_s]; exact ej
    · rw [gW_rn (by omega), gW_rn (by omega), gW_rn (by omega), gW_rn (by omega), gW_rn (by omega), gW_rn (by omega), gW_rn (by omega), gW_rn (by omega)]
      exact s3 i (by omega)
    · rw [gW_rn u3, gW_rn (by omega)]
    · rw [gW_n (by omega), gW_rn (by omega)]
  · rw [if_neg hg, if_neg hg] at h1
    have h2 := cM_forget E σ m hi t n hR
    rw [s2, if_neg hg, if_neg hg] at h2
    exact pair_eq h h1 h2
theorem pr_keep (E : gEv) (σ : gSg) (m : gMem) (hi x t : Nat) (k : Int32) (hN : gN σ x) (hR : gR σ t) (h : REL m x t) (ht : x + 94 ≤ t) : gPair E σ m hi x t yX6_keep cX6_keep 3 (some .int) 3 yX7_keep cX7_keep 3 (some .int) 1 [.int k] := by
  have h1 := cX_keep E σ m hi x k hN h.ok
  have h2 := cM_keep E σ (kpS m x k) hi t k hR
  unfold xKeep kpS at h1
  unfold xKeep kpRS kpS at h2
  cases hk : swN k 1 with
  | none =>
    rw [hk] at h1 h2
    exact pair_eq h h1 h2
  | some j =>
    have hj := swN_lt hk
    rw [hk] at h1 h2
    dsimp only at h1 h2
    have rI0 := h.2.2.2.2.1
    have er : ∀ q, q ≠ x + 19 → ¬ (x + 70 ≤ q ∧ q < x + 86) → (kpM m x j).1 q = m.1 q := fun q a b => by
      unfold kpM
      rw [gW_rn a, gP_row (by omega)]
    rw [er (t + 11) (by omega) (by omega), (rI0 j (by omega)).1] at h2
    refine pair_x h1 h2 ?_
    have hpg0 : pgR (kpM m x j) t 0 = pgR m t 0 := pgR_row (er _ (by omega) (by omega)) 0
    have hb0 : pg0 (bec (pgC m (x + 1)) (pgC m (x + 70 + 8 * j))) := bec_0 (pgC_0 _ _)
    have hbv := bec_veq (pgC m (x + 1)) (pgC m (x + 70 + 8 * j))
    have p70 : pgC (kpM m x j) (x + 70 + 8 * j) = bec (pgC m (x + 1)) (pgC m (x + 70 + 8 * j)) := by
      unfold kpM
      rw [pgC_rows (m := gP m (x + 70 + 8 * j) (bec (pgC m (x + 1)) (pgC m (x + 70 + 8 * j)))) (fun q a b => gW_rn (by omega))]
      exact pgC_gP hb0 _ _
    have p7o : ∀ i, i < 2 → i ≠ j → pgC (kpM m x j) (x + 70 + 8 * i) = pgC m (x + 70 + 8 * i) := fun i hi' hij => by
      unfold kpM
      rw [pgC_rows (m := gP m (x + 70 + 8 * j) (bec (pgC m (x + 1)) (pgC m (x + 70 + 8 * j)))) (fun q a b => gW_rn (by omega))]
      exact pgC_ne (by unfold gAp; omega) _ _
    have p19 : (kpM m x j).1 (x + 19) = upd (m.1 (x + 19)) j 1 := by
      unfold kpM
      rw [gW_ro, gP_row (by omega)]
    generalize kpM m x j = M at *
    unfold kpR
    rw [hpg0]
    refine h.setI ht (fun i hi' => ?_) (fun q u1 u2 u3 u4 => ?_) (fun r hr => ?_)
    · have f11 : (gW (gQ M t (53 * (j + 1)) (pgR m t 0)) (t + 11) j 1).1 (t + 11) = upd (m.1 (t + 11)) j 1 := by rw [gW_ro, gQ_row (by omega), er _ (by omega) (by omega)]
      have f19 : (gW (gQ M t (53 * (j + 1)) (pgR m t 0)) (t + 11) j 1).1 (x + 19) = upd (m.1 (x + 19)) j 1 := by rw [gW_rn (by omega), gQ_row (by omega)]; exact p19
      have fC : pgC (gW (gQ M t (53 * (j + 1)) (pgR m t 0)) (t + 11) j 1) (x + 70 + 8 * i) = pgC M (x + 70 + 8 * i) := pgC_rows (fun q a b => by rw [gW_rn (by omega), gQ_row (by omega)])
      have fR : pgR (gW (gQ M t (53 * (j + 1)) (pgR m t 0)) (t + 11) j 1) t (53 * (i + 1)) = pgR (gQ M t (53 * (j + 1)) (pgR m t 0)) t (53 * (i + 1)) := pgR_row (gW_rn (by omega)) _
      rw [f11, f19, fC, fR]
      by_cases hij : i = j
      · subst hij
        rw [pk_us, pk_us, p70, pgR_gQ (pgR_0 _ _ _)]
        exact ⟨rfl, fun _ => ⟨hbv.sm.tr h.v, h.oc.v hbv, h.ob.v hbv⟩⟩
      · rw [pk_un hij, pk_un hij, p7o i hi' hij, pgR_ne (by omega), pgR_row (er _ (by omega) (by omega))]
        exact rI0 i hi'
    · rw [gW_rn u3, gQ_row u4, er q u1 u2]
    · rw [gW_rn (by omega), gQ_out (by omega), er _ (by omega) (by omega)]
theorem pr_back (E : gEv) (σ : gSg) (m : gMem) (hi x t : Nat) (k : Int32) (hN : gN σ x) (hR : gR σ t) (h : REL m x t) (ht : x + 94 ≤ t) : gPair E σ m hi x t yX6_back cX6_back 2 (some .int) 3 yX7_back cX7_back 2 (some .int) 1 [.int k] := by
  have rI0 := h.2.2.2.2.1
  have h1 := cX_back E σ m hi x k hN (fun j hj hne => ((rI0 j hj).2 hne).2)
  have h2 := fun mm => cM_back E σ mm hi t k hR
  unfold xBack bkS at h1
  unfold xBackR bkRS at h2
  cases hk : swN k 1 with
  | none =>
    rw [hk] at h1 h2
    exact pair_eq h h1 (h2 m)
  | some j =>
    have hj := swN_lt hk
    obtain ⟨i1, i2⟩ := rI0 j (by omega)
    rw [hk] at h1 h2
    dsimp only at h1 h2
    by_cases hz : m.1 (x + 19) j = 0
    · rw [if_pos hz, if_pos hz] at h1
      have h3 := h2 m
      rw [i1, if_pos hz, if_pos hz] at h3
      exact pair_eq h h1 h3
    · rw [if_neg hz, if_neg hz] at h1
      obtain ⟨v1, v2, v3⟩ := i2 hz
      have hbv := bec_veq (pgC m (x + 70 + 8 * j)) (pgC m (x + 1))
      have h3 := h2 (bkM m x j)
      unfold bkM at h1 h3
      rw [gP_row (show t + 11 < x + 1 ∨ x + 1 + 8 ≤ t + 11 by omega), i1, if_neg hz, if_neg hz, pgR_gP _ (by omega), v1.a52] at h3
      exact pair_x h1 h3 (h.pg ht (hbv.sm.tr v1) (v2.v hbv) (v3.v hbv) (bec_0 (pgC_0 _ _)) (pgR_0 _ _ _))
