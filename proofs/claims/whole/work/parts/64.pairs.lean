/-! the calls that change nothing, or a page -/
theorem pr_rule (E : gEv) (σ : gSg) (m : gMem) (hi x t : Nat) (k : Int32) (hN : gN σ x) (hR : gR σ t) (h : REL m x t) (ht : x + 94 ≤ t) : gPair E σ m hi x t yX6_rule cX6_rule 2 (some .int) 2 yX7_rule cX7_rule 2 (some .int) 2 [.int k] := by
  have hm := cM_rule E σ m hi t k hR h.om
  rw [xRule_veq h.v h.oc h.ob] at hm
  exact pair_eq h (cX_rule E σ m hi x k hN h.ok) hm
theorem pr_geyser (E : gEv) (σ : gSg) (m : gMem) (hi x t : Nat) (v k : Int32) (hN : gN σ x) (hR : gR σ t) (h : REL m x t) (ht : x + 94 ≤ t) : gPair E σ m hi x t yX6_geyser cX6_geyser 3 (some .int) 2 yX7_geyser cX7_geyser 3 (some .int) 2 [.int v, .int k] := by
  have hm := cM_geyser E σ m hi t v k hR h.om
  rw [xGeyser_veq h.v h.oc h.ob] at hm
  exact pair_eq h (cX_geyser E σ m hi x v k hN h.ok) hm
theorem pr_row (E : gEv) (σ : gSg) (m : gMem) (hi x t : Nat) (i k : Int32) (hN : gN σ x) (hR : gR σ t) (h : REL m x t) (ht : x + 94 ≤ t) : gPair E σ m hi x t yX6_row cX6_row 3 (some .int) 1 yX7_row cX7_row 3 (some .int) 2 [.int i, .int k] := by
  have hm := cM_row E σ m hi t i k hR h.om
  rw [xRow_veq h.v h.ob] at hm
  exact pair_eq h (cX_row E σ m hi x i k hN h.ok) hm
theorem pr_alter (E : gEv) (σ : gSg) (m : gMem) (hi x t : Nat) (v k z : Int32) (hN : gN σ x) (hR : gR σ t) (h : REL m x t) (ht : x + 94 ≤ t) : gPair E σ m hi x t yX6_alter cX6_alter 5 (some .int) 2 yX7_alter cX7_alter 4 (some .int) 2 [.int v, .int k, .int z] := by
  have hp := xAlter_veq h.v h.oc h.ob (pgC_0 _ _) (pgR_0 _ _ _) v k z
  have hm := cM_alter E σ (gP m (x + 1) (xAlter (pgC m (x + 1)) v k z).2) hi t v k z hR (by unfold okM; rw [pgR_gP _ (by omega)]; exact h.om)
  rw [pgR_gP _ (by omega)] at hm
  exact pair_pg h ht hp (cX_alter E σ m hi x v k z hN h.ok) hm
theorem pr_set (E : gEv) (σ : gSg) (m : gMem) (hi x t : Nat) (i k v : Int32) (hN : gN σ x) (hR : gR σ t) (h : REL m x t) (ht : x + 94 ≤ t) : gPair E σ m hi x t yX6_set cX6_set 5 (some .int) 1 yX7_set cX7_set 5 (some .int) 2 [.int i, .int k, .int v] := by
  have hp := xSet_veq h.v h.oc h.ob (pgC_0 _ _) (pgR_0 _ _ _) i k v
  have hm := cM_set E σ (gP m (x + 1) (xSet (pgC m (x + 1)) i k v).2) hi t i k v hR (by unfold okM; rw [pgR_gP _ (by omega)]; exact h.om)
  rw [pgR_gP _ (by omega)] at hm
  exact pair_pg h ht hp (cX_set E σ m hi x i k v hN h.ok) hm
theorem pr_open (E : gEv) (σ : gSg) (m : gMem) (hi x t : Nat) (a d u : Int32) (hN : gN σ x) (hR : gR σ t) (h : REL m x t) (ht : x + 94 ≤ t) : gPair E σ m hi x t yX6_open cX6_open 4 (some .int) 2 yX7_open cX7_open 5 (some .int) 1 [.int a, .int d, .int u] := by
  have hp := xOpen_veq h.v h.oc h.ob (pgC_0 _ _) (pgR_0 _ _ _) a d u
  have hm := cM_open E σ (gP m (x + 1) (xOpen (pgC m (x + 1)) a d u).2) hi t a d u hR (by unfold okM; rw [pgR_gP _ (by omega)]; exact h.om)
  rw [pgR_gP _ (by omega)] at hm
  exact pair_pg h ht hp (cX_open E σ m hi x a d u hN h.ok) hm
theorem pr_hours (E : gEv) (σ : gSg) (m : gMem) (hi x t : Nat) (n : Int32) (hN : gN σ x) (hR : gR σ t) (h : REL m x t) (ht : x + 94 ≤ t) : gPair E σ m hi x t yX6_hours cX6_hours 2 (some .int) 5 yX7_hours cX7_hours 4 (some .int) 4 [.int n] := by
  have hp := xHours_veq h.v h.oc h.ob (pgC_0 _ _) (pgR_0 _ _ _) n
  have hm := cM_hours E σ (gP m (x + 1) (xHours (pgC m (x + 1)) n).2) hi t n hR (by unfold okM; rw [pgR_gP _ (by omega)]; exact h.om)
  rw [pgR_gP _ (by omega)] at hm
  exact pair_pg h ht hp (cX_hours E σ m hi x n hN h.ok) hm
theorem pr_add (E : gEv) (σ : gSg) (m : gMem) (hi x t : Nat) (w c : Int32) (hN : gN σ x) (hR : gR σ t) (h : REL m x t) (ht : x + 94 ≤ t) : gPair E σ m hi x t yX6_add cX6_add 3 (some .int) 2 yX7_add cX7_add 3 (some .int) 2 [.int w, .int c] := by
  have hp := xAdd_pPR h.v h.oc h.ob (pgC_0 _ _) (pgR_0 _ _ _) w c
  have hm := cM_add E σ (gP m (x + 1) (xAdd (pgC m (x + 1)) w c).2) hi t w c hR (by unfold okM; rw [pgR_gP _ (by omega)]; exact h.om)
  rw [pgR_gP _ (by omega)] at hm
  exact pair_pg h ht hp (cX_add E σ m hi x w c hN h.ok) hm
theorem pr_tell (E : gEv) (σ : gSg) (m : gMem) (hi x t : Nat) (k v : Int32) (hN : gN σ x) (hR : gR σ t) (h : REL m x t) (ht : x + 94 ≤ t) : gPair E σ m hi x t yX6_tell cX6_tell 4 (some .int) 1 yX7_tell cX7_tell 3 (some .int) 1 [.int k, .int v] := by
  have hp := xTell_veq h.v h.oc h.ob (pgC_0 _ _) (pgR_0 _ _ _) k v
  have hm := cM_tell E σ (gP m (x + 1) (xTell (pgC m (x + 1)) k v).2) hi t k v hR
  rw [pgR_gP _ (by omega)] at hm
  exact pair_pg h ht hp (cX_tell E σ m hi x k v hN) hm
theorem pr_cut (E : gEv) (σ : gSg) (m : gMem) (hi x t : Nat) (n : Int32) (hN : gN σ x) (hR : gR σ t) (h : REL m x t) (ht : x + 94 ≤ t) : gPair E σ m hi x t yX6_cut cX6_cut 3 (some .int) 1 yX7_cut cX7_cut 2 (some .int) 1 [.int n] := by
  have hp := xCut_veq h.v h.oc h.ob (pgC_0 _ _) (pgR_0 _ _ _) n
  have hm := cM_cut E σ (gP m (x + 1) (xCut (pgC m (x + 1)) n).2) hi t n hR
  rw [pgR_gP _ (by omega)] at hm
  exact pair_pg h ht hp (cX_cut E σ m hi x n hN) hm
theorem pr_drop (E : gEv) (σ : gSg) (m : gMem) (hi x t : Nat) (n : Int32) (hN : gN σ x) (hR : gR σ t) (h : REL m x t) (ht : x + 94 ≤ t) : gPair E σ m hi x t yX6_drop cX6_drop 3 (some .int) 1 yX7_drop cX7_drop 2 (some .int) 1 [.int n] := by
  have hp := xDrop_veq h.v h.oc h.ob (pgC_0 _ _) (pgR_0 _ _ _) n
  have hm := cM_drop E σ (gP m (x + 1) (xDrop (pgC m (x + 1)) n).2) hi t n hR
  rw [pgR_gP _ (by omega)] at hm
  exact pair_pg h ht hp (cX_drop E σ m hi x n hN) hm
theorem pr_runs (E : gEv) (σ : gSg) (m : gMem) (hi x t : Nat) (n k : Int32) (hN : gN σ x) (hR : gR σ t) (h : REL m x t) (ht : x + 94 ≤ t) : gPair E σ m hi x t yX6_runs cX6_runs 3 (some .int) 5 yX7_runs cX7_runs 4 (some .int) 5 [.int n, .int k] := by
  refine pair_ro (z := xRuns (pgC m (x + 1)) n k) h ht (cX_runs E σ m hi x n k hN h.ok) (fun m1 hs => ?_)
  have hm := cM_runs E σ m1 hi t n k hR (h.om1 ht hs)
  rw [hs.pR ht, xRuns_veq h.v h.oc h.ob] at hm
  exact hm
theorem pr_ahead (E : gEv) (σ : gSg) (m : gMem) (hi x t : Nat) (v n k : Int32) (hN : gN σ x) (hR : gR σ t) (h : REL m x t) (ht : x + 94 ≤ t) : gPair E σ m hi x t yX6_ahead cX6_ahead 7 (some .int) 5 yX7_ahead cX7_ahead 4 (some .int) 5 [.int v, .int n, .int k] := by
  refine pair_ro (z := xAhead (pgC m (x + 1)) v n k) h ht (cX_ahead E σ m hi x v n k hN h.ok) (fun m1 hs => ?_)
  have hm := cM_ahead E σ m1 hi t v n k hR (h.om1 ht hs)
  rw [hs.pR ht, xAhead_veq h.v h.oc h.ob] at hm
  exact hm
theorem pr_ups (E : gEv) (σ : gSg) (m : gMem) (hi x t : Nat) (n : Int32) (hN : gN σ x) (hR : gR σ t) (h : REL m x t) (ht : x + 94 ≤ t) : gPair E σ m hi x t yX6_ups cX6_ups 3 (some .int) 5 yX7_ups cX7_ups 2 (some .int) 5 [.int n] := by
  refine pair_ro (z := xUps (pgC m (x + 1)) n) h ht (cX_ups E σ m hi x n hN h.ok) (fun m1 hs => ?_)
  have hm := cM_ups E σ m1 hi t n hR (h.om1 ht hs)
  rw [hs.pR ht, xUps_veq h.v h.oc h.ob] at hm
  exact hm
theorem pr_when (E : gEv) (σ : gSg) (m : gMem) (hi x t : Nat) (v : Int32) (hN : gN σ x) (hR : gR σ t) (h : REL m x t) (ht : x + 94 ≤ t) : gPair E σ m hi x t yX6_when cX6_when 4 (some .int) 4 yX7_when cX7_when 3 (some .int) 4 [.int v] := by
  refine pair_ro (z := xWhen (pgC m (x + 1)) v) h ht (cX_when E σ m hi x v hN h.ok) (fun m1 hs => ?_)
  have hm := cM_when E σ m1 hi t v hR (h.om1 ht hs)
  rw [hs.pR ht, xWhen_veq h.v h.oc h.ob] at hm
  exact hm
theorem pr_whom (E : gEv) (σ : gSg) (m : gMem) (hi x t : Nat) (i n k : Int32) (hN : gN σ x) (hR : gR σ t) (h : REL m x t) (ht : x + 94 ≤ t) : gPair E σ m hi x t yX6_whom cX6_whom 9 (some .int) 5 yX7_whom cX7_whom 8 (some .int) 5 [.int i, .int n, .int k] := by
  refine pair_ro (z := xWhom (pgC m (x + 1)) i n k) h ht (cX_whom E σ m hi x i n k hN h.ok) (fun m1 hs => ?_)
  have hm := cM_whom E σ m1 hi t i n k hR (h.om1 ht hs)
  rw [hs.pR ht, xWhom_veq h.v h.oc h.ob] at hm
  exact hm
theorem pr_route (E : gEv) (σ : gSg) (m : gMem) (hi x t : Nat) (n k : Int32) (hN : gN σ x) (hR : gR σ t) (h : REL m x t) (ht : x + 94 ≤ t) : gPair E σ m hi x t yX6_route cX6_route 8 (some .int) 5 yX7_route cX7_route 11 (some .int) 3 [.int n, .int k] := by
  refine pair_ro (z := xRoute (pgC m (x + 1)) n k) h ht (cX_route E σ m hi x n k hN h.ok) (fun m1 hs => ?_)
  have hm := cM_route E σ m1 hi t n k hR (h.om1 ht hs)
  rw [hs.pR ht, xRoute_veq h.v h.oc h.ob] at hm
  exact hm
theorem pr_swap (E : gEv) (σ : gSg) (m : gMem) (hi x t : Nat) (n k : Int32) (hN : gN σ x) (hR : gR σ t) (h : REL m x t) (ht : x + 94 ≤ t) : gPair E σ m hi x t yX6_swap cX6_swap 9 (some .int) 5 yX7_swap cX7_swap 7 (some .int) 5 [.int n, .int k] := by
  refine pair_ro (z := xSwap (pgC m (x + 1)) n k) h ht (cX_swap E σ m hi x n k hN h.ok) (fun m1 hs => ?_)
  have hm := cM_swap E σ m1 hi t n k hR (h.om1 ht hs)
  rw [hs.pR ht, xSwap_veq h.v h.oc h.ob] at hm
  exact hm
theorem pr_bears (E : gEv) (σ : gSg) (m : gMem) (hi x t : Nat) (i n : Int32) (hN : gN σ x) (hR : gR σ t) (h : REL m x t) (ht : x + 94 ≤ t) : gPair E σ m hi x t yX6_bears cX6_bears 6 (some .int) 6 yX7_bears cX7_bears 6 (some .int) 5 [.int i, .int n] := by
  refine pair_ro (z := xBears (pgC m (x + 1)) i n) h ht (cX_bears E σ m hi x i n hN h.ok) (fun m1 hs => ?_)
  have hm := cM_bears E σ m1 hi t i n hR (h.om1 ht hs)
  rw [hs.pR ht, xBears_veq h.v h.oc h.ob] at hm
  exact hm
theorem pr_flow (E : gEv) (σ : gSg) (m : gMem) (hi x t : Nat) (v n q : Int32) (hN : gN σ x) (hR : gR σ t) (h : REL m x t) (ht : x + 94 ≤ t) : gPair E σ m hi x t yX6_flow cX6_flow 6 (some .int) 5 yX7_flow cX7_flow 5 (some .int) 5 [.int v, .int n, .int q] := by
  refine pair_ro (z := xFlow (pgC m (x + 1)) v n q) h ht (cX_flow E σ m hi x v n q hN h.ok) (fun m1 hs => ?_)
  have hm := cM_flow E σ m1 hi t v n q hR (h.om1 ht hs)
  rw [hs.pR ht, xFlow_veq h.v h.oc h.ob] at hm
  exact hm
theorem pr_kind (E : gEv) (σ : gSg) (m : gMem) (hi x t : Nat) (v n k : Int32) (hN : gN σ x) (hR : gR σ t) (h : REL m x t) (ht : x + 94 ≤ t) : gPair E σ m hi x t yX6_kind cX6_kind 9 (some .int) 5 yX7_kind cX7_kind 7 (some .int) 5 [.int v, .int n, .int k] := by
  refine pair_ro (z := xKind (pgC m (x + 1)) v n k) h ht (cX_kind E σ m hi x v n k hN h.ok) (fun m1 hs => ?_)
  have hm := cM_kind E σ m1 hi t v n k hR (h.om1 ht hs)
  rw [hs.pR ht, xKind_veq h.v h.oc h.ob] at hm
  exact hm
theorem pr_season (E : gEv) (σ : gSg) (m : gMem) (hi x t : Nat) (s n k : Int32) (hN : gN σ x) (hR : gR σ t) (h : REL m x t) (ht : x + 94 ≤ t) : gPair E σ m hi x t yX6_season cX6_season 9 (some .int) 4 yX7_season cX7_season 7 (some .int) 3 [.int s, .int n, .int k] := by
  refine pair_ro (z := xSeason (pgC m (x + 1)) s n k) h ht (cX_season E σ m hi x s n k hN h.ok) (fun m1 hs => ?_)
  have hm := cM_season E σ m1 hi t s n k hR (h.om1 ht hs)
  rw [hs.pR ht, xSeason_veq h.v h.oc h.ob] at hm
  exact hm
theorem pr_play (E : gEv) (σ : gSg) (m : gMem) (hi x t : Nat) (n k : Int32) (hN : gN σ x) (hR : gR σ t) (h : REL m x t) (ht : x + 94 ≤ t) : gPair E σ m hi x t yX6_play cX6_play 7 (some .int) 13 yX7_play cX7_play 8 (some .int) 3 [.int n, .int k] := by
  refine pair_ro (z := xPlay (pgC m (x + 1)) n k) h ht (cX_play E σ m hi x n k hN h.ok) (fun m1 hs => ?_)
  have hm := cM_play E σ m1 hi t n k hR (h.om1 ht hs)
  rw [hs.pR ht, xPlay_veq h.v h.oc] at hm
  exact hm
theorem pr_again (E : gEv) (σ : gSg) (m : gMem) (hi x t : Nat) (hN : gN σ x) (hR : gR σ t) (h : REL m x t) (ht : x + 94 ≤ t) : gPair E σ m hi x t yX6_again cX6_again 3 (some .int) 4 yX7_again cX7_again 5 (some .int) 4 [] := by
  refine pair_ro (z := agJ (pgC m (x + 1)) 200 1) h ht (cX_again E σ m hi x  hN h.ok) (fun m1 hs => ?_)
  have hm := cM_again E σ m1 hi t  hR (h.om1 ht hs)
  rw [hs.pR ht, agJ_veq h.v h.oc h.ob] at hm
  exact hm
theorem pr_luck (E : gEv) (σ : gSg) (m : gMem) (hi x t : Nat) (v w n k : Int32) (hN : gN σ x) (hR : gR σ t) (h : REL m x t) (ht : x + 94 ≤ t) : gPairL E σ m hi x t yX6_luck cX6_luck 8 (some .long) 5 yX7_luck cX7_luck 5 (some .long) 4 [.int v, .int w, .int n, .int k] := by
  refine pair_roL (z := xLuck (pgC m (x + 1)) v w n k) h ht (cX_luck E σ m hi x v w n k hN h.ok) (fun m1 hs => ?_)
  have hm := cM_luck E σ m1 hi t v w n k hR (h.om1 ht hs)
  rw [hs.pR ht, xLuck_veq h.v h.oc h.ob] at hm
  exact hm
theorem pr_mean (E : gEv) (σ : gSg) (m : gMem) (hi x t : Nat) (v n k : Int32) (hN : gN σ x) (hR : gR σ t) (h : REL m x t) (ht : x + 94 ≤ t) : gPairL E σ m hi x t yX6_mean cX6_mean 7 (some .long) 5 yX7_mean cX7_mean 4 (some .long) 4 [.int v, .int n, .int k] := by
  refine pair_roL (z := xMean (pgC m (x + 1)) v n k) h ht (cX_mean E σ m hi x v n k hN h.ok) (fun m1 hs => ?_)
  have hm := cM_mean E σ m1 hi t v n k hR (h.om1 ht hs)
  rw [hs.pR ht, xMean_veq h.v h.oc h.ob] at hm
  exact hm
theorem pr_fault (E : gEv) (σ : gSg) (m : gMem) (hi x t : Nat) (hN : gN σ x) (hR : gR σ t) (h : REL m x t) (ht : x + 94 ≤ t) : gPair E σ m hi x t yX6_fault cX6_fault 1 (some .int) 0 yX7_fault cX7_fault 1 (some .int) 0 [] := by
  have hm := cM_fault E σ m hi t hR
  rw [h.2.2.1.1] at hm
  exact pair_eq h (cX_fault E σ m hi x hN) hm
theorem pr_torn (E : gEv) (σ : gSg) (m : gMem) (hi x t : Nat) (hN : gN σ x) (hR : gR σ t) (h : REL m x t) (ht : x + 94 ≤ t) : gPair E σ m hi x t yX6_torn cX6_torn 1 (some .int) 0 yX7_torn cX7_torn 1 (some .int) 0 [] := by
  have hm := cM_torn E σ m hi t hR
  rw [h.2.2.1.2] at hm
  exact pair_eq h (cX_torn E σ m hi x hN) hm
theorem REL.sz {m : gMem} {x t : Nat} (h : REL m x t) {j : Nat} (hj : j < 4) : szR m t j = m.1 (x + 86 + 2 * j) 2 ∧ (m.1 (x + 86 + 2 * j) 2 = -4 ∨ ∃ s, s ≤ 40 ∧ m.1 (x + 86 + 2 * j) 2 = nI s) := by
  unfold szR
  rcases (h.2.2.2.2.2.1 j hj).1 with ⟨e1, e2⟩ | ⟨a, s, ha, hs, e1, e2, e3, e4⟩
  · rw [if_pos e2, e1]; exact ⟨rfl, Or.inl rfl⟩
  · have hn : ¬ nI a = -4 := fun q => nI_pos (n := a) (by omega) (by rw [q]; decide)
    rw [e4, if_neg hn, e1, e2]; exact ⟨rfl, Or.inr ⟨s, hs, rfl⟩⟩
theorem pr_count (E : gEv) (σ : gSg) (m : gMem) (hi x t : Nat) (k : Int32) (hN : gN σ x) (hR : gR σ t) (h : REL m x t) (ht : x + 94 ≤ t) : gPair E σ m hi x t yX6_count cX6_count 2 (some .int) 2 yX7_count cX7_count 4 (some .int) 1 [.int k] := by
  have hm := cM_count E σ m hi t k hR h.om
  have e : xCountR m t k = xCount m x k := by
    obtain ⟨s, -, s1, s2, -⟩ := h.2.2.2.1
    obtain ⟨L, -, l1, l2, -, -⟩ := h.2.1
    obtain ⟨z1, z2⟩ := h.sz (j := 0) (by decide)
    have i0 := (h.2.2.2.2.1 0 (by decide)).1
    have i1 := (h.2.2.2.2.1 1 (by decide)).1
    unfold xCountR xCount
    cases hq : swN k 5 with
    | none => rfl
    | some q =>
      have hq8 := swN_lt hq
      match q, hq8 with
      | 0, _ => exact s2.trans s1.symm
      | 1, _ => exact (by rw [i0, i1] : ((if m.1 (t + 11) 0 = 0 then (0 : Int32) else 1) + (if m.1 (t + 11) 1 = 0 then 0 else 1)) = (if m.1 (x + 19) 0 = 0 then 0 else 1) + (if m.1 (x + 19) 1 = 0 then 0 else 1))
      | 2, _ => exact l2.trans l1.symm
      | 3, _ =>
        refine z1.trans ?_
        show m.1 (x + 86) 2 = if m.1 (x + 86) 2 < 0 then -4 else m.1 (x + 86) 2
        rcases z2 with e | ⟨s, hs, e⟩
        · have e' : m.1 (x + 86) 2 = -4 := e
          rw [e', if_pos (by decide)]
        · have e' : m.1 (x + 86) 2 = nI s := e
          rw [e', if_neg (nI_pos (by omega))]
      | 4, _ => exact sumP_veq h.v h.oc (by decide)
      | 5, _ => exact (by rw [h.v.r, sumW_veq h.v h.ob.n.2 _ (Nat.le_refl _)] : sumW (pgR m t 0) (rws (pgR m t 0)) = sumW (pgC m (x + 1)) (rws (pgC m (x + 1))))
      | q + 6, hq8 => exact absurd hq8 (by omega)
  rw [e] at hm
  exact pair_eq h (cX_count E σ m hi x k hN h.ok) hm
theorem REL.s1 {m m1 : gMem} {x t : Nat} (h : REL m x t) (ht : x + 94 ≤ t) (hs : scr x m m1) : ∃ s, okS m x s ∧ okSR m1 t s ∧ sEq m x (mkR m1 t) 0 s := by
  obtain ⟨s, s6, s1, s2, s3⟩ := h.2.2.2.1
  have e9 : m1.1 (t + 9) = m.1 (t + 9) := hs _ (by omega)
  have e0 : m1.1 t = m.1 t := hs _ (by omega)
  refine ⟨s, ⟨s1, s6, fun i hi => (s3 i hi).2.1⟩, ⟨by rw [e0]; exact s2, s6, fun i hi => ?_⟩, ?_⟩
  · obtain ⟨⟨a1, a2, a3⟩, ⟨hh, b1, b2⟩, j, b3, b4⟩ := s3 i hi
    rw [e9, a1, a2]
    exact ⟨⟨hh, b1, b2⟩, j, b3, b4⟩
  · refine ⟨by rw [mkR_pg, hs.pR ht]; exact h.v, h.oc, h.ob, fun i hi => ?_⟩
    rw [mkR_24, mkR_25, mkR_26, e9]
    exact (s3 i hi).1
theorem pr_kinds (E : gEv) (σ : gSg) (m : gMem) (hi x t : Nat) (v : Int32) (hN : gN σ x) (hR : gR σ t) (h : REL m x t) (ht : x + 94 ≤ t) : gPair E σ m hi x t yX6_kinds cX6_kinds 5 (some .int) 5 yX7_kinds cX7_kinds 2 (some .int) 6 [.int v] := by
  obtain ⟨s, hS, -⟩ := h.s1 ht (scr.rf x m)
  refine pair_ro (z := xNerves m x s v 0 4) h ht (cX_kinds E σ m hi x s v hN h.ok hS) (fun m1 hs => ?_)
  obtain ⟨s', hS', hS2, hq⟩ := h.s1 ht hs
  have es : s' = s := nI_inj (by have := hS'.2.1; omega) (by have := hS.2.1; omega) (hS'.1.symm.trans hS.1)
  subst es
  have hm := cM_kinds E σ m1 hi t s' v hR (h.om1 ht hs) hS2
  rw [xNerves_s hq v 0 4 (by decide)] at hm
  exact hm
theorem pr_nerves (E : gEv) (σ : gSg) (m : gMem) (hi x t : Nat) (v : Int32) (hN : gN σ x) (hR : gR σ t) (h : REL m x t) (ht : x + 94 ≤ t) : gPair E σ m hi x t yX6_nerves cX6_nerves 4 (some .int) 6 yX7_nerves cX7_nerves 2 (some .int) 6 [.int v] := by
  obtain ⟨s, hS, -⟩ := h.s1 ht (scr.rf x m)
  refine pair_ro (z := xNerves m x s v 2 10) h ht (cX_nerves E σ m hi x s v hN h.ok hS) (fun m1 hs => ?_)
  obtain ⟨s', hS', hS2, hq⟩ := h.s1 ht hs
  have es : s' = s := nI_inj (by have := hS'.2.1; omega) (by have := hS.2.1; omega) (hS'.1.symm.trans hS.1)
  subst es
  have hm := cM_nerves E σ m1 hi t s' v hR (h.om1 ht hs) hS2
  rw [xNerves_s hq v 2 10 (by decide)] at hm
  exact hm
theorem pr_ask (E : gEv) (σ : gSg) (m : gMem) (hi x t : Nat) (v k : Int32) (hN : gN σ x) (hR : gR σ t) (h : REL m x t) (ht : x + 94 ≤ t) : gPair E σ m hi x t yX6_ask cX6_ask 8 (some .int) 6 yX7_ask cX7_ask 10 (some .int) 6 [.int v, .int k] := by
  obtain ⟨s, hS, -⟩ := h.s1 ht (scr.rf x m)
  refine pair_ro (z := xAsk m x s v k) h ht (cX_ask E σ m hi x s v k hN h.ok hS) (fun m1 hs => ?_)
  obtain ⟨s', hS', hS2, hq⟩ := h.s1 ht hs
  have es : s' = s := nI_inj (by have := hS'.2.1; omega) (by have := hS.2.1; omega) (hS'.1.symm.trans hS.1)
  subst es
  have hm := cM_ask E σ m1 hi t s' v k hR (h.om1 ht hs) hS2
  rw [xAsk_s hq v k] at hm
  exact hm
