/-! the reference: sums, bits, copies, puts -/
theorem r0_i (m : gMem) (t : Nat) {k : Nat} (hk : k < 53) : m.1 (t + 1) k + aj k = pgR m t 0 k := by rw [pgR_lt hk, Nat.zero_add]
theorem r0_j (m : gMem) (t : Nat) {k : Nat} (hk : k < 50 ∨ k = 52) : m.1 (t + 1) k = pgR m t 0 k := by rw [← r0_i m t (by omega), aj0 (by omega) (by omega), i_a0]
theorem gW_r0 {m : gMem} {t k : Nat} (hk : k < 53) (v : Int32) : gW m (t + 1) k v = gQ m t 0 (upd (pgR m t 0) k (v + aj k)) := by
  have := gW_rg (m := m) (t := t) (p := 0) hk v
  rw [Nat.zero_add] at this
  exact this
theorem gW_q0 {m : gMem} {t k : Nat} (hk : k < 50 ∨ k = 52) (g : Nat → Int32) (v : Int32) : gW (gQ m t 0 g) (t + 1) k v = gQ m t 0 (upd g k v) := by
  have := gW_gQi (m := m) (t := t) (p := 0) hk g v
  rw [Nat.zero_add] at this
  exact this
theorem q0_i {m : gMem} {t k : Nat} (hk : k < 50 ∨ k = 52) (g : Nat → Int32) : (gQ m t 0 g).1 (t + 1) k = g k := by
  have := gQ_i (m := m) (t := t) (p := 0) hk g
  rw [Nat.zero_add] at this
  exact this
theorem cM_sumOn (E : gEv) (σ : gSg) (m : gMem) (hi t p k : Nat) (hk : k < 6) (hR : gR σ t) (hp : p ≤ 265) (hok : okC (pgR m t p)) : gCo E yX7_sumOn cX7_sumOn 5 (some .int) 0 [.ref t, .int (nI p), .int (nI (4 * k))] σ m hi (gX (some (.int (sumP (pgR m t p) k))) m) := by
  refine gCo.of mwX7_sumOn (Nat.le_of_ble_eq_true rfl) ?_
  intro F hF
  have h0 := hR.1
  have h1 := hR.2.1
  obtain ⟨c, hc, hc4⟩ := hok
  have hcn : cnt (pgR m t p) = c := by unfold cnt; rw [hc]; exact nI_clamp (by omega)
  have i24 : gIdx (nI p + 24) 318 (p + 24) := gIdx.l 24 (by decide) hp
  have e24 := rg_i m t p (i := 24) (by omega)
  have K5 : ∀ n j : Nat, j + n = c → (gJ E yX7_sumOn cX7_sumOn 5 (some .int) (gRm 0 0 0) F 5 ([some (.ref t), some (.int (nI p)), some (.int (nI (4 * k))), some (.int (sumJ (pgR m t p) k j)), some (.int (nI j))]) ([]) 0 0 σ (m) hi) := by
    intro n
    induction n with
    | zero =>
      intro j hj
      have hjc : j = c := by omega
      subst hjc
      refine j_iload (q := 7) dX7_sumOn_5 rfl (by rfl) ?_
      refine j_aload_n (q := 8) dX7_sumOn_7 rfl (by rfl) ?_
      refine j_getr (q := 11) dX7_sumOn_8 rfl fX7_7 (by first | with_reducible assumption | assumption) (by rfl) ?_
      refine j_iload_n (q := 12) dX7_sumOn_11 rfl (by rfl) ?_
      refine j_bipush (q := 14) (v := 24) dX7_sumOn_12 rfl (by decide) ?_
      refine j_iadd (q := 15) dX7_sumOn_14 rfl ?_
      refine j_iaload (q := 16) dX7_sumOn_15 rfl (by first | with_reducible assumption | assumption) (by first | with_reducible assumption | assumption) ?_
      rw [e24, hc]
      refine j_icmp_ge (q := 19) (tgt := 39) dX7_sumOn_16 rfl (by decide) (fun h16 => ?_) (fun h16 => ?_)
      · refine j_iload_n (q := 40) dX7_sumOn_39 rfl (by rfl) ?_
        refine o_iret hF rfl dX7_sumOn_40 ?_
        exact ⟨by rw [sumP, hcn], rfl⟩
      · exact absurd (Int32.le_refl _) h16
    | succ n ih =>
      intro j hj
      have ix : gIdx (nI p + nI (4 * k) + nI j) 318 (p + (4 * k + j)) := gIdx.j (4 * k) j (by omega) hp
      refine j_iload (q := 7) dX7_sumOn_5 rfl (by rfl) ?_
      refine j_aload_n (q := 8) dX7_sumOn_7 rfl (by rfl) ?_
      refine j_getr (q := 11) dX7_sumOn_8 rfl fX7_7 (by first | with_reducible assumption | assumption) (by rfl) ?_
      refine j_iload_n (q := 12) dX7_sumOn_11 rfl (by rfl) ?_
      refine j_bipush (q := 14) (v := 24) dX7_sumOn_12 rfl (by decide) ?_
      refine j_iadd (q := 15) dX7_sumOn_14 rfl ?_
      refine j_iaload (q := 16) dX7_sumOn_15 rfl (by first | with_reducible assumption | assumption) (by first | with_reducible assumption | assumption) ?_
      rw [e24, hc]
      refine j_icmp_ge (q := 19) (tgt := 39) dX7_sumOn_16 rfl (by decide) (fun h16 => ?_) (fun h16 => ?_)
      · exact absurd h16 (nI_ge (by omega) (by omega))
      · refine j_iload_n (q := 20) dX7_sumOn_19 rfl (by rfl) ?_
        refine j_aload_n (q := 21) dX7_sumOn_20 rfl (by rfl) ?_
        refine j_getr (q := 24) dX7_sumOn_21 rfl fX7_7 (by first | with_reducible assumption | assumption) (by rfl) ?_
        refine j_iload_n (q := 25) dX7_sumOn_24 rfl (by rfl) ?_
        refine j_iload_n (q := 26) dX7_sumOn_25 rfl (by rfl) ?_
        refine j_iadd (q := 27) dX7_sumOn_26 rfl ?_
        refine j_iload (q := 29) dX7_sumOn_27 rfl (by rfl) ?_
        refine j_iadd (q := 30) dX7_sumOn_29 rfl ?_
        refine j_iaload (q := 31) dX7_sumOn_30 rfl (by first | with_reducible assumption | assumption) (by first | with_reducible assumption | assumption) ?_
        rw [rg_i m t p (by omega)]
        refine j_iadd (q := 32) dX7_sumOn_31 rfl ?_
        refine j_istore_n (q := 33) dX7_sumOn_32 rfl (by decide) ?_
        refine j_iinc (q := 36) dX7_sumOn_33 rfl (by rfl) (by first | exact nI_inc _ | rfl) (by decide) ?_
        refine j_goto (tgt := 5) dX7_sumOn_36 (by decide) ?_
        exact ih (j + 1) (by omega)
  refine j_iconst (q := 1) (v := 0) dX7_sumOn_0 rfl (by decide) ?_
  refine j_istore_n (q := 2) dX7_sumOn_1 rfl (by decide) ?_
  refine j_iconst (q := 3) (v := 0) dX7_sumOn_2 rfl (by decide) ?_
  refine j_istore (q := 5) dX7_sumOn_3 rfl (by decide) ?_
  exact K5 c 0 (by omega)
def pop : Nat → Nat → Nat
  | 0, _ => 0
  | f + 1, k => k % 2 + pop f (k / 2)
theorem pop_0 : ∀ f, pop f 0 = 0
  | 0 => rfl
  | f + 1 => by rw [pop, pop_0 f]
set_option maxRecDepth 20000 in
theorem b_and : ∀ k, k < 1024 → nI k &&& 1 = nI (k % 2) := by decide +kernel
set_option maxRecDepth 20000 in
theorem b_shr : ∀ k, k < 1024 → nI k >>> ((1 : Int32) &&& 31) = nI (k / 2) := by decide +kernel
theorem cM_bitsOf (E : gEv) (σ : gSg) (m : gMem) (hi k : Nat) (hk : k < 1024) : gCo E yX7_bitsOf cX7_bitsOf 3 (some .int) 0 [.int (nI k)] σ m hi (gX (some (.int (nI (pop 10 k)))) m) := by
  refine gCo.of mwX7_bitsOf (Nat.le_of_ble_eq_true rfl) ?_
  intro F hF
  have K4 : ∀ (f q acc : Nat), q < 2 ^ f → q < 1024 → pop 10 k = acc + pop f q → (gJ E yX7_bitsOf cX7_bitsOf 3 (some .int) (gRm 0 0 0) F 4 ([some (.int (nI k)), some (.int (nI acc)), some (.int (nI q))]) ([]) 0 0 σ (m) hi) := by
    intro f
    induction f with
    | zero =>
      intro q acc hq hq2 he
      have : q = 0 := by omega
      subst this
      refine j_iload_n (q := 5) dX7_bitsOf_4 rfl (by rfl) ?_
      refine j_if_le (q := 8) (tgt := 21) dX7_bitsOf_5 rfl (by decide) (fun h5 => ?_) (fun h5 => ?_)
      · refine j_iload_n (q := 22) dX7_bitsOf_21 rfl (by rfl) ?_
        refine o_iret hF rfl dX7_bitsOf_22 ?_
        exact ⟨by rw [he, pop, Nat.add_zero], rfl⟩
      · exact absurd (Int32.le_refl 0) h5
    | succ f ih =>
      intro q acc hq hq2 he
      by_cases h0 : q = 0
      · subst h0
        refine j_iload_n (q := 5) dX7_bitsOf_4 rfl (by rfl) ?_
        refine j_if_le (q := 8) (tgt := 21) dX7_bitsOf_5 rfl (by decide) (fun h5 => ?_) (fun h5 => ?_)
        · refine j_iload_n (q := 22) dX7_bitsOf_21 rfl (by rfl) ?_
          refine o_iret hF rfl dX7_bitsOf_22 ?_
          exact ⟨by rw [he, pop_0, Nat.add_zero], rfl⟩
        · exact absurd (Int32.le_refl 0) h5
      · have hp : 2 ^ (f + 1) = 2 * 2 ^ f := by rw [Nat.pow_succ]; omega
        refine j_iload_n (q := 5) dX7_bitsOf_4 rfl (by rfl) ?_
        refine j_if_le (q := 8) (tgt := 21) dX7_bitsOf_5 rfl (by decide) (fun h5 => ?_) (fun h5 => ?_)
        · exact absurd h5 (nI_nle (by omega) (by omega))
        · refine j_iload_n (q := 9) dX7_bitsOf_8 rfl (by rfl) ?_
          refine j_iload_n (q := 10) dX7_bitsOf_9 rfl (by rfl) ?_
          refine j_iconst (q := 11) (v := 1) dX7_bitsOf_10 rfl (by decide) ?_
          refine j_iand (q := 12) dX7_bitsOf_11 rfl ?_
          rw [b_and q hq2]
          refine j_iadd (q := 13) dX7_bitsOf_12 rfl ?_
          refine j_istore_n (q := 14) dX7_bitsOf_13 rfl (by decide) ?_
          refine j_iload_n (q := 15) dX7_bitsOf_14 rfl (by rfl) ?_
          refine j_iconst (q := 16) (v := 1) dX7_bitsOf_15 rfl (by decide) ?_
          refine j_ishr (q := 17) dX7_bitsOf_16 rfl ?_
          rw [b_shr q hq2, nI_add]
          refine j_istore_n (q := 18) dX7_bitsOf_17 rfl (by decide) ?_
          refine j_goto (tgt := 4) dX7_bitsOf_18 (by decide) ?_
          refine ih (q / 2) (acc + q % 2) (by omega) (by omega) ?_
          rw [he, pop]
          omega
  refine j_iconst (q := 1) (v := 0) dX7_bitsOf_0 rfl (by decide) ?_
  refine j_istore_n (q := 2) dX7_bitsOf_1 rfl (by decide) ?_
  refine j_iload_n (q := 3) dX7_bitsOf_2 rfl (by rfl) ?_
  refine j_istore_n (q := 4) dX7_bitsOf_3 rfl (by decide) ?_
  exact K4 10 k 0 (by omega) hk (by omega)
theorem pop_bc : ∀ k, k < 16 → nI (pop 10 k) = sBc (nI k) := by decide +kernel
theorem cM_bits (E : gEv) (σ : gSg) (m : gMem) (hi : Nat) {u : Int32} (hu : ∃ k, k < 16 ∧ u = nI k) : gCo E yX7_bitsOf cX7_bitsOf 3 (some .int) 0 [.int u] σ m hi (gX (some (.int (sBc u))) m) := by
  obtain ⟨k, hk, rfl⟩ := hu
  have h := cM_bitsOf E σ m hi k (by omega)
  rw [pop_bc k hk] at h
  exact h
theorem plU_n {g : Nat → Int32} (hc : okC g) : ∃ k, k < 16 ∧ plU g = nI k := hrU_n hc _ _
def cpM (m : gMem) (t a b k : Nat) : gMem := (fun q r => if q = t + 1 ∧ b ≤ r ∧ r < b + k then m.1 (t + 1) (a + (r - b)) else m.1 q r, m.2)
theorem cM_copies (E : gEv) (σ : gSg) (m : gMem) (hi t a b : Nat) (hR : gR σ t) (ha : a ≤ 265) (hb : b ≤ 265) (hab : a + 53 ≤ b ∨ b + 53 ≤ a) : gCo E yX7_copies cX7_copies 4 (none) 0 [.ref t, .int (nI a), .int (nI b)] σ m hi (gX none (gQ m t b (pgR m t a))) := by
  refine gCo.of mwX7_copies (Nat.le_of_ble_eq_true rfl) ?_
  intro F hF
  have h0 := hR.1
  have h1 := hR.2.1
  have K2 : ∀ n j : Nat, j + n = 53 → (gJ E yX7_copies cX7_copies 4 (none) (gRm 0 0 0) F 2 ([some (.ref t), some (.int (nI a)), some (.int (nI b)), some (.int (nI j))]) ([]) 0 0 σ (cpM m t a b j) hi) := by
    intro n
    induction n with
    | zero =>
      intro j hj
      have : j = 53 := by omega
      subst this
      refine j_iload_n (q := 3) dX7_copies_2 rfl (by rfl) ?_
      refine j_bipush (q := 5) (v := 53) dX7_copies_3 rfl (by decide) ?_
      refine j_icmp_ge (q := 8) (tgt := 30) dX7_copies_5 rfl (by decide) (fun h5 => ?_) (fun h5 => ?_)
      · refine o_vret hF rfl dX7_copies_30 ?_
        refine ⟨rfl, ?_⟩
        apply gMem_ext
        · intro q r
          by_cases h : q = t + 1 ∧ b ≤ r ∧ r < b + 53
          · obtain ⟨rfl, h2, h3⟩ := h
            obtain ⟨i, rfl⟩ : ∃ i, r = b + i := ⟨r - b, by omega⟩
            rw [gQ_in (by omega), pgR_lt (by omega), Int32.add_sub_cancel]
            show (if t + 1 = t + 1 ∧ b ≤ b + i ∧ b + i < b + 53 then m.1 (t + 1) (a + (b + i - b)) else m.1 (t + 1) (b + i)) = _
            rw [if_pos (by omega), show b + i - b = i by omega]
          · rw [gQ_out (by omega)]
            exact if_neg h
        · rfl
      · exact absurd (show (53 : Int32) ≤ nI 53 by decide) h5
    | succ n ih =>
      intro j hj
      have ia : gIdx (nI a + nI j) 318 (a + j) := gIdx.l j (by omega) ha
      have ib : gIdx (nI b + nI j) 318 (b + j) := gIdx.l j (by omega) hb
      refine j_iload_n (q := 3) dX7_copies_2 rfl (by rfl) ?_
      refine j_bipush (q := 5) (v := 53) dX7_copies_3 rfl (by decide) ?_
      refine j_icmp_ge (q := 8) (tgt := 30) dX7_copies_5 rfl (by decide) (fun h5 => ?_) (fun h5 => ?_)
      · exact absurd h5 (nI_ge (a := j) (b := 53) (by omega) (by omega))
      · refine j_aload_n (q := 9) dX7_copies_8 rfl (by rfl) ?_
        refine j_getr (q := 12) dX7_copies_9 rfl fX7_7 (by first | with_reducible assumption | assumption) (by rfl) ?_
        refine j_iload_n (q := 13) dX7_copies_12 rfl (by rfl) ?_
        refine j_iload_n (q := 14) dX7_copies_13 rfl (by rfl) ?_
        refine j_iadd (q := 15) dX7_copies_14 rfl ?_
        refine j_aload_n (q := 16) dX7_copies_15 rfl (by rfl) ?_
        refine j_getr (q := 19) dX7_copies_16 rfl fX7_7 (by first | with_reducible assumption | assumption) (by rfl) ?_
        refine j_iload_n (q := 20) dX7_copies_19 rfl (by rfl) ?_
        refine j_iload_n (q := 21) dX7_copies_20 rfl (by rfl) ?_
        refine j_iadd (q := 22) dX7_copies_21 rfl ?_
        refine j_iaload (q := 23) dX7_copies_22 rfl (by first | with_reducible assumption | assumption) (by first | with_reducible assumption | assumption) ?_
        refine j_iastore (q := 24) dX7_copies_23 rfl (by first | with_reducible assumption | assumption) (by first | with_reducible assumption | assumption) ?_
        refine j_iinc (q := 27) dX7_copies_24 rfl (by rfl) (by first | exact nI_inc _ | rfl) (by decide) ?_
        refine j_goto (tgt := 2) dX7_copies_27 (by decide) ?_
        refine gJ.mm ?_ (ih (j + 1) (by omega))
        apply gMem_ext
        · intro q r
          rw [gW_1]
          show (if q = t + 1 ∧ r = b + j then (if t + 1 = t + 1 ∧ b ≤ a + j ∧ a + j < b + j then m.1 (t + 1) (a + (a + j - b)) else m.1 (t + 1) (a + j)) else if q = t + 1 ∧ b ≤ r ∧ r < b + j then m.1 (t + 1) (a + (r - b)) else m.1 q r) = if q = t + 1 ∧ b ≤ r ∧ r < b + (j + 1) then m.1 (t + 1) (a + (r - b)) else m.1 q r
          by_cases h : q = t + 1 ∧ r = b + j
          · obtain ⟨rfl, rfl⟩ := h
            rw [if_pos ⟨rfl, rfl⟩, if_neg (by omega), if_pos (by omega), show b + j - b = j by omega]
          · rw [if_neg h]
            by_cases h2 : q = t + 1 ∧ b ≤ r ∧ r < b + j
            · rw [if_pos h2, if_pos (by omega)]
            · rw [if_neg h2, if_neg (by omega)]
        · rfl
  refine j_iconst (q := 1) (v := 0) dX7_copies_0 rfl (by decide) ?_
  refine j_istore_n (q := 2) dX7_copies_1 rfl (by decide) ?_
  refine gJ.mm ?_ (K2 53 0 (by omega))
  apply gMem_ext
  · intro q r
    exact (if_neg (by omega)).symm
  · rfl
theorem gQ_t (m : gMem) (t p k : Nat) (g : Nat → Int32) (v : Int32) : gW (gQ m t p g) t k v = gQ (gW m t k v) t p g := by
  apply gMem_ext
  · intro q r
    rw [gW_1]
    by_cases h : q = t + 1 ∧ p ≤ r ∧ r < p + 53
    · rw [if_neg (by omega)]
      obtain ⟨rfl, h1, h2⟩ := h
      obtain ⟨i, rfl⟩ : ∃ i, r = p + i := ⟨r - p, by omega⟩
      rw [gQ_in (by omega), gQ_in (by omega)]
    · rw [gQ_out (by omega), gQ_out (by omega), gW_1]
  · rfl
theorem pgR_t (m : gMem) (t p k : Nat) (v : Int32) : pgR (gW m t k v) t p = pgR m t p := by
  funext i
  by_cases h : i < 53
  · rw [pgR_lt h, pgR_lt h, gW_n (by omega)]
  · rw [pgR_0 _ _ _ i (by omega), pgR_0 _ _ _ i (by omega)]
def feJ (g : Nat → Int32) (h0 : Int32) : Nat → Int32
  | 0 => h0
  | j + 1 => sMax (feJ g h0 j) (g (12 + j))
theorem cM_feels (E : gEv) (σ : gSg) (m : gMem) (hi t p : Nat) (hR : gR σ t) (hp : p ≤ 265) (hok : okC (pgR m t p)) : gCo E yX7_feels cX7_feels 3 (none) 0 [.ref t, .int (nI p)] σ m hi (gX none (gW m t 17 (feJ (pgR m t p) (m.1 t 17) (cnt (pgR m t p))))) := by
  refine gCo.of mwX7_feels (Nat.le_of_ble_eq_true rfl) ?_
  intro F hF
  have h0 := hR.1
  have h1 := hR.2.1
  obtain ⟨c, hc, hc4⟩ := hok
  have hcn : cnt (pgR m t p) = c := by unfold cnt; rw [hc]; exact nI_clamp (by omega)
  have i24 : gIdx (nI p + 24) 318 (p + 24) := gIdx.l 24 (by decide) hp
  have e24 := rg_i m t p (i := 24) (by omega)
  have K2 : ∀ n j : Nat, j + n = c → (gJ E yX7_feels cX7_feels 3 (none) (gRm 0 0 0) F 2 ([some (.ref t), some (.int (nI p)), some (.int (nI j))]) ([]) 0 0 σ (gW m t 17 (feJ (pgR m t p) (m.1 t 17) j)) hi) := by
    intro n
    induction n with
    | zero =>
      intro j hj
      have hjc : j = c := by omega
      subst hjc
      refine j_iload_n (q := 3) dX7_feels_2 rfl (by rfl) ?_
      refine j_aload_n (q := 4) dX7_feels_3 rfl (by rfl) ?_
      refine j_getr (q := 7) dX7_feels_4 rfl fX7_7 (by first | with_reducible assumption | assumption) (by rfl) ?_
      refine j_iload_n (q := 8) dX7_feels_7 rfl (by rfl) ?_
      refine j_bipush (q := 10) (v := 24) dX7_feels_8 rfl (by decide) ?_
      refine j_iadd (q := 11) dX7_feels_10 rfl ?_
      refine j_iaload (q := 12) dX7_feels_11 rfl (by first | with_reducible assumption | assumption) (by first | with_reducible assumption | assumption) ?_
      rw [gW_n (by omega), e24, hc]
      refine j_icmp_ge (q := 15) (tgt := 61) dX7_feels_12 rfl (by decide) (fun h12 => ?_) (fun h12 => ?_)
      · refine o_vret hF rfl dX7_feels_61 ?_
        exact ⟨rfl, by rw [hcn]⟩
      · exact absurd (Int32.le_refl _) h12
    | succ n ih =>
      intro j hj
      have ix : gIdx (nI p + 12 + nI j) 318 (p + (12 + j)) := gIdx.j 12 j (by omega) hp
      have e12 := rg_i m t p (i := 12 + j) (by omega)
      refine j_iload_n (q := 3) dX7_feels_2 rfl (by rfl) ?_
      refine j_aload_n (q := 4) dX7_feels_3 rfl (by rfl) ?_
      refine j_getr (q := 7) dX7_feels_4 rfl fX7_7 (by first | with_reducible assumption | assumption) (by rfl) ?_
      refine j_iload_n (q := 8) dX7_feels_7 rfl (by rfl) ?_
      refine j_bipush (q := 10) (v := 24) dX7_feels_8 rfl (by decide) ?_
      refine j_iadd (q := 11) dX7_feels_10 rfl ?_
      refine j_iaload (q := 12) dX7_feels_11 rfl (by first | with_reducible assumption | assumption) (by first | with_reducible assumption | assumption) ?_
      rw [gW_n (by omega), e24, hc]
      refine j_icmp_ge (q := 15) (tgt := 61) dX7_feels_12 rfl (by decide) (fun h12 => ?_) (fun h12 => ?_)
      · exact absurd h12 (nI_ge (by omega) (by omega))
      refine j_aload_n (q := 16) dX7_feels_15 rfl (by rfl) ?_
      refine j_aload_n (q := 17) dX7_feels_16 rfl (by rfl) ?_
      refine j_getr (q := 20) dX7_feels_17 rfl fX7_7 (by first | with_reducible assumption | assumption) (by rfl) ?_
      refine j_iload_n (q := 21) dX7_feels_20 rfl (by rfl) ?_
      refine j_bipush (q := 23) (v := 12) dX7_feels_21 rfl (by decide) ?_
      refine j_iadd (q := 24) dX7_feels_23 rfl ?_
      refine j_iload_n (q := 25) dX7_feels_24 rfl (by rfl) ?_
      refine j_iadd (q := 26) dX7_feels_25 rfl ?_
      refine j_iaload (q := 27) dX7_feels_26 rfl (by first | with_reducible assumption | assumption) (by first | with_reducible assumption | assumption) ?_
      refine j_aload_n (q := 28) dX7_feels_27 rfl (by rfl) ?_
      refine j_geti (q := 31) dX7_feels_28 rfl fX7_202 (by first | with_reducible assumption | assumption) (by rfl) ?_
      rw [gW_n (show ¬ (t + 1 = t ∧ p + (12 + j) = 17) by omega), e12, gW_s]
      have := ih (j + 1) (by omega)
      rw [feJ] at this
      refine j_icmp_le (q := 34) (tgt := 48) dX7_feels_31 rfl (by decide) (fun h31 => ?_) (fun h31 => ?_)
      · refine j_aload_n (q := 49) dX7_feels_48 rfl (by rfl) ?_
        refine j_geti (q := 52) dX7_feels_49 rfl fX7_202 (by first | with_reducible assumption | assumption) (by rfl) ?_
        rw [gW_s]
        refine j_puti (q := 55) dX7_feels_52 rfl fX7_202 p7_17 (by first | with_reducible assumption | assumption) (by rfl) ?_
        refine j_iinc (q := 58) dX7_feels_55 rfl (by rfl) (by first | exact nI_inc _ | rfl) (by decide) ?_
        refine j_goto (tgt := 2) dX7_feels_58 (by decide) ?_
        refine gJ.mm ?_ this
        rw [gW_W, sMax, if_neg (Int32.not_lt.mpr h31)]
      · refine j_aload_n (q := 35) dX7_feels_34 rfl (by rfl) ?_
        refine j_getr (q := 38) dX7_feels_35 rfl fX7_7 (by first | with_reducible assumption | assumption) (by rfl) ?_
        refine j_iload_n (q := 39) dX7_feels_38 rfl (by rfl) ?_
        refine j_bipush (q := 41) (v := 12) dX7_feels_39 rfl (by decide) ?_
        refine j_iadd (q := 42) dX7_feels_41 rfl ?_
        refine j_iload_n (q := 43) dX7_feels_42 rfl (by rfl) ?_
        refine j_iadd (q := 44) dX7_feels_43 rfl ?_
        refine j_iaload (q := 45) dX7_feels_44 rfl (by first | with_reducible assumption | assumption) (by first | with_reducible assumption | assumption) ?_
        rw [gW_n (show ¬ (t + 1 = t ∧ p + (12 + j) = 17) by omega), e12]
        refine j_goto (tgt := 52) dX7_feels_45 (by decide) ?_
        refine j_puti (q := 55) dX7_feels_52 rfl fX7_202 p7_17 (by first | with_reducible assumption | assumption) (by rfl) ?_
        refine j_iinc (q := 58) dX7_feels_55 rfl (by rfl) (by first | exact nI_inc _ | rfl) (by decide) ?_
        refine j_goto (tgt := 2) dX7_feels_58 (by decide) ?_
        refine gJ.mm ?_ this
        rw [gW_W, sMax, if_pos (Int32.not_le.mp h31)]
  refine j_iconst (q := 1) (v := 0) dX7_feels_0 rfl (by decide) ?_
  refine j_istore_n (q := 2) dX7_feels_1 rfl (by decide) ?_
  refine gJ.mm ?_ (K2 c 0 (by omega))
  exact (gW_selfs rfl).symm
theorem cM_whomBy (E : gEv) (σ : gSg) (m : gMem) (hi t : Nat) (k : Int32) (hR : gR σ t) : gCo E yX7_whomBy cX7_whomBy 2 (some .int) 0 [.ref t, .int k] σ m hi (gX (some (.int (sCho (pgR m t 0) k))) m) := by
  refine gCo.of mwX7_whomBy (Nat.le_of_ble_eq_true rfl) ?_
  intro F hF
  have h0 := hR.1
  have h1 := hR.2.1
  have ix : gIdx 24 318 24 := gIdx.of rfl (by decide) (by decide)
  have e24 := r0_j m t (k := 24) (by omega)
  refine j_iload_n (q := 1) dX7_whomBy_0 rfl (by rfl) ?_
  refine j_aload_n (q := 2) dX7_whomBy_1 rfl (by rfl) ?_
  refine j_getr (q := 5) dX7_whomBy_2 rfl fX7_7 (by first | with_reducible assumption | assumption) (by rfl) ?_
  refine j_bipush (q := 7) (v := 24) dX7_whomBy_5 rfl (by decide) ?_
  refine j_iaload (q := 8) dX7_whomBy_7 rfl (by first | with_reducible assumption | assumption) (by first | with_reducible assumption | assumption) ?_
  rw [e24]
  refine j_icmp_ge (q := 11) (tgt := 15) dX7_whomBy_8 rfl (by decide) (fun h8 => ?_) (fun h8 => ?_)
  · refine j_iconst (q := 16) (v := 4) dX7_whomBy_15 rfl (by decide) ?_
    refine o_iret hF rfl dX7_whomBy_16 ?_
    exact ⟨by unfold sCho; simp [*], rfl⟩
  · refine j_iload_n (q := 12) dX7_whomBy_11 rfl (by rfl) ?_
    refine j_goto (tgt := 16) dX7_whomBy_12 (by decide) ?_
    refine o_iret hF rfl dX7_whomBy_16 ?_
    exact ⟨by unfold sCho; simp [*], rfl⟩
theorem cM_wentThen (E : gEv) (σ : gSg) (m : gMem) (hi t j : Nat) (hR : gR σ t) (hj : j < 4) : gCo E yX7_wentThen cX7_wentThen 2 (some .int) 0 [.ref t, .int (nI j)] σ m hi (gX (some (.int (pgR m t 212 (20 + j) - pgR m t 0 (20 + j)))) m) := by
  refine gCo.of mwX7_wentThen (Nat.le_of_ble_eq_true rfl) ?_
  intro F hF
  have h0 := hR.1
  have h1 := hR.2.1
  have ix : gIdx (232 + nI j) 318 (212 + (20 + j)) := gIdx.of (by rw [show (232 : Int32) = nI 232 from rfl, nI_add]; congr 1; omega) (by omega) (by decide)
  have iy : gIdx (20 + nI j) 318 (20 + j) := gIdx.of (by rw [show (20 : Int32) = nI 20 from rfl, nI_add]) (by omega) (by decide)
  refine j_aload_n (q := 1) dX7_wentThen_0 rfl (by rfl) ?_
  refine j_getr (q := 4) dX7_wentThen_1 rfl fX7_7 (by first | with_reducible assumption | assumption) (by rfl) ?_
  refine j_sipush (q := 7) (v := 232) dX7_wentThen_4 rfl (by decide) ?_
  refine j_iload_n (q := 8) dX7_wentThen_7 rfl (by rfl) ?_
  refine j_iadd (q := 9) dX7_wentThen_8 rfl ?_
  refine j_iaload (q := 10) dX7_wentThen_9 rfl (by first | with_reducible assumption | assumption) (by first | with_reducible assumption | assumption) ?_
  refine j_aload_n (q := 11) dX7_wentThen_10 rfl (by rfl) ?_
  refine j_getr (q := 14) dX7_wentThen_11 rfl fX7_7 (by first | with_reducible assumption | assumption) (by rfl) ?_
  refine j_bipush (q := 16) (v := 20) dX7_wentThen_14 rfl (by decide) ?_
  refine j_iload_n (q := 17) dX7_wentThen_16 rfl (by rfl) ?_
  refine j_iadd (q := 18) dX7_wentThen_17 rfl ?_
  refine j_iaload (q := 19) dX7_wentThen_18 rfl (by first | with_reducible assumption | assumption) (by first | with_reducible assumption | assumption) ?_
  rw [rg_i m t 212 (by omega), r0_j m t (by omega)]
  refine j_isub (q := 20) dX7_wentThen_19 rfl ?_
  refine o_iret hF rfl dX7_wentThen_20 ?_
  exact ⟨rfl, rfl⟩
theorem cM_puts (E : gEv) (σ : gSg) (m : gMem) (hi t k : Nat) (gd a v ls : Int32) (hR : gR σ t) (hg : ¬ gd = 0 → a = nI k ∧ k < 53 ∧ ls = aj k) : gCo E yX7_puts cX7_puts 6 (some .int) 0 [.ref t, .int gd, .int a, .int v, .int ls] σ m hi (gX (some (.int (if gd = 0 then -1 else pgR m t 0 k))) (if gd = 0 then m else gQ m t 0 (upd (pgR m t 0) k v))) := by
  refine gCo.of mwX7_puts (Nat.le_of_ble_eq_true rfl) ?_
  intro F hF
  have h0 := hR.1
  have h1 := hR.2.1
  refine j_iload_n (q := 1) dX7_puts_0 rfl (by rfl) ?_
  refine j_if_ne (q := 4) (tgt := 6) dX7_puts_1 rfl (by decide) (fun h1' => ?_) (fun h1' => ?_)
  · obtain ⟨rfl, hk, rfl⟩ := hg h1'
    have ix : gIdx (nI k) 318 k := gIdx.of rfl (by omega) (by decide)
    rw [if_neg h1', if_neg h1'] at hF
    refine j_aload_n (q := 7) dX7_puts_6 rfl (by rfl) ?_
    refine j_getr (q := 10) dX7_puts_7 rfl fX7_7 (by first | with_reducible assumption | assumption) (by rfl) ?_
    refine j_iload_n (q := 11) dX7_puts_10 rfl (by rfl) ?_
    refine j_iaload (q := 12) dX7_puts_11 rfl (by first | with_reducible assumption | assumption) (by first | with_reducible assumption | assumption) ?_
    refine j_iload (q := 14) dX7_puts_12 rfl (by rfl) ?_
    refine j_iadd (q := 15) dX7_puts_14 rfl ?_
    rw [r0_i m t hk]
    refine j_istore (q := 17) dX7_puts_15 rfl (by decide) ?_
    refine j_aload_n (q := 18) dX7_puts_17 rfl (by rfl) ?_
    refine j_getr (q := 21) dX7_puts_18 rfl fX7_7 (by first | with_reducible assumption | assumption) (by rfl) ?_
    refine j_iload_n (q := 22) dX7_puts_21 rfl (by rfl) ?_
    refine j_iload_n (q := 23) dX7_puts_22 rfl (by rfl) ?_
    refine j_iload (q := 25) dX7_puts_23 rfl (by rfl) ?_
    refine j_isub (q := 26) dX7_puts_25 rfl ?_
    refine j_iastore (q := 27) dX7_puts_26 rfl (by first | with_reducible assumption | assumption) (by first | with_reducible assumption | assumption) ?_
    rw [gW_r0 hk, Int32.sub_add_cancel]
    refine j_iload (q := 29) dX7_puts_27 rfl (by rfl) ?_
    refine o_iret hF rfl dX7_puts_29 ?_
    exact ⟨rfl, rfl⟩
  · have h1'' : gd = 0 := by first | exact h1' | exact Decidable.not_not.mp h1'
    rw [if_pos h1'', if_pos h1''] at hF
    refine j_iconst (q := 5) (v := (-1)) dX7_puts_4 rfl (by decide) ?_
    refine o_iret hF rfl dX7_puts_5 ?_
    exact ⟨rfl, rfl⟩
theorem cM_isGood (E : gEv) (σ : gSg) (m : gMem) (hi : Nat) (k v : Int32) : gCo E yX7_isGood cX7_isGood 2 (some .boolean) 1 [.int k, .int v] σ m hi (gX (some (.int (sFit k v))) m) := by
  refine gCo.of mwX7_isGood (Nat.le_of_ble_eq_true rfl) ?_
  intro F hF
  have hz := sFit_z k v
  refine j_iload_n (q := 1) dX7_isGood_0 rfl (by rfl) ?_
  rcases gSw k 4 (by decide) with hsw | ⟨ksw, hksw, hkse⟩
  · refine j_tableOut (tgt := 86) dX7_isGood_1 hsw (by decide) ?_
    refine j_iconst (q := 87) (v := 0) dX7_isGood_86 rfl (by decide) ?_
    refine o_zret hF rfl dX7_isGood_87 (by first | assumption | exact Or.inl rfl | exact Or.inr rfl) ?_
    exact ⟨by unfold sFit; rw [swN_out hsw], rfl⟩
  · match ksw, hksw, hkse with
    | 0, _, hkse =>
      subst hkse
      refine j_tableIn (off := 35) (tgt := 36) dX7_isGood_1 (by decide) (by decide) (by rfl) (by decide) ?_
      refine j_iload_n (q := 37) dX7_isGood_36 rfl (by rfl) ?_
      refine j_i2l (q := 38) dX7_isGood_37 rfl ?_
      refine j_lconst (q := 39) (v := 0) dX7_isGood_38 rfl (by decide) ?_
      refine j_ldc2 (q := 42) dX7_isGood_39 rfl kX7_169 ?_
      refine o_callSi (q := 45) dX7_isGood_42 rfl lX7_55 mwX7_in msX7_in (by rfl) rfl (Nat.le_of_ble_eq_true (by rfl)) (by first | decide | omega) (cM_inI E σ m hi v 0 3 (by decide) (by decide)) ?_
      have hz2 := sWi_z v 0 3
      refine o_zret hF rfl dX7_isGood_45 (by first | assumption | exact Or.inl rfl | exact Or.inr rfl) ?_
      exact ⟨by unfold sFit; rw [swN_in (by decide) (by decide)]; try rfl, rfl⟩
    | 1, _, hkse =>
      subst hkse
      refine j_tableIn (off := 45) (tgt := 46) dX7_isGood_1 (by decide) (by decide) (by rfl) (by decide) ?_
      refine j_iload_n (q := 47) dX7_isGood_46 rfl (by rfl) ?_
      refine j_i2l (q := 48) dX7_isGood_47 rfl ?_
      refine j_lconst (q := 49) (v := 1) dX7_isGood_48 rfl (by decide) ?_
      refine j_ldc2 (q := 52) dX7_isGood_49 rfl kX7_171 ?_
      refine o_callSi (q := 55) dX7_isGood_52 rfl lX7_55 mwX7_in msX7_in (by rfl) rfl (Nat.le_of_ble_eq_true (by rfl)) (by first | decide | omega) (cM_inI E σ m hi v 1 60 (by decide) (by decide)) ?_
      have hz2 := sWi_z v 1 60
      refine o_zret hF rfl dX7_isGood_55 (by first | assumption | exact Or.inl rfl | exact Or.inr rfl) ?_
      exact ⟨by unfold sFit; rw [swN_in (by decide) (by decide)]; try rfl, rfl⟩
    | 2, _, hkse =>
      subst hkse
      refine j_tableIn (off := 55) (tgt := 56) dX7_isGood_1 (by decide) (by decide) (by rfl) (by decide) ?_
      refine j_iload_n (q := 57) dX7_isGood_56 rfl (by rfl) ?_
      refine j_i2l (q := 58) dX7_isGood_57 rfl ?_
      refine j_lconst (q := 59) (v := 0) dX7_isGood_58 rfl (by decide) ?_
      refine j_ldc2 (q := 62) dX7_isGood_59 rfl kX7_173 ?_
      refine o_callSi (q := 65) dX7_isGood_62 rfl lX7_55 mwX7_in msX7_in (by rfl) rfl (Nat.le_of_ble_eq_true (by rfl)) (by first | decide | omega) (cM_inI E σ m hi v 0 9 (by decide) (by decide)) ?_
      have hz2 := sWi_z v 0 9
      refine o_zret hF rfl dX7_isGood_65 (by first | assumption | exact Or.inl rfl | exact Or.inr rfl) ?_
      exact ⟨by unfold sFit; rw [swN_in (by decide) (by decide)]; try rfl, rfl⟩
    | 3, _, hkse =>
      subst hkse
      refine j_tableIn (off := 65) (tgt := 66) dX7_isGood_1 (by decide) (by decide) (by rfl) (by decide) ?_
      refine j_iload_n (q := 67) dX7_isGood_66 rfl (by rfl) ?_
      refine j_i2l (q := 68) dX7_isGood_67 rfl ?_
      refine j_lconst (q := 69) (v := 0) dX7_isGood_68 rfl (by decide) ?_
      refine j_ldc2 (q := 72) dX7_isGood_69 rfl kX7_175 ?_
      refine o_callSi (q := 75) dX7_isGood_72 rfl lX7_55 mwX7_in msX7_in (by rfl) rfl (Nat.le_of_ble_eq_true (by rfl)) (by first | decide | omega) (cM_inI E σ m hi v 0 199 (by decide) (by decide)) ?_
      have hz2 := sWi_z v 0 199
      refine o_zret hF rfl dX7_isGood_75 (by first | assumption | exact Or.inl rfl | exact Or.inr rfl) ?_
      exact ⟨by unfold sFit; rw [swN_in (by decide) (by decide)]; try rfl, rfl⟩
    | 4, _, hkse =>
      subst hkse
      refine j_tableIn (off := 75) (tgt := 76) dX7_isGood_1 (by decide) (by decide) (by rfl) (by decide) ?_
      refine j_iload_n (q := 77) dX7_isGood_76 rfl (by rfl) ?_
      refine j_i2l (q := 78) dX7_isGood_77 rfl ?_
      refine j_lconst (q := 79) (v := 0) dX7_isGood_78 rfl (by decide) ?_
      refine j_ldc2 (q := 82) dX7_isGood_79 rfl kX7_177 ?_
      refine o_callSi (q := 85) dX7_isGood_82 rfl lX7_55 mwX7_in msX7_in (by rfl) rfl (Nat.le_of_ble_eq_true (by rfl)) (by first | decide | omega) (cM_inI E σ m hi v 0 20 (by decide) (by decide)) ?_
      have hz2 := sWi_z v 0 20
      refine o_zret hF rfl dX7_isGood_85 (by first | assumption | exact Or.inl rfl | exact Or.inr rfl) ?_
      exact ⟨by unfold sFit; rw [swN_in (by decide) (by decide)]; try rfl, rfl⟩
    | k + 5, h, _ => exact absurd h (by omega)
