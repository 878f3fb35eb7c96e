/-! tape, seen, images, sheets -/
theorem i8i8 (z : Int32) : z.toInt8.toInt32.toInt8.toInt32 = z.toInt8.toInt32 := by rw [← vp_nar_byte z.toInt8.toInt32, pk_vb]
theorem cT_take (E : gEv) (σ : gSg) (m : gMem) (hi a L : Nat) (c : Int32) (hT : σ a = some (.inl (4, [some (.ref (a + 1)), none]))) (hB : σ (a + 1) = some (.inr (1, 160, fun _ => none))) (hL : m.1 a 1 = nI L) (hL160 : L ≤ 160) : gCo E yX4_take cX4_take 2 (some .boolean) 0 [.ref a, .int c] σ m hi (gX (some (.int (if L < 160 then 1 else 0))) (if L < 160 then gW (gW m (a + 1) L c.toInt8.toInt32) a 1 (nI (L + 1)) else m)) := by
  refine gCo.of mwX4_take (Nat.le_of_ble_eq_true rfl) ?_
  intro F hF
  refine j_aload_n (q := 1) dX4_take_0 rfl (by rfl) ?_
  refine j_geti (q := 4) dX4_take_1 rfl fX4_15 (by assumption) (by rfl) ?_
  refine j_sipush (q := 7) (v := 160) dX4_take_4 rfl (by decide) ?_
  rw [hL]
  by_cases hlt : L < 160
  · have hix : gIdx (nI L) 160 L := gIdx.of rfl hlt (by decide)
    refine j_icmp_lt (q := 10) (tgt := 12) dX4_take_7 rfl (by decide) (fun h7 => ?_) (fun h7 => ?_)
    · refine j_aload_n (q := 13) dX4_take_12 rfl (by rfl) ?_
      refine j_getr (q := 16) dX4_take_13 rfl fX4_9 (by assumption) (by rfl) ?_
      refine j_aload_n (q := 17) dX4_take_16 rfl (by rfl) ?_
      refine j_geti (q := 20) dX4_take_17 rfl fX4_15 (by assumption) (by rfl) ?_
      rw [hL]
      refine j_iload_n (q := 21) dX4_take_20 rfl (by rfl) ?_
      refine j_i2b (q := 22) dX4_take_21 rfl ?_
      refine j_bastore (q := 23) dX4_take_22 rfl (by assumption) (by assumption) ?_
      refine j_aload_n (q := 24) dX4_take_23 rfl (by rfl) ?_
      refine j_dup (q := 25) dX4_take_24 rfl rfl ?_
      refine j_geti (q := 28) dX4_take_25 rfl fX4_15 (by assumption) (by rfl) ?_
      refine j_iconst (q := 29) (v := 1) dX4_take_28 rfl (by decide) ?_
      refine j_iadd (q := 30) dX4_take_29 rfl ?_
      refine j_puti (q := 33) dX4_take_30 rfl fX4_15 p4_1 (by assumption) (by rfl) ?_
      refine j_iconst (q := 34) (v := 1) dX4_take_33 rfl (by decide) ?_
      refine o_zret hF rfl dX4_take_34 (by first | assumption | exact Or.inl rfl | exact Or.inr rfl) ?_
      rw [if_pos hlt, if_pos hlt]
      rw [gW_n (show ¬ (a = a + 1 ∧ 1 = L) by omega), hL, nI_1, i8i8]
      exact ⟨rfl, rfl⟩
    · exact absurd (show nI L < 160 from nI_lt (b := 160) hlt (by decide)) h7
  · refine j_icmp_lt (q := 10) (tgt := 12) dX4_take_7 rfl (by decide) (fun h7 => ?_) (fun h7 => ?_)
    · exact absurd h7 (by
        have : L = 160 := by omega
        subst this
        decide)
    · refine j_iconst (q := 11) (v := 0) dX4_take_10 rfl (by decide) ?_
      refine o_zret hF rfl dX4_take_11 (by first | assumption | exact Or.inl rfl | exact Or.inr rfl) ?_
      rw [if_neg hlt, if_neg hlt]
      exact ⟨rfl, rfl⟩
def tkM (m : gMem) (x L : Nat) (c : Int32) : gMem := gW (gW m (x + 22) L c.toInt8.toInt32) (x + 21) 1 (nI (L + 1))
def xFeed (L : Nat) (c : Int32) : Int32 := if 0 ≤ c ∧ c ≤ 127 then (if L < 160 then nI (L + 1) else -3) else -1
theorem cX_feed (E : gEv) (σ : gSg) (m : gMem) (hi x L : Nat) (c : Int32) (hN : gN σ x) (hL : m.1 (x + 21) 1 = nI L) (hL160 : L ≤ 160) : gCo E yX6_feed cX6_feed 2 (some .int) 1 [.ref x, .int c] σ m hi (gX (some (.int (xFeed L c))) (if (0 ≤ c ∧ c ≤ 127) ∧ L < 160 then tkM m x L c else m)) := by
  refine gCo.of mwX6_feed (Nat.le_of_ble_eq_true rfl) ?_
  intro F hF
  have hx := hN.1
  have h21 := hN.2.2.2.2.2.2.2.1
  have h22 := hN.2.2.2.2.2.2.2.2.1
  refine j_iload_n (q := 1) dX6_feed_0 rfl (by rfl) ?_
  refine j_iconst (q := 2) (v := 0) dX6_feed_1 rfl (by decide) ?_
  refine j_bipush (q := 4) (v := 127) dX6_feed_2 rfl (by decide) ?_
  refine o_callSi (q := 7) dX6_feed_4 rfl lX6_66 mwX6_within msX6_within (by rfl) rfl (Nat.le_of_ble_eq_true (by rfl)) (by decide) (cX_within E σ m hi _ _ _) ?_
  refine j_if_ne (q := 10) (tgt := 12) dX6_feed_7 rfl (by decide) (fun h7 => ?_) (fun h7 => ?_)
  · have hg := sWi_1 h7
    unfold xFeed at hF
    rw [if_pos hg] at hF
    refine j_aload_n (q := 13) dX6_feed_12 rfl (by rfl) ?_
    refine j_getr (q := 16) dX6_feed_13 rfl fX6_41 (by assumption) (by rfl) ?_
    refine j_iload_n (q := 17) dX6_feed_16 rfl (by rfl) ?_
    refine o_callVi (q := 20) dX6_feed_17 rfl lX6_70 mwX4_take mvX4_take cn4 (by assumption) (by rfl) rfl (Nat.le_of_ble_eq_true (by rfl)) (by decide) (cT_take E σ m hi (x + 21) L c h21 h22 hL hL160) ?_
    by_cases hlt : L < 160
    · rw [if_pos hlt, if_pos ⟨hg, hlt⟩] at hF
      rw [if_pos hlt, if_pos hlt]
      refine j_if_eq (q := 23) (tgt := 33) dX6_feed_20 rfl (by decide) (fun h20 => ?_) (fun h20 => ?_)
      · exact absurd h20 (by decide)
      · refine j_aload_n (q := 24) dX6_feed_23 rfl (by rfl) ?_
        refine j_getr (q := 27) dX6_feed_24 rfl fX6_41 (by assumption) (by rfl) ?_
        refine j_geti (q := 30) dX6_feed_27 rfl fX6_76 (by assumption) (by rfl) ?_
        refine j_goto (tgt := 35) dX6_feed_30 (by decide) ?_
        refine o_iret hF rfl dX6_feed_35 ?_
        exact ⟨by rw [gW_s], rfl⟩
    · rw [if_neg hlt, if_neg (fun h => hlt h.2)] at hF
      rw [if_neg hlt, if_neg hlt]
      refine j_if_eq (q := 23) (tgt := 33) dX6_feed_20 rfl (by decide) (fun h20 => ?_) (fun h20 => ?_)
      · refine j_bipush (q := 35) (v := (-3)) dX6_feed_33 rfl (by decide) ?_
        refine o_iret hF rfl dX6_feed_35 ?_
        exact ⟨rfl, rfl⟩
      · exact absurd rfl h20
  · refine j_iconst (q := 11) (v := (-1)) dX6_feed_10 rfl (by decide) ?_
    refine o_iret hF rfl dX6_feed_11 ?_
    unfold xFeed
    rw [if_neg (sWi_0 h7), if_neg (fun h => sWi_0 h7 h.1)]
    exact ⟨rfl, rfl⟩
theorem cX_end (E : gEv) (σ : gSg) (m : gMem) (hi x : Nat) (n : Int32) (hN : gN σ x) : gCo E yX6_end cX6_end 3 (some .int) 1 [.ref x, .int n] σ m hi (gX (some (.int (if 0 ≤ n ∧ n ≤ m.1 (x + 21) 1 then m.1 (x + 21) 1 else -1))) (if 0 ≤ n ∧ n ≤ m.1 (x + 21) 1 then gW m (x + 21) 1 n else m)) := by
  refine gCo.of mwX6_end (Nat.le_of_ble_eq_true rfl) ?_
  intro F hF
  have hx := hN.1
  have h21 := hN.2.2.2.2.2.2.2.1
  refine j_iload_n (q := 1) dX6_end_0 rfl (by rfl) ?_
  refine j_iconst (q := 2) (v := 0) dX6_end_1 rfl (by decide) ?_
  refine j_aload_n (q := 3) dX6_end_2 rfl (by rfl) ?_
  refine j_getr (q := 6) dX6_end_3 rfl fX6_41 (by assumption) (by rfl) ?_
  refine j_geti (q := 9) dX6_end_6 rfl fX6_76 (by assumption) (by rfl) ?_
  refine o_callSi (q := 12) dX6_end_9 rfl lX6_66 mwX6_within msX6_within (by rfl) rfl (Nat.le_of_ble_eq_true (by rfl)) (by decide) (cX_within E σ m hi _ _ _) ?_
  refine j_if_ne (q := 15) (tgt := 17) dX6_end_12 rfl (by decide) (fun h12 => ?_) (fun h12 => ?_)
  · refine j_aload_n (q := 18) dX6_end_17 rfl (by rfl) ?_
    refine j_getr (q := 21) dX6_end_18 rfl fX6_41 (by assumption) (by rfl) ?_
    refine j_geti (q := 24) dX6_end_21 rfl fX6_76 (by assumption) (by rfl) ?_
    refine j_istore_n (q := 25) dX6_end_24 rfl (by decide) ?_
    refine j_aload_n (q := 26) dX6_end_25 rfl (by rfl) ?_
    refine j_getr (q := 29) dX6_end_26 rfl fX6_41 (by assumption) (by rfl) ?_
    refine j_iload_n (q := 30) dX6_end_29 rfl (by rfl) ?_
    refine j_puti (q := 33) dX6_end_30 rfl fX6_76 p4_1 (by assumption) (by rfl) ?_
    refine j_iload_n (q := 34) dX6_end_33 rfl (by rfl) ?_
    refine o_iret hF rfl dX6_end_34 ?_
    rw [if_pos (sWi_1 h12), if_pos (sWi_1 h12)]
    exact ⟨rfl, rfl⟩
  · refine j_iconst (q := 16) (v := (-1)) dX6_end_15 rfl (by decide) ?_
    refine o_iret hF rfl dX6_end_16 ?_
    rw [if_neg (sWi_0 h12), if_neg (sWi_0 h12)]
    exact ⟨rfl, rfl⟩
theorem cX_fault (E : gEv) (σ : gSg) (m : gMem) (hi x : Nat) (hN : gN σ x) : gCo E yX6_fault cX6_fault 1 (some .int) 0 [.ref x] σ m hi (gX (some (.int (m.1 x 11))) m) := by
  refine gCo.of mwX6_fault (Nat.le_of_ble_eq_true rfl) ?_
  intro F hF
  have hx := hN.1
  refine j_aload_n (q := 1) dX6_fault_0 rfl (by rfl) ?_
  refine j_geti (q := 4) dX6_fault_1 rfl fX6_87 (by assumption) (by rfl) ?_
  refine o_iret hF rfl dX6_fault_4 ?_
  exact ⟨rfl, rfl⟩
theorem cX_torn (E : gEv) (σ : gSg) (m : gMem) (hi x : Nat) (hN : gN σ x) : gCo E yX6_torn cX6_torn 1 (some .int) 0 [.ref x] σ m hi (gX (some (.int (m.1 x 12))) m) := by
  refine gCo.of mwX6_torn (Nat.le_of_ble_eq_true rfl) ?_
  intro F hF
  have hx := hN.1
  refine j_aload_n (q := 1) dX6_torn_0 rfl (by rfl) ?_
  refine j_geti (q := 4) dX6_torn_1 rfl fX6_317 (by assumption) (by rfl) ?_
  refine o_iret hF rfl dX6_torn_4 ?_
  exact ⟨rfl, rfl⟩
def seM (m : gMem) (a s : Nat) (n g v : Int32) : gMem := gW (gW (gW (gW m (a + 1) s n) (a + 2) s g) (a + 3) s v) a 3 (nI (s + 1))
theorem cS_take (E : gEv) (σ : gSg) (m : gMem) (hi a s : Nat) (n g v : Int32) (hS : σ a = some (.inl (2, [some (.ref (a + 1)), some (.ref (a + 2)), some (.ref (a + 3)), none]))) (h1 : σ (a + 1) = some (.inr (0, 6, fun _ => none))) (h2 : σ (a + 2) = some (.inr (0, 6, fun _ => none))) (h3 : σ (a + 3) = some (.inr (0, 6, fun _ => none))) (hs : m.1 a 3 = nI s) (hs6 : s ≤ 6) : gCo E yX2_take cX2_take 4 (some .boolean) 0 [.ref a, .int n, .int g, .int v] σ m hi (gX (some (.int (if s < 6 then 1 else 0))) (if s < 6 then seM m a s n g v else m)) := by
  refine gCo.of mwX2_take (Nat.le_of_ble_eq_true rfl) ?_
  intro F hF
  refine j_aload_n (q := 1) dX2_take_0 rfl (by rfl) ?_
  refine j_geti (q := 4) dX2_take_1 rfl fX2_21 (by assumption) (by rfl) ?_
  refine j_bipush (q := 6) (v := 6) dX2_take_4 rfl (by decide) ?_
  rw [hs]
  by_cases hlt : s < 6
  · have hix : gIdx (nI s) 6 s := gIdx.of rfl hlt (by decide)
    have hN : ∀ (mm : gMem) (q k : Nat) (z : Int32), a < q → (gW mm q k z).1 a 3 = mm.1 a 3 := fun mm q k z h => gW_n (by omega)
    refine j_icmp_lt (q := 9) (tgt := 11) dX2_take_6 rfl (by decide) (fun h6 => ?_) (fun h6 => ?_)
    · refine j_aload_n (q := 12) dX2_take_11 rfl (by rfl) ?_
      refine j_getr (q := 15) dX2_take_12 rfl fX2_9 (by assumption) (by rfl) ?_
      refine j_aload_n (q := 16) dX2_take_15 rfl (by rfl) ?_
      refine j_geti (q := 19) dX2_take_16 rfl fX2_21 (by assumption) (by rfl) ?_
      rw [hs]
      refine j_iload_n (q := 20) dX2_take_19 rfl (by rfl) ?_
      refine j_iastore (q := 21) dX2_take_20 rfl (by assumption) (by assumption) ?_
      refine j_aload_n (q := 22) dX2_take_21 rfl (by rfl) ?_
      refine j_getr (q := 25) dX2_take_22 rfl fX2_15 (by assumption) (by rfl) ?_
      refine j_aload_n (q := 26) dX2_take_25 rfl (by rfl) ?_
      refine j_geti (q := 29) dX2_take_26 rfl fX2_21 (by assumption) (by rfl) ?_
      rw [hN _ _ _ _ (by omega), hs]
      refine j_iload_n (q := 30) dX2_take_29 rfl (by rfl) ?_
      refine j_iastore (q := 31) dX2_take_30 rfl (by assumption) (by assumption) ?_
      refine j_aload_n (q := 32) dX2_take_31 rfl (by rfl) ?_
      refine j_getr (q := 35) dX2_take_32 rfl fX2_18 (by assumption) (by rfl) ?_
      refine j_aload_n (q := 36) dX2_take_35 rfl (by rfl) ?_
      refine j_geti (q := 39) dX2_take_36 rfl fX2_21 (by assumption) (by rfl) ?_
      rw [hN _ _ _ _ (by omega), hN _ _ _ _ (by omega), hs]
      refine j_iload_n (q := 40) dX2_take_39 rfl (by rfl) ?_
      refine j_iastore (q := 41) dX2_take_40 rfl (by assumption) (by assumption) ?_
      refine j_aload_n (q := 42) dX2_take_41 rfl (by rfl) ?_
      refine j_dup (q := 43) dX2_take_42 rfl rfl ?_
      refine j_geti (q := 46) dX2_take_43 rfl fX2_21 (by assumption) (by rfl) ?_
      refine j_iconst (q := 47) (v := 1) dX2_take_46 rfl (by decide) ?_
      refine j_iadd (q := 48) dX2_take_47 rfl ?_
      refine j_puti (q := 51) dX2_take_48 rfl fX2_21 p2_3 (by assumption) (by rfl) ?_
      refine j_iconst (q := 52) (v := 1) dX2_take_51 rfl (by decide) ?_
      refine o_zret hF rfl dX2_take_52 (by first | assumption | exact Or.inl rfl | exact Or.inr rfl) ?_
      rw [if_pos hlt, if_pos hlt, hN _ _ _ _ (by omega), hN _ _ _ _ (by omega), hN _ _ _ _ (by omega), hs, nI_1]
      exact ⟨rfl, rfl⟩
    · exact absurd (show nI s < 6 from nI_lt (b := 6) hlt (by decide)) h6
  · refine j_icmp_lt (q := 9) (tgt := 11) dX2_take_6 rfl (by decide) (fun h6 => ?_) (fun h6 => ?_)
    · exact absurd h6 (by
        have : s = 6 := by omega
        subst this
        decide)
    · refine j_iconst (q := 10) (v := 0) dX2_take_9 rfl (by decide) ?_
      refine o_zret hF rfl dX2_take_10 (by first | assumption | exact Or.inl rfl | exact Or.inr rfl) ?_
      rw [if_neg hlt, if_neg hlt]
      exact ⟨rfl, rfl⟩
abbrev goodSee (g : Nat → Int32) (n v w : Int32) : Prop := (0 ≤ n ∧ n ≤ 40) ∧ ¬ ixV (g 24) v = none ∧ (0 ≤ w ∧ w ≤ 1)
theorem cX_see (E : gEv) (σ : gSg) (m : gMem) (hi x s : Nat) (n v w : Int32) (hN : gN σ x) (ho : okN m x) (hs : m.1 (x + 23) 3 = nI s) (hs6 : s ≤ 6) : gCo E yX6_see cX6_see 4 (some .int) 1 [.ref x, .int n, .int v, .int w] σ m hi (gX (some (.int (if goodSee (pgC m (x + 1)) n v w then (if s < 6 then nI (s + 1) else -3) else -1))) (if goodSee (pgC m (x + 1)) n v w ∧ s < 6 then seM m (x + 23) s n v w else m)) := by
  refine gCo.of mwX6_see (Nat.le_of_ble_eq_true rfl) ?_
  intro F hF
  have hx := hN.1
  have h1 := hN.2.1.1
  have hN' := hN.2.1
  obtain ⟨-, -, -, -, -, -, -, -, -, h23, h24, h25, h26, -⟩ := hN
  obtain ⟨c, hc, hc4⟩ := ho.1
  have bad : ¬ goodSee (pgC m (x + 1)) n v w → (gJ E yX6_see cX6_see 4 (some .int) (gRm 1 0 0) F 30 ([some (.ref x), some (.int n), some (.int v), some (.int w)]) ([]) 0 0 σ (m) hi) := by
    intro hb
    rw [if_neg hb, if_neg (fun h => hb h.1)] at hF
    refine j_iconst (q := 31) (v := (-1)) dX6_see_30 rfl (by decide) ?_
    refine o_iret hF rfl dX6_see_31 ?_
    exact ⟨rfl, rfl⟩
  refine j_iload_n (q := 1) dX6_see_0 rfl (by rfl) ?_
  refine j_iconst (q := 2) (v := 0) dX6_see_1 rfl (by decide) ?_
  refine j_bipush (q := 4) (v := 40) dX6_see_2 rfl (by decide) ?_
  refine o_callSi (q := 7) dX6_see_4 rfl lX6_66 mwX6_within msX6_within (by rfl) rfl (Nat.le_of_ble_eq_true (by rfl)) (by decide) (cX_within E σ m hi _ _ _) ?_
  refine j_if_eq (q := 10) (tgt := 30) dX6_see_7 rfl (by decide) (fun h7 => ?_) (fun h7 => ?_)
  · exact bad (fun h => sWi_0 h7 h.1)
  refine j_aload_n (q := 11) dX6_see_10 rfl (by rfl) ?_
  refine j_getr (q := 14) dX6_see_11 rfl fX6_10 (by assumption) (by rfl) ?_
  refine j_iload_n (q := 15) dX6_see_14 rfl (by rfl) ?_
  refine o_callVi (q := 18) dX6_see_15 rfl lX6_126 mwX0_hasVent mvX0_hasVent cn0 (by assumption) (by rfl) rfl (Nat.le_of_ble_eq_true (by rfl)) (by decide) (cG_hasVent E σ m hi (x + 1) v hN') ?_
  rcases ixV_or v hc (by omega) with ⟨hs0, hv2⟩ | ⟨j, hj, ej, hs0, hv2⟩
  · rw [hs0]
    refine j_if_eq (q := 21) (tgt := 30) dX6_see_18 rfl (by decide) (fun h18 => ?_) (fun h18 => ?_)
    · exact bad (fun h => h.2.1 hv2)
    · exact absurd rfl h18
  rw [hs0]
  refine j_if_eq (q := 21) (tgt := 30) dX6_see_18 rfl (by decide) (fun h18 => ?_) (fun h18 => ?_)
  · exact absurd h18 (by decide)
  refine j_iload_n (q := 22) dX6_see_21 rfl (by rfl) ?_
  refine j_iconst (q := 23) (v := 0) dX6_see_22 rfl (by decide) ?_
  refine j_iconst (q := 24) (v := 1) dX6_see_23 rfl (by decide) ?_
  refine o_callSi (q := 27) dX6_see_24 rfl lX6_66 mwX6_within msX6_within (by rfl) rfl (Nat.le_of_ble_eq_true (by rfl)) (by decide) (cX_within E σ m hi _ _ _) ?_
  refine j_if_ne (q := 30) (tgt := 32) dX6_see_27 rfl (by decide) (fun h27 => ?_) (fun h27 => ?_)
  · have hgood : goodSee (pgC m (x + 1)) n v w := ⟨sWi_1 h7, by rw [hv2]; exact (fun e => by cases e), sWi_1 h27⟩
    rw [if_pos hgood] at hF
    refine j_aload_n (q := 33) dX6_see_32 rfl (by rfl) ?_
    refine j_getr (q := 36) dX6_see_33 rfl fX6_47 (by assumption) (by rfl) ?_
    refine j_iload_n (q := 37) dX6_see_36 rfl (by rfl) ?_
    refine j_iload_n (q := 38) dX6_see_37 rfl (by rfl) ?_
    refine j_iload_n (q := 39) dX6_see_38 rfl (by rfl) ?_
    refine o_callVi (q := 42) dX6_see_39 rfl lX6_269 mwX2_take mvX2_take cn2 (by assumption) (by rfl) rfl (Nat.le_of_ble_eq_true (by rfl)) (by decide) (cS_take E σ m hi (x + 23) s n v w h23 h24 h25 h26 hs hs6) ?_
    by_cases hlt : s < 6
    · rw [if_pos hlt, if_pos ⟨hgood, hlt⟩] at hF
      rw [if_pos hlt, if_pos hlt]
      refine j_if_eq (q := 45) (tgt := 55) dX6_see_42 rfl (by decide) (fun h42 => ?_) (fun h42 => ?_)
      · exact absurd h42 (by decide)
      · refine j_aload_n (q := 46) dX6_see_45 rfl (by rfl) ?_
        refine j_getr (q := 49) dX6_see_46 rfl fX6_47 (by assumption) (by rfl) ?_
        refine j_geti (q := 52) dX6_see_49 rfl fX6_97 (by assumption) (by rfl) ?_
        refine j_goto (tgt := 57) dX6_see_52 (by decide) ?_
        refine o_iret hF rfl dX6_see_57 ?_
        exact ⟨by unfold seM; rw [gW_s], rfl⟩
    · rw [if_neg hlt, if_neg (fun h => hlt h.2)] at hF
      rw [if_neg hlt, if_neg hlt]
      refine j_if_eq (q := 45) (tgt := 55) dX6_see_42 rfl (by decide) (fun h42 => ?_) (fun h42 => ?_)
      · refine j_bipush (q := 57) (v := (-3)) dX6_see_55 rfl (by decide) ?_
        refine o_iret hF rfl dX6_see_57 ?_
        exact ⟨rfl, rfl⟩
      · exact absurd rfl h42
  · exact bad (fun h => sWi_0 h27 h.2.2)
theorem cX_forget (E : gEv) (σ : gSg) (m : gMem) (hi x : Nat) (n : Int32) (hN : gN σ x) : gCo E yX6_forget cX6_forget 3 (some .int) 1 [.ref x, .int n] σ m hi (gX (some (.int (if 0 ≤ n ∧ n ≤ m.1 (x + 23) 3 then m.1 (x + 23) 3 else -1))) (if 0 ≤ n ∧ n ≤ m.1 (x + 23) 3 then gW m (x + 23) 3 n else m)) := by
  refine gCo.of mwX6_forget (Nat.le_of_ble_eq_true rfl) ?_
  intro F hF
  have hx := hN.1
  obtain ⟨-, -, -, -, -, -, -, -, -, h23, -⟩ := hN
  refine j_iload_n (q := 1) dX6_forget_0 rfl (by rfl) ?_
  refine j_iconst (q := 2) (v := 0) dX6_forget_1 rfl (by decide) ?_
  refine j_aload_n (q := 3) dX6_forget_2 rfl (by rfl) ?_
  refine j_getr (q := 6) dX6_forget_3 rfl fX6_47 (by assumption) (by rfl) ?_
  refine j_geti (q := 9) dX6_forget_6 rfl fX6_97 (by assumption) (by rfl) ?_
  refine o_callSi (q := 12) dX6_forget_9 rfl lX6_66 mwX6_within msX6_within (by rfl) rfl (Nat.le_of_ble_eq_true (by rfl)) (by decide) (cX_within E σ m hi _ _ _) ?_
  refine j_if_ne (q := 15) (tgt := 17) dX6_forget_12 rfl (by decide) (fun h12 => ?_) (fun h12 => ?_)
  · refine j_aload_n (q := 18) dX6_forget_17 rfl (by rfl) ?_
    refine j_getr (q := 21) dX6_forget_18 rfl fX6_47 (by assumption) (by rfl) ?_
    refine j_geti (q := 24) dX6_forget_21 rfl fX6_97 (by assumption) (by rfl) ?_
    refine j_istore_n (q := 25) dX6_forget_24 rfl (by decide) ?_
    refine j_aload_n (q := 26) dX6_forget_25 rfl (by rfl) ?_
    refine j_getr (q := 29) dX6_forget_26 rfl fX6_47 (by assumption) (by rfl) ?_
    refine j_iload_n (q := 30) dX6_forget_29 rfl (by rfl) ?_
    refine j_puti (q := 33) dX6_forget_30 rfl fX6_97 p2_3 (by assumption) (by rfl) ?_
    refine j_iload_n (q := 34) dX6_forget_33 rfl (by rfl) ?_
    refine o_iret hF rfl dX6_forget_34 ?_
    rw [if_pos (sWi_1 h12), if_pos (sWi_1 h12)]
    exact ⟨rfl, rfl⟩
  · refine j_iconst (q := 16) (v := (-1)) dX6_forget_15 rfl (by decide) ?_
    refine o_iret hF rfl dX6_forget_16 ?_
    rw [if_neg (sWi_0 h12), if_neg (sWi_0 h12)]
    exact ⟨rfl, rfl⟩
def kpM (m : gMem) (x j : Nat) : gMem := gW (gP m (x + 70 + 8 * j) (bec (pgC m (x + 1)) (pgC m (x + 70 + 8 * j)))) (x + 19) j 1
def xKeep (kept : Nat → Int32) (k : Int32) : Int32 := match swN k 1 with
  | none => -1
  | some j => if kept j = 0 then 0 else 1
def kpS (m : gMem) (x : Nat) (k : Int32) : gMem := match swN k 1 with
  | none => m
  | some j => kpM m x j
theorem cX_keep (E : gEv) (σ : gSg) (m : gMem) (hi x : Nat) (k : Int32) (hN : gN σ x) (ho : okN m x) : gCo E yX6_keep cX6_keep 3 (some .int) 3 [.ref x, .int k] σ m hi (gX (some (.int (xKeep (m.1 (x + 19)) k))) (kpS m x k)) := by
  refine gCo.of mwX6_keep (Nat.le_of_ble_eq_true rfl) ?_
  intro F hF
  have hx := hN.1
  have hG1 := hN.2.1
  have h1 := hN.2.1.1
  have hN' := hN
  obtain ⟨-, -, -, -, ⟨fi, h18, hfi⟩, h19, -⟩ := hN
  have hGi := hN'.2.2.2.2.2.2.2.2.2.2.2.2.2.2.2.2.2.1
  obtain ⟨r, h, e1, e2, -, -⟩ := ho.2
  unfold xKeep kpS at hF
  refine j_iload_n (q := 1) dX6_keep_0 rfl (by rfl) ?_
  refine j_iconst (q := 2) (v := 0) dX6_keep_1 rfl (by decide) ?_
  refine j_iconst (q := 3) (v := 1) dX6_keep_2 rfl (by decide) ?_
  refine o_callSi (q := 6) dX6_keep_3 rfl lX6_66 mwX6_within msX6_within (by rfl) rfl (Nat.le_of_ble_eq_true (by rfl)) (by decide) (cX_within E σ m hi _ _ _) ?_
  refine j_if_ne (q := 9) (tgt := 11) dX6_keep_6 rfl (by decide) (fun h6 => ?_) (fun h6 => ?_)
  · obtain ⟨j, hj, ej⟩ := swN_wi (n := 1) (by decide) h6
    subst ej
    rw [swN_in hj (by decide)] at hF
    dsimp only at hF
    have hj2 : j < 2 := by omega
    have hix : gIdx (nI j) 2 j := gIdx.of rfl hj2 (by decide)
    have hfj := hfi j hj2
    have hgi0 := (hGi j hj2).1
    have K25 : ∀ w : Int32, w = (if m.1 (x + 19) j = 0 then 0 else 1) → (gJ E yX6_keep cX6_keep 3 (some .int) (gRm 3 0 0) F 25 ([some (.ref x), some (.int (nI j)), none]) ([.int w]) 0 0 σ (m) hi) := by
      intro w hw
      refine j_istore_n (q := 26) dX6_keep_25 rfl (by decide) ?_
      refine j_aload_n (q := 27) dX6_keep_26 rfl (by rfl) ?_
      refine j_getr (q := 30) dX6_keep_27 rfl fX6_23 (by assumption) (by rfl) ?_
      refine j_iload_n (q := 31) dX6_keep_30 rfl (by rfl) ?_
      refine j_aaload (q := 32) dX6_keep_31 rfl (by assumption) (by decide) (by assumption) (by assumption) ?_
      refine j_aload_n (q := 33) dX6_keep_32 rfl (by rfl) ?_
      refine j_getr (q := 36) dX6_keep_33 rfl fX6_10 (by assumption) (by rfl) ?_
      refine o_callVv (q := 39) dX6_keep_36 rfl lX6_93 mwX0_become mvX0_become cn0 (by assumption) (by rfl) rfl (Nat.le_of_ble_eq_true (by rfl)) (by decide) (cG_become E σ m hi (x + 70 + 8 * j) (x + 1) (hGi j hj2) hG1 (by unfold gAp; omega) ho.1 ⟨r, e1, e2⟩) ?_
      refine j_aload_n (q := 40) dX6_keep_39 rfl (by rfl) ?_
      refine j_getr (q := 43) dX6_keep_40 rfl fX6_26 (by assumption) (by rfl) ?_
      refine j_iload_n (q := 44) dX6_keep_43 rfl (by rfl) ?_
      refine j_iconst (q := 45) (v := 1) dX6_keep_44 rfl (by decide) ?_
      refine j_zastore (q := 46) dX6_keep_45 rfl (by assumption) (by assumption) (by first | assumption | exact Or.inl rfl | exact Or.inr rfl) ?_
      refine j_iload_n (q := 47) dX6_keep_46 rfl (by rfl) ?_
      refine o_iret hF rfl dX6_keep_47 ?_
      exact ⟨by rw [hw], rfl⟩
    refine j_aload_n (q := 12) dX6_keep_11 rfl (by rfl) ?_
    refine j_getr (q := 15) dX6_keep_12 rfl fX6_26 (by assumption) (by rfl) ?_
    refine j_iload_n (q := 16) dX6_keep_15 rfl (by rfl) ?_
    refine j_zaload (q := 17) dX6_keep_16 rfl (by assumption) (by assumption) ?_
    refine j_if_eq (q := 20) (tgt := 24) dX6_keep_17 rfl (by decide) (fun h17 => ?_) (fun h17 => ?_)
    · refine j_iconst (q := 25) (v := 0) dX6_keep_24 rfl (by decide) ?_
      exact K25 _ (by rw [if_pos h17])
    · refine j_iconst (q := 21) (v := 1) dX6_keep_20 rfl (by decide) ?_
      refine j_goto (tgt := 25) dX6_keep_21 (by decide) ?_
      exact K25 _ (by rw [if_neg h17])
  · rw [swN_wo (n := 1) (by decide) h6] at hF
    refine j_iconst (q := 10) (v := (-1)) dX6_keep_9 rfl (by decide) ?_
    refine o_iret hF rfl dX6_keep_10 ?_
    exact ⟨rfl, rfl⟩
def bkM (m : gMem) (x j : Nat) : gMem := gP m (x + 1) (bec (pgC m (x + 70 + 8 * j)) (pgC m (x + 1)))
/-- kept images are in their bounds -/
def okI (m : gMem) (x : Nat) : Prop := ∀ j, j < 2 → ¬ m.1 (x + 19) j = 0 → okC (pgC m (x + 70 + 8 * j)) ∧ okB (pgC m (x + 70 + 8 * j)) 9999
def xBack (m : gMem) (x : Nat) (k : Int32) : Int32 := match swN k 1 with
  | none => -1
  | some j => if m.1 (x + 19) j = 0 then -2 else pgC m (x + 70 + 8 * j) 52
def bkS (m : gMem) (x : Nat) (k : Int32) : gMem := match swN k 1 with
  | none => m
  | some j => if m.1 (x + 19) j = 0 then m else bkM m x j
theorem cX_back (E : gEv) (σ : gSg) (m : gMem) (hi x : Nat) (k : Int32) (hN : gN σ x) (hI : okI m x) : gCo E yX6_back cX6_back 2 (some .int) 3 [.ref x, .int k] σ m hi (gX (some (.int (xBack m x k))) (bkS m x k)) := by
  refine gCo.of mwX6_back (Nat.le_of_ble_eq_true rfl) ?_
  intro F hF
  have hx := hN.1
  have hG1 := hN.2.1
  have h1 := hN.2.1.1
  have hN' := hN
  obtain ⟨-, -, -, -, ⟨fi, h18, hfi⟩, h19, -⟩ := hN
  have hGi := hN'.2.2.2.2.2.2.2.2.2.2.2.2.2.2.2.2.2.1
  unfold xBack bkS at hF
  refine j_iload_n (q := 1) dX6_back_0 rfl (by rfl) ?_
  refine j_iconst (q := 2) (v := 0) dX6_back_1 rfl (by decide) ?_
  refine j_iconst (q := 3) (v := 1) dX6_back_2 rfl (by decide) ?_
  refine o_callSi (q := 6) dX6_back_3 rfl lX6_66 mwX6_within msX6_within (by rfl) rfl (Nat.le_of_ble_eq_true (by rfl)) (by decide) (cX_within E σ m hi _ _ _) ?_
  refine j_if_ne (q := 9) (tgt := 11) dX6_back_6 rfl (by decide) (fun h6 => ?_) (fun h6 => ?_)
  · obtain ⟨j, hj, ej⟩ := swN_wi (n := 1) (by decide) h6
    subst ej
    rw [swN_in hj (by decide)] at hF
    dsimp only at hF
    have hj2 : j < 2 := by omega
    have hix : gIdx (nI j) 2 j := gIdx.of rfl hj2 (by decide)
    have hfj := hfi j hj2
    refine j_aload_n (q := 12) dX6_back_11 rfl (by rfl) ?_
    refine j_getr (q := 15) dX6_back_12 rfl fX6_26 (by assumption) (by rfl) ?_
    refine j_iload_n (q := 16) dX6_back_15 rfl (by rfl) ?_
    refine j_zaload (q := 17) dX6_back_16 rfl (by assumption) (by assumption) ?_
    refine j_if_ne (q := 20) (tgt := 23) dX6_back_17 rfl (by decide) (fun h17 => ?_) (fun h17 => ?_)
    · rw [if_neg h17, if_neg h17] at hF
      obtain ⟨hc, hb⟩ := hI j hj2 h17
      obtain ⟨r, h, e1, e2, -, -⟩ := hb
      refine j_aload_n (q := 24) dX6_back_23 rfl (by rfl) ?_
      refine j_getr (q := 27) dX6_back_24 rfl fX6_10 (by assumption) (by rfl) ?_
      refine j_aload_n (q := 28) dX6_back_27 rfl (by rfl) ?_
      refine j_getr (q := 31) dX6_back_28 rfl fX6_23 (by assumption) (by rfl) ?_
      refine j_iload_n (q := 32) dX6_back_31 rfl (by rfl) ?_
      refine j_aaload (q := 33) dX6_back_32 rfl (by assumption) (by decide) (by assumption) (by assumption) ?_
      refine o_callVv (q := 36) dX6_back_33 rfl lX6_93 mwX0_become mvX0_become cn0 (by assumption) (by rfl) rfl (Nat.le_of_ble_eq_true (by rfl)) (by decide) (cG_become E σ m hi (x + 1) (x + 70 + 8 * j) hG1 (hGi j hj2) (by unfold gAp; omega) hc ⟨r, e1, e2⟩) ?_
      refine j_aload_n (q := 37) dX6_back_36 rfl (by rfl) ?_
      refine j_getr (q := 40) dX6_back_37 rfl fX6_10 (by assumption) (by rfl) ?_
      refine j_geti (q := 43) dX6_back_40 rfl fX6_106 (by assumption) (by rfl) ?_
      refine o_iret hF rfl dX6_back_43 ?_
      exact ⟨by rw [gP_some (gIxP_n5 (x + 1)), (bec_veq _ _).a52], rfl⟩
    · rw [if_pos (by first | exact h17 | exact Decidable.not_not.mp h17), if_pos (by first | exact h17 | exact Decidable.not_not.mp h17)] at hF
      refine j_bipush (q := 22) (v := (-2)) dX6_back_20 rfl (by decide) ?_
      refine o_iret hF rfl dX6_back_22 ?_
      exact ⟨rfl, rfl⟩
  · rw [swN_wo (n := 1) (by decide) h6] at hF
    refine j_iconst (q := 10) (v := (-1)) dX6_back_9 rfl (by decide) ?_
    refine o_iret hF rfl dX6_back_10 ?_
    exact ⟨rfl, rfl⟩
