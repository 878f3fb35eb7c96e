/-! hours without anybody -/
theorem lgc_gt (x y : Int64) : 0 < lg_cmp x y ↔ y < x := by
  unfold lg_cmp
  by_cases h : x > y
  · rw [if_pos h]; exact ⟨fun _ => h, fun _ => by decide⟩
  rw [if_neg h]
  by_cases h2 : x = y
  · rw [if_pos h2]; exact ⟨fun q => absurd q (by decide), fun q => absurd q h⟩
  · rw [if_neg h2]; exact ⟨fun q => absurd q (by decide), fun q => absurd q h⟩
theorem lgc_eq (x y : Int64) : lg_cmp x y = 0 ↔ x = y := by
  unfold lg_cmp
  by_cases h : x > y
  · rw [if_pos h]
    refine ⟨fun q => absurd q (by decide), fun q => ?_⟩
    subst q
    exact absurd h (Int64.lt_irrefl)
  rw [if_neg h]
  by_cases h2 : x = y
  · rw [if_pos h2]; exact ⟨fun _ => h2, fun _ => rfl⟩
  · rw [if_neg h2]; exact ⟨fun q => absurd q (by decide), fun q => absurd q h2⟩
theorem lgc_lt (x y : Int64) : lg_cmp x y < 0 ↔ x < y := by
  unfold lg_cmp
  by_cases h : x > y
  · rw [if_pos h]
    exact ⟨fun q => absurd q (by decide), fun q => absurd (Int64.lt_trans q h) (Int64.lt_irrefl)⟩
  rw [if_neg h]
  by_cases h2 : x = y
  · rw [if_pos h2]
    refine ⟨fun q => absurd q (by decide), fun q => ?_⟩
    subst h2
    exact absurd q (Int64.lt_irrefl)
  · rw [if_neg h2]
    refine ⟨fun _ => ?_, fun _ => by decide⟩
    rw [gt_iff_lt, Int64.lt_iff_toInt_lt] at h
    rw [Int64.lt_iff_toInt_lt]
    have h3 : ¬ x.toInt = y.toInt := fun q => h2 (Int64.toInt_inj.mp q)
    omega
def powL (b : Int32) : Nat → Int64
  | 0 => 1
  | n + 1 => powL b n * b.toInt64
theorem cX_power (E : gEv) (σ : gSg) (m : gMem) (hi : Nat) (b : Int32) (k : Nat) (hk : k < 2 ^ 30) : gCo E yX6_power cX6_power 5 (some .long) 0 [.int b, .int (nI k)] σ m hi (gX (some (.long (powL b k))) m) := by
  refine gCo.of mwX6_power (Nat.le_of_ble_eq_true rfl) ?_
  intro F hF
  have K5 : ∀ w i : Nat, i + w = k → (gJ E yX6_power cX6_power 5 (some .long) (gRm 0 0 0) F 5 ([some (.int b), some (.int (nI k)), some (.long (powL b i)), none, some (.int (nI i))]) ([]) 0 0 σ (m) hi) := by
    intro w
    induction w with
    | zero =>
      intro i hi'
      have : i = k := by omega
      subst this
      refine j_iload (q := 7) dX6_power_5 rfl (by rfl) ?_
      refine j_iload_n (q := 8) dX6_power_7 rfl (by rfl) ?_
      refine j_icmp_ge (q := 11) (tgt := 22) dX6_power_8 rfl (by decide) (fun h8 => ?_) (fun h8 => ?_)
      · refine j_lload_n (q := 23) dX6_power_22 rfl (by rfl) ?_
        refine o_lret hF rfl dX6_power_23 ?_
        exact ⟨rfl, rfl⟩
      · exact absurd (Int32.le_refl _) h8
    | succ w ih =>
      intro i hi'
      refine j_iload (q := 7) dX6_power_5 rfl (by rfl) ?_
      refine j_iload_n (q := 8) dX6_power_7 rfl (by rfl) ?_
      refine j_icmp_ge (q := 11) (tgt := 22) dX6_power_8 rfl (by decide) (fun h8 => ?_) (fun h8 => ?_)
      · exact absurd h8 (nI_ge (by omega) (by omega))
      · refine j_lload_n (q := 12) dX6_power_11 rfl (by rfl) ?_
        refine j_iload_n (q := 13) dX6_power_12 rfl (by rfl) ?_
        refine j_i2l (q := 14) dX6_power_13 rfl ?_
        refine j_lmul (q := 15) dX6_power_14 rfl ?_
        refine j_lstore_n (q := 16) dX6_power_15 rfl (by decide) ?_
        refine j_iinc (q := 19) dX6_power_16 rfl (by rfl) (by first | exact nI_inc _ | rfl) (by decide) ?_
        refine j_goto (tgt := 5) dX6_power_19 (by decide) ?_
        exact ih (i + 1) (by omega)
  refine j_lconst (q := 1) (v := 1) dX6_power_0 rfl (by decide) ?_
  refine j_lstore_n (q := 2) dX6_power_1 rfl (by decide) ?_
  refine j_iconst (q := 3) (v := 0) dX6_power_2 rfl (by decide) ?_
  refine j_istore (q := 5) dX6_power_3 rfl (by decide) ?_
  exact K5 k 0 (by omega)
def wc (e : Nat) : Nat := (sBc (nI e)).toNatClampNeg
set_option maxRecDepth 20000 in
theorem wc_all : ∀ n, n < 9 → ∀ e, e < 2 ^ n → sBc (nI e) = nI (wc e) ∧ wc e ≤ n := by decide +kernel
def wgt (e n : Nat) (v : Int32) : Int64 := powL v (wc e) * powL (10 - v) (n - wc e)
theorem cX_weight (E : gEv) (σ : gSg) (m : gMem) (hi : Nat) (e n : Nat) (v : Int32) (hn : n < 9) (he : e < 2 ^ n) : gCo E yX6_weight cX6_weight 4 (some .long) 1 [.int (nI e), .int (nI n), .int v] σ m hi (gX (some (.long (wgt e n v))) m) := by
  refine gCo.of mwX6_weight (Nat.le_of_ble_eq_true rfl) ?_
  intro F hF
  obtain ⟨e1, e2⟩ := wc_all n hn e he
  refine j_iload_n (q := 1) dX6_weight_0 rfl (by rfl) ?_
  refine o_callSi (q := 4) dX6_weight_1 rfl lX6_217 mwJ6_bitCount_0f7a4 msJ6_bitCount_0f7a4 (by rfl) rfl (Nat.le_of_ble_eq_true (by rfl)) (by decide) (cJ_bitCount E σ m hi _) ?_
  rw [e1]
  refine j_istore_n (q := 5) dX6_weight_4 rfl (by decide) ?_
  refine j_iload_n (q := 6) dX6_weight_5 rfl (by rfl) ?_
  refine j_iload_n (q := 7) dX6_weight_6 rfl (by rfl) ?_
  refine o_callSl (q := 10) dX6_weight_7 rfl lX6_261 mwX6_power msX6_power (by rfl) rfl (Nat.le_of_ble_eq_true (by rfl)) (by decide) (cX_power E σ m hi v (wc e) (by omega)) ?_
  refine j_bipush (q := 12) (v := 10) dX6_weight_10 rfl (by decide) ?_
  refine j_iload_n (q := 13) dX6_weight_12 rfl (by rfl) ?_
  refine j_isub (q := 14) dX6_weight_13 rfl ?_
  refine j_iload_n (q := 15) dX6_weight_14 rfl (by rfl) ?_
  refine j_iload_n (q := 16) dX6_weight_15 rfl (by rfl) ?_
  refine j_isub (q := 17) dX6_weight_16 rfl ?_
  rw [pk_sub e2]
  refine o_callSl (q := 20) dX6_weight_17 rfl lX6_261 mwX6_power msX6_power (by rfl) rfl (Nat.le_of_ble_eq_true (by rfl)) (by decide) (cX_power E σ m hi (10 - v) (n - wc e) (by omega)) ?_
  refine j_lmul (q := 21) dX6_weight_20 rfl ?_
  refine o_lret hF rfl dX6_weight_21 ?_
  exact ⟨rfl, rfl⟩
def lowF : Nat → Int64 → Int64 → Int64 × Int64
  | 0, c, r => (c, r)
  | k + 1, c, r => if r = 0 then (c, r) else lowF k r (c - c / r * r)
def xLow (up down : Int64) (k : Int32) : Int64 := if 0 < (lowF 100 down up).1 then (if k = 0 then up / (lowF 100 down up).1 else down / (lowF 100 down up).1) else -1
theorem cX_lowest (E : gEv) (σ : gSg) (m : gMem) (hi : Nat) (up down : Int64) (k : Int32) : gCo E yX6_lowest cX6_lowest 12 (some .long) 0 [.long up, .long down, .int k] σ m hi (gX (some (.long (xLow up down k))) m) := by
  refine gCo.of mwX6_lowest (Nat.le_of_ble_eq_true rfl) ?_
  intro F hF
  have K44 : ∀ (c r : Int64) (o9 o10 : Option Value), c = (lowF 100 down up).1 → (gJ E yX6_lowest cX6_lowest 12 (some .long) (gRm 0 0 0) F 44 ([some (.long up), none, some (.long down), none, some (.int k), some (.long c), none, some (.long r), none, o9, o10, none]) ([]) 0 0 σ (m) hi) := by
    intro c r o9 o10 hc
    unfold xLow at hF
    rw [← hc] at hF
    refine j_lload (q := 46) dX6_lowest_44 rfl (by rfl) ?_
    refine j_lconst (q := 47) (v := 0) dX6_lowest_46 rfl (by decide) ?_
    refine j_lcmp (q := 48) dX6_lowest_47 rfl ?_
    refine j_if_gt (q := 51) (tgt := 55) dX6_lowest_48 rfl (by decide) (fun h48 => ?_) (fun h48 => ?_)
    · have h0 := (lgc_gt c 0).mp h48
      rw [if_pos h0] at hF
      have hz : ¬ c = 0 := fun e => by rw [e] at h0; exact absurd h0 (by decide)
      refine j_iload (q := 57) dX6_lowest_55 rfl (by rfl) ?_
      refine j_if_ne (q := 60) (tgt := 67) dX6_lowest_57 rfl (by decide) (fun h57 => ?_) (fun h57 => ?_)
      · refine j_lload_n (q := 68) dX6_lowest_67 rfl (by rfl) ?_
        refine j_lload (q := 70) dX6_lowest_68 rfl (by rfl) ?_
        refine j_ldiv (q := 71) dX6_lowest_70 rfl (by assumption) ?_
        refine o_lret hF rfl dX6_lowest_71 ?_
        rw [if_neg h57]
        exact ⟨rfl, rfl⟩
      · refine j_lload_n (q := 61) dX6_lowest_60 rfl (by rfl) ?_
        refine j_lload (q := 63) dX6_lowest_61 rfl (by rfl) ?_
        refine j_ldiv (q := 64) dX6_lowest_63 rfl (by assumption) ?_
        refine j_goto (tgt := 71) dX6_lowest_64 (by decide) ?_
        refine o_lret hF rfl dX6_lowest_71 ?_
        rw [if_pos (by first | exact h57 | exact Decidable.not_not.mp h57)]
        exact ⟨rfl, rfl⟩
    · rw [if_neg (fun q => h48 ((lgc_gt c 0).mpr q))] at hF
      refine j_ldc2 (q := 54) dX6_lowest_51 rfl kX6_252 ?_
      refine o_lret hF rfl dX6_lowest_54 ?_
      exact ⟨rfl, rfl⟩
  have K9 : ∀ (w i : Nat) (c r : Int64) (o10 : Option Value), i + w = 100 → lowF 100 down up = lowF w c r → (gJ E yX6_lowest cX6_lowest 12 (some .long) (gRm 0 0 0) F 9 ([some (.long up), none, some (.long down), none, some (.int k), some (.long c), none, some (.long r), none, some (.int (nI i)), o10, none]) ([]) 0 0 σ (m) hi) := by
    intro w
    induction w with
    | zero =>
      intro i c r o10 hi' he
      have : i = 100 := by omega
      subst this
      refine j_iload (q := 11) dX6_lowest_9 rfl (by rfl) ?_
      refine j_bipush (q := 13) (v := 100) dX6_lowest_11 rfl (by decide) ?_
      refine j_icmp_ge (q := 16) (tgt := 44) dX6_lowest_13 rfl (by decide) (fun h13 => ?_) (fun h13 => ?_)
      · exact K44 _ _ _ _ (by rw [he]; rfl)
      · exact absurd (show (100 : Int32) ≤ nI 100 by decide) h13
    | succ w ih =>
      intro i c r o10 hi' he
      refine j_iload (q := 11) dX6_lowest_9 rfl (by rfl) ?_
      refine j_bipush (q := 13) (v := 100) dX6_lowest_11 rfl (by decide) ?_
      refine j_icmp_ge (q := 16) (tgt := 44) dX6_lowest_13 rfl (by decide) (fun h13 => ?_) (fun h13 => ?_)
      · exact absurd h13 (nI_ge (a := i) (b := 100) (by omega) (by omega))
      refine j_lload (q := 18) dX6_lowest_16 rfl (by rfl) ?_
      refine j_lconst (q := 19) (v := 0) dX6_lowest_18 rfl (by decide) ?_
      refine j_lcmp (q := 20) dX6_lowest_19 rfl ?_
      refine j_if_eq (q := 23) (tgt := 44) dX6_lowest_20 rfl (by decide) (fun h20 => ?_) (fun h20 => ?_)
      · have hr := (lgc_eq r 0).mp h20
        exact K44 _ _ _ _ (by rw [he, lowF, if_pos hr])
      · have hr : ¬ r = 0 := fun q => h20 ((lgc_eq r 0).mpr q)
        refine j_lload (q := 25) dX6_lowest_23 rfl (by rfl) ?_
        refine j_lload (q := 27) dX6_lowest_25 rfl (by rfl) ?_
        refine j_lrem (q := 28) dX6_lowest_27 rfl (by assumption) ?_
        refine j_lstore (q := 30) dX6_lowest_28 rfl (by decide) ?_
        refine j_lload (q := 32) dX6_lowest_30 rfl (by rfl) ?_
        refine j_lstore (q := 34) dX6_lowest_32 rfl (by decide) ?_
        refine j_lload (q := 36) dX6_lowest_34 rfl (by rfl) ?_
        refine j_lstore (q := 38) dX6_lowest_36 rfl (by decide) ?_
        refine j_iinc (q := 41) dX6_lowest_38 rfl (by rfl) (by first | exact nI_inc _ | rfl) (by decide) ?_
        refine j_goto (tgt := 9) dX6_lowest_41 (by decide) ?_
        refine ih (i + 1) _ _ _ (by omega) ?_
        rw [he, lowF, if_neg hr]
  refine j_lload_n (q := 1) dX6_lowest_0 rfl (by rfl) ?_
  refine j_lstore (q := 3) dX6_lowest_1 rfl (by decide) ?_
  refine j_lload_n (q := 4) dX6_lowest_3 rfl (by rfl) ?_
  refine j_lstore (q := 6) dX6_lowest_4 rfl (by decide) ?_
  refine j_iconst (q := 7) (v := 0) dX6_lowest_6 rfl (by decide) ?_
  refine j_istore (q := 9) dX6_lowest_7 rfl (by decide) ?_
  exact K9 100 0 _ _ _ (by omega) rfl
def odP (g : Nat → Int32) (e : Nat) : Nat → Nat → Int32
  | 0 => g
  | i + 1 => hr (odP g e i) (if sBit (nI e) (nI i) = 1 then 0 else sWat (odP g e i)) (sWho (odP g e i))
def odU (g : Nat → Int32) (e : Nat) (s : Int32) : Nat → Int32
  | 0 => 0
  | i + 1 => odU g e s i + sBc (hrU (odP g e i) (if sBit (nI e) (nI i) = 1 then 0 else sWat (odP g e i)) (sWho (odP g e i)) &&& s)
theorem odP_C {g : Nat → Int32} (h : okC g) (e : Nat) : ∀ n, okC (odP g e n)
  | 0 => h
  | n + 1 => (odP_C h e n).hr _ _
theorem odP_B {g : Nat → Int32} {b : Nat} (h : okB g b) (e : Nat) : ∀ n, okB (odP g e n) (b + n)
  | 0 => h
  | n + 1 => (odP_B h e n).hr _ _
theorem odP_0 {g : Nat → Int32} (h : pg0 g) (e : Nat) : ∀ n, pg0 (odP g e n)
  | 0 => h
  | n + 1 => hr_0 (odP_0 h e n) _ _
theorem odP_veq {g g' : Nat → Int32} {b : Nat} (h : veq g g') (hc : okC g) (ho : okB g b) (e : Nat) : ∀ n, veq (odP g e n) (odP g' e n)
  | 0 => h
  | n + 1 => by
    have ih := odP_veq h hc ho e n
    rw [odP, odP, sWho_veq ih (odP_B ho e n), sWat_veq ih (odP_B ho e n)]
    exact hr_veq ih (odP_C hc e n) _ _
theorem odU_veq {g g' : Nat → Int32} {b : Nat} (h : veq g g') (hc : okC g) (ho : okB g b) (e : Nat) (s : Int32) : ∀ n, odU g' e s n = odU g e s n
  | 0 => rfl
  | n + 1 => by
    have ih := odP_veq h hc ho e n
    rw [odU, odU, odU_veq h hc ho e s n, sWho_veq ih (odP_B ho e n), sWat_veq ih (odP_B ho e n), hrU_veq ih (odP_C hc e n)]
theorem cX_upsByOdds (E : gEv) (σ : gSg) (m : gMem) (hi x e n : Nat) (s : Int32) (hN : gN σ x) (ho : okN m x) (hn : n < 9) : gCo E yX6_upsByOdds cX6_upsByOdds 8 (some .int) 4 [.ref x, .int (nI e), .int (nI n), .int s] σ m hi (fun v' m' => v' = some (.int (odU (pgC m (x + 1)) e s n)) ∧ scr x m m') := by
  refine gCo.of mwX6_upsByOdds (Nat.le_of_ble_eq_true rfl) ?_
  intro F hF
  have hx := hN.1
  have h9 := hN.2.2.1.1
  have hv := bec_veq (pgC m (x + 1)) (pgC m (x + 9))
  generalize hT : bec (pgC m (x + 1)) (pgC m (x + 9)) = T at hv
  have hT0 : pg0 T := by rw [← hT]; exact bec_0 (pgC_0 m (x + 9))
  have hTc : okC T := ho.1.v hv
  have hTb : okB T 9999 := ho.2.v hv
  have ep : ∀ i, pgC (gP m (x + 9) (odP T e i)) (x + 9) = odP T e i := fun i => pgC_gP (odP_0 hT0 e i) _ _
  have K12 : ∀ (w i : Nat) (o7 : Option Value), i + w = n → (gJ E yX6_upsByOdds cX6_upsByOdds 8 (some .int) (gRm 4 0 0) F 12 ([some (.ref x), some (.int (nI e)), some (.int (nI n)), some (.int s), some (.ref (x + 9)), some (.int (odU T e s i)), some (.int (nI i)), o7]) ([]) 0 0 σ (gP m (x + 9) (odP T e i)) hi) := by
    intro w
    induction w with
    | zero =>
      intro i o7 hi'
      have : i = n := by omega
      subst this
      refine j_iload (q := 14) dX6_upsByOdds_12 rfl (by rfl) ?_
      refine j_iload_n (q := 15) dX6_upsByOdds_14 rfl (by rfl) ?_
      refine j_icmp_ge (q := 18) (tgt := 67) dX6_upsByOdds_15 rfl (by decide) (fun h15 => ?_) (fun h15 => ?_)
      · refine j_iload (q := 69) dX6_upsByOdds_67 rfl (by rfl) ?_
        refine o_iret hF rfl dX6_upsByOdds_69 ?_
        rw [odU_veq hv ho.1 ho.2]
        exact ⟨rfl, (scr.rf x m).t _⟩
      · exact absurd (Int32.le_refl _) h15
    | succ w ih =>
      intro i o7 hi'
      refine j_iload (q := 14) dX6_upsByOdds_12 rfl (by rfl) ?_
      refine j_iload_n (q := 15) dX6_upsByOdds_14 rfl (by rfl) ?_
      refine j_icmp_ge (q := 18) (tgt := 67) dX6_upsByOdds_15 rfl (by decide) (fun h15 => ?_) (fun h15 => ?_)
      · exact absurd h15 (nI_ge (by omega) (by omega))
      · have K37 : ∀ wt : Int32, wt = (if sBit (nI e) (nI i) = 1 then 0 else sWat (odP T e i)) → (gJ E yX6_upsByOdds cX6_upsByOdds 8 (some .int) (gRm 4 0 0) F 37 ([some (.ref x), some (.int (nI e)), some (.int (nI n)), some (.int s), some (.ref (x + 9)), some (.int (odU T e s i)), some (.int (nI i)), o7]) ([.int wt]) 0 0 σ (gP m (x + 9) (odP T e i)) hi) := by
          intro wt hwt
          have hCo := cG_companyNow E σ (gP m (x + 9) (odP T e i)) hi (x + 9) hN.2.2.1 (by rw [ep]; exact (odP_B hTb e i).r (by omega))
          rw [ep] at hCo
          have hPa := cG_pass E σ (gP m (x + 9) (odP T e i)) hi (x + 9) wt (sWho (odP T e i)) hN.2.2.1 (by rw [ep]; exact odP_C hTc e i)
          rw [ep, gP_gP] at hPa
          refine j_istore (q := 39) dX6_upsByOdds_37 rfl (by decide) ?_
          refine j_iload (q := 41) dX6_upsByOdds_39 rfl (by rfl) ?_
          refine j_aload (q := 43) dX6_upsByOdds_41 rfl (by rfl) ?_
          refine j_iload (q := 45) dX6_upsByOdds_43 rfl (by rfl) ?_
          refine j_aload (q := 47) dX6_upsByOdds_45 rfl (by rfl) ?_
          refine o_callVi (q := 50) dX6_upsByOdds_47 rfl lX6_123 mwX0_companyNow mvX0_companyNow cn0 (by assumption) (by rfl) rfl (Nat.le_of_ble_eq_true (by rfl)) (by decide) (hCo) ?_
          refine o_callVi (q := 53) dX6_upsByOdds_50 rfl lX6_214 mwX0_pass mvX0_pass cn0 (by assumption) (by rfl) rfl (Nat.le_of_ble_eq_true (by rfl)) (by decide) (hPa) ?_
          refine j_iload_n (q := 54) dX6_upsByOdds_53 rfl (by rfl) ?_
          refine j_iand (q := 55) dX6_upsByOdds_54 rfl ?_
          refine o_callSi (q := 58) dX6_upsByOdds_55 rfl lX6_217 mwJ6_bitCount_0f7a4 msJ6_bitCount_0f7a4 (by rfl) rfl (Nat.le_of_ble_eq_true (by rfl)) (by decide) (cJ_bitCount E σ _ hi _) ?_
          refine j_iadd (q := 59) dX6_upsByOdds_58 rfl ?_
          refine j_istore (q := 61) dX6_upsByOdds_59 rfl (by decide) ?_
          refine j_iinc (q := 64) dX6_upsByOdds_61 rfl (by rfl) (by first | exact nI_inc _ | rfl) (by decide) ?_
          refine j_goto (tgt := 12) dX6_upsByOdds_64 (by decide) ?_
          have := ih (i + 1) (some (.int wt)) (by omega)
          rw [odU, odP, ← hwt] at this
          exact this
        refine j_iload_n (q := 19) dX6_upsByOdds_18 rfl (by rfl) ?_
        refine j_iload (q := 21) dX6_upsByOdds_19 rfl (by rfl) ?_
        refine o_callSi (q := 24) dX6_upsByOdds_21 rfl lX6_197 mwX6_bit msX6_bit (by rfl) rfl (Nat.le_of_ble_eq_true (by rfl)) (by decide) (cX_bit E σ _ hi _ _) ?_
        refine j_iconst (q := 25) (v := 1) dX6_upsByOdds_24 rfl (by decide) ?_
        refine j_icmp_ne (q := 28) (tgt := 32) dX6_upsByOdds_25 rfl (by decide) (fun h25 => ?_) (fun h25 => ?_)
        · have hWa := cG_watchersNow E σ (gP m (x + 9) (odP T e i)) hi (x + 9) hN.2.2.1 (by rw [ep]; exact (odP_B hTb e i).r (by omega))
          rw [ep] at hWa
          refine j_aload (q := 34) dX6_upsByOdds_32 rfl (by rfl) ?_
          refine o_callVi (q := 37) dX6_upsByOdds_34 rfl lX6_119 mwX0_watchersNow mvX0_watchersNow cn0 (by assumption) (by rfl) rfl (Nat.le_of_ble_eq_true (by rfl)) (by decide) (hWa) ?_
          exact K37 _ (by rw [if_neg h25])
        · refine j_iconst (q := 29) (v := 0) dX6_upsByOdds_28 rfl (by decide) ?_
          refine j_goto (tgt := 37) dX6_upsByOdds_29 (by decide) ?_
          exact K37 _ (by rw [if_pos (by first | exact h25 | exact Decidable.not_not.mp h25)])
  refine j_aload_n (q := 1) dX6_upsByOdds_0 rfl (by rfl) ?_
  refine o_callVa (q := 4) dX6_upsByOdds_1 rfl lX6_177 mwX6_afresh mvX6_afresh cn6 (by assumption) (by rfl) rfl (Nat.le_of_ble_eq_true (by rfl)) (by decide) (cX_afresh E σ m hi x hN ho) ?_
  refine j_astore (q := 6) dX6_upsByOdds_4 rfl (by decide) ?_
  refine j_iconst (q := 7) (v := 0) dX6_upsByOdds_6 rfl (by decide) ?_
  refine j_istore (q := 9) dX6_upsByOdds_7 rfl (by decide) ?_
  refine j_iconst (q := 10) (v := 0) dX6_upsByOdds_9 rfl (by decide) ?_
  refine j_istore (q := 12) dX6_upsByOdds_10 rfl (by decide) ?_
  refine gJ.mm ?_ (K12 n 0 _ (by omega))
  unfold frM
  rw [hT]
  rfl
abbrev goodOdds (v n k : Int32) : Prop := (0 ≤ v ∧ v ≤ 10) ∧ (0 ≤ n ∧ n ≤ 8) ∧ (0 ≤ k ∧ k ≤ 1)
theorem cX_areOdds (E : gEv) (σ : gSg) (m : gMem) (hi : Nat) (v n k : Int32) : gCo E yX6_areOdds cX6_areOdds 3 (some .boolean) 1 [.int v, .int n, .int k] σ m hi (gX (some (.int (if goodOdds v n k then 1 else 0))) m) := by
  refine gCo.of mwX6_areOdds (Nat.le_of_ble_eq_true rfl) ?_
  intro F hF
  refine j_iload_n (q := 1) dX6_areOdds_0 rfl (by rfl) ?_
  refine j_iconst (q := 2) (v := 0) dX6_areOdds_1 rfl (by decide) ?_
  refine j_bipush (q := 4) (v := 10) dX6_areOdds_2 rfl (by decide) ?_
  refine o_callSi (q := 7) dX6_areOdds_4 rfl lX6_66 mwX6_within msX6_within (by rfl) rfl (Nat.le_of_ble_eq_true (by rfl)) (by decide) (cX_within E σ m hi _ _ _) ?_
  refine j_if_eq (q := 10) (tgt := 33) dX6_areOdds_7 rfl (by decide) (fun h7 => ?_) (fun h7 => ?_)
  · refine j_iconst (q := 34) (v := 0) dX6_areOdds_33 rfl (by decide) ?_
    refine o_zret hF rfl dX6_areOdds_34 (by first | assumption | exact Or.inl rfl | exact Or.inr rfl) ?_
    first | (rw [if_pos ⟨sWi_1 h7, sWi_1 h17, sWi_1 h26⟩]; exact ⟨rfl, rfl⟩) | (rw [if_neg (fun h => by first | exact sWi_0 h7 h.1 | exact sWi_0 h17 h.2.1 | exact sWi_0 h26 h.2.2)]; exact ⟨rfl, rfl⟩)
  · refine j_iload_n (q := 11) dX6_areOdds_10 rfl (by rfl) ?_
    refine j_iconst (q := 12) (v := 0) dX6_areOdds_11 rfl (by decide) ?_
    refine j_bipush (q := 14) (v := 8) dX6_areOdds_12 rfl (by decide) ?_
    refine o_callSi (q := 17) dX6_areOdds_14 rfl lX6_66 mwX6_within msX6_within (by rfl) rfl (Nat.le_of_ble_eq_true (by rfl)) (by decide) (cX_within E σ m hi _ _ _) ?_
    refine j_if_eq (q := 20) (tgt := 33) dX6_areOdds_17 rfl (by decide) (fun h17 => ?_) (fun h17 => ?_)
    · refine j_iconst (q := 34) (v := 0) dX6_areOdds_33 rfl (by decide) ?_
      refine o_zret hF rfl dX6_areOdds_34 (by first | assumption | exact Or.inl rfl | exact Or.inr rfl) ?_
      first | (rw [if_pos ⟨sWi_1 h7, sWi_1 h17, sWi_1 h26⟩]; exact ⟨rfl, rfl⟩) | (rw [if_neg (fun h => by first | exact sWi_0 h7 h.1 | exact sWi_0 h17 h.2.1 | exact sWi_0 h26 h.2.2)]; exact ⟨rfl, rfl⟩)
    · refine j_iload_n (q := 21) dX6_areOdds_20 rfl (by rfl) ?_
      refine j_iconst (q := 22) (v := 0) dX6_areOdds_21 rfl (by decide) ?_
      refine j_iconst (q := 23) (v := 1) dX6_areOdds_22 rfl (by decide) ?_
      refine o_callSi (q := 26) dX6_areOdds_23 rfl lX6_66 mwX6_within msX6_within (by rfl) rfl (Nat.le_of_ble_eq_true (by rfl)) (by decide) (cX_within E σ m hi _ _ _) ?_
      refine j_if_eq (q := 29) (tgt := 33) dX6_areOdds_26 rfl (by decide) (fun h26 => ?_) (fun h26 => ?_)
      · refine j_iconst (q := 34) (v := 0) dX6_areOdds_33 rfl (by decide) ?_
        refine o_zret hF rfl dX6_areOdds_34 (by first | assumption | exact Or.inl rfl | exact Or.inr rfl) ?_
        first | (rw [if_pos ⟨sWi_1 h7, sWi_1 h17, sWi_1 h26⟩]; exact ⟨rfl, rfl⟩) | (rw [if_neg (fun h => by first | exact sWi_0 h7 h.1 | exact sWi_0 h17 h.2.1 | exact sWi_0 h26 h.2.2)]; exact ⟨rfl, rfl⟩)
      · refine j_iconst (q := 30) (v := 1) dX6_areOdds_29 rfl (by decide) ?_
        refine j_goto (tgt := 34) dX6_areOdds_30 (by decide) ?_
        refine o_zret hF rfl dX6_areOdds_34 (by first | assumption | exact Or.inl rfl | exact Or.inr rfl) ?_
        first | (rw [if_pos ⟨sWi_1 h7, sWi_1 h17, sWi_1 h26⟩]; exact ⟨rfl, rfl⟩) | (rw [if_neg (fun h => by first | exact sWi_0 h7 h.1 | exact sWi_0 h17 h.2.1 | exact sWi_0 h26 h.2.2)]; exact ⟨rfl, rfl⟩)
theorem shl1 : ∀ n, n < 9 → (1 : Int32) <<< (nI n &&& 31) = nI (2 ^ n) := by decide +kernel
def luS (g : Nat → Int32) (v : Int32) (j n : Nat) : Nat → Int64
  | 0 => 0
  | e + 1 => if (0 : Int32) < odU g e ((1 : Int32) <<< (nI j &&& 31)) n then luS g v j n e + wgt e n v else luS g v j n e
def meS (g : Nat → Int32) (v : Int32) (n : Nat) : Nat → Int64
  | 0 => 0
  | e + 1 => meS g v n e + (odU g e 15 n).toInt64 * wgt e n v
def xLuck (g : Nat → Int32) (v w n k : Int32) : Int64 := match ixV (g 24) w with
  | none => -1
  | some j => if goodOdds v n k then xLow (luS g v j n.toNatClampNeg (2 ^ n.toNatClampNeg)) (powL 10 n.toNatClampNeg) k else -1
theorem cX_luck (E : gEv) (σ : gSg) (m : gMem) (hi x : Nat) (v w n k : Int32) (hN : gN σ x) (ho : okN m x) : gCo E yX6_luck cX6_luck 8 (some .long) 5 [.ref x, .int v, .int w, .int n, .int k] σ m hi (fun v' m' => v' = some (.long (xLuck (pgC m (x + 1)) v w n k)) ∧ scr x m m') := by
  refine gCo.of mwX6_luck (Nat.le_of_ble_eq_true rfl) ?_
  intro F hF
  have hx := hN.1
  have h1 := hN.2.1.1
  obtain ⟨c, hc, hc4⟩ := ho.1
  unfold xLuck at hF
  refine j_aload_n (q := 1) dX6_luck_0 rfl (by rfl) ?_
  refine j_getr (q := 4) dX6_luck_1 rfl fX6_10 (by assumption) (by rfl) ?_
  refine j_iload_n (q := 5) dX6_luck_4 rfl (by rfl) ?_
  refine o_callVi (q := 8) dX6_luck_5 rfl lX6_126 mwX0_hasVent mvX0_hasVent cn0 (by assumption) (by rfl) rfl (Nat.le_of_ble_eq_true (by rfl)) (by decide) (cG_hasVent E σ m hi (x + 1) w hN.2.1) ?_
  rcases ixV_or w hc (by omega) with ⟨hs, hv2⟩ | ⟨j, hj, ej, hs, hv2⟩
  · rw [hs]
    rw [hv2] at hF
    refine j_if_eq (q := 11) (tgt := 21) dX6_luck_8 rfl (by decide) (fun h8 => ?_) (fun h8 => ?_)
    · refine j_ldc2 (q := 24) dX6_luck_21 rfl kX6_252 ?_
      refine o_lret hF rfl dX6_luck_24 ?_
      exact ⟨rfl, scr.rf x m⟩
    · exact absurd rfl h8
  rw [hs]
  rw [hv2] at hF
  dsimp only at hF
  subst ej
  refine j_if_eq (q := 11) (tgt := 21) dX6_luck_8 rfl (by decide) (fun h8 => ?_) (fun h8 => ?_)
  · exact absurd h8 (by decide)
  refine j_iload_n (q := 12) dX6_luck_11 rfl (by rfl) ?_
  refine j_iload_n (q := 13) dX6_luck_12 rfl (by rfl) ?_
  refine j_iload (q := 15) dX6_luck_13 rfl (by rfl) ?_
  refine o_callSi (q := 18) dX6_luck_15 rfl lX6_249 mwX6_areOdds msX6_areOdds (by rfl) rfl (Nat.le_of_ble_eq_true (by rfl)) (by decide) (cX_areOdds E σ m hi _ _ _) ?_
  by_cases hg : goodOdds v n k
  · rw [if_pos hg]
    rw [if_pos hg] at hF
    have hn8 : ¬ sWi n 0 8 = 0 := fun e => sWi_0 e hg.2.1
    obtain ⟨t, ht, et⟩ := swN_wi (n := 8) (by decide) hn8
    subst et
    rw [nI_clamp (by omega)] at hF
    have h256 : 2 ^ t ≤ 256 := Nat.pow_le_pow_right (by decide) ht
    refine j_if_ne (q := 21) (tgt := 25) dX6_luck_18 rfl (by decide) (fun h18 => ?_) (fun h18 => ?_)
    · have K31 : ∀ (u e : Nat) (mi : gMem), e + u = 2 ^ t → scr x m mi → (gJ E yX6_luck cX6_luck 8 (some .long) (gRm 5 0 0) F 31 ([some (.ref x), some (.int v), some (.int (nI j)), some (.int (nI t)), some (.int k), some (.long (luS (pgC m (x + 1)) v j t e)), none, some (.int (nI e))]) ([]) 0 0 σ (mi) hi) := by
        intro u
        induction u with
        | zero =>
          intro e mi he hsc
          have : e = 2 ^ t := by omega
          subst this
          refine j_iload (q := 33) dX6_luck_31 rfl (by rfl) ?_
          refine j_iconst (q := 34) (v := 1) dX6_luck_33 rfl (by decide) ?_
          refine j_iload_n (q := 35) dX6_luck_34 rfl (by rfl) ?_
          refine j_ishl (q := 36) dX6_luck_35 rfl ?_
          rw [shl1 t (by omega)]
          refine j_icmp_ge (q := 39) (tgt := 70) dX6_luck_36 rfl (by decide) (fun h36 => ?_) (fun h36 => ?_)
          · refine j_lload (q := 72) dX6_luck_70 rfl (by rfl) ?_
            refine j_bipush (q := 74) (v := 10) dX6_luck_72 rfl (by decide) ?_
            refine j_iload_n (q := 75) dX6_luck_74 rfl (by rfl) ?_
            refine o_callSl (q := 78) dX6_luck_75 rfl lX6_261 mwX6_power msX6_power (by rfl) rfl (Nat.le_of_ble_eq_true (by rfl)) (by decide) (cX_power E σ mi hi 10 t (by omega)) ?_
            refine j_iload (q := 80) dX6_luck_78 rfl (by rfl) ?_
            refine o_callSl (q := 83) dX6_luck_80 rfl lX6_265 mwX6_lowest msX6_lowest (by rfl) rfl (Nat.le_of_ble_eq_true (by rfl)) (by decide) (cX_lowest E σ mi hi _ _ _) ?_
            refine o_lret hF rfl dX6_luck_83 ?_
            exact ⟨rfl, hsc⟩
          · exact absurd (Int32.le_refl _) h36
        | succ u ih =>
          intro e mi he hsc
          refine j_iload (q := 33) dX6_luck_31 rfl (by rfl) ?_
          refine j_iconst (q := 34) (v := 1) dX6_luck_33 rfl (by decide) ?_
          refine j_iload_n (q := 35) dX6_luck_34 rfl (by rfl) ?_
          refine j_ishl (q := 36) dX6_luck_35 rfl ?_
          rw [shl1 t (by omega)]
          refine j_icmp_ge (q := 39) (tgt := 70) dX6_luck_36 rfl (by decide) (fun h36 => ?_) (fun h36 => ?_)
          · exact absurd h36 (nI_ge (by omega) (by omega))
          · refine j_aload_n (q := 40) dX6_luck_39 rfl (by rfl) ?_
            refine j_iload (q := 42) dX6_luck_40 rfl (by rfl) ?_
            refine j_iload_n (q := 43) dX6_luck_42 rfl (by rfl) ?_
            refine j_iconst (q := 44) (v := 1) dX6_luck_43 rfl (by decide) ?_
            refine j_iload_n (q := 45) dX6_luck_44 rfl (by rfl) ?_
            refine j_ishl (q := 46) dX6_luck_45 rfl ?_
            have hU := cX_upsByOdds E σ mi hi x e t (1 <<< (nI j &&& 31)) hN (hsc.ok ho) (by omega)
            rw [hsc.n] at hU
            refine o_callVx (q := 49) dX6_luck_46 rfl lX6_254 mwX6_upsByOdds mvX6_upsByOdds cn6 (by assumption) (by rfl) rfl (Nat.le_of_ble_eq_true (by rfl)) (by decide) (hU) ?_
            rintro _ m1 ⟨rfl, hs1⟩
            refine j_if_le (q := 52) (tgt := 64) dX6_luck_49 rfl (by decide) (fun h49 => ?_) (fun h49 => ?_)
            · refine j_iinc (q := 67) dX6_luck_64 rfl (by rfl) (by first | exact nI_inc _ | rfl) (by decide) ?_
              refine j_goto (tgt := 31) dX6_luck_67 (by decide) ?_
              have := ih (e + 1) m1 (by omega) (hsc.tr hs1)
              rw [luS, if_neg (Int32.not_lt.mpr h49)] at this
              exact this
            · refine j_lload (q := 54) dX6_luck_52 rfl (by rfl) ?_
              refine j_iload (q := 56) dX6_luck_54 rfl (by rfl) ?_
              refine j_iload_n (q := 57) dX6_luck_56 rfl (by rfl) ?_
              refine j_iload_n (q := 58) dX6_luck_57 rfl (by rfl) ?_
              refine o_callSl (q := 61) dX6_luck_58 rfl lX6_257 mwX6_weight msX6_weight (by rfl) rfl (Nat.le_of_ble_eq_true (by rfl)) (by decide) (cX_weight E σ m1 hi e t v (by omega) (by omega)) ?_
              refine j_ladd (q := 62) dX6_luck_61 rfl ?_
              refine j_lstore (q := 64) dX6_luck_62 rfl (by decide) ?_
              refine j_iinc (q := 67) dX6_luck_64 rfl (by rfl) (by first | exact nI_inc _ | rfl) (by decide) ?_
              refine j_goto (tgt := 31) dX6_luck_67 (by decide) ?_
              have := ih (e + 1) m1 (by omega) (hsc.tr hs1)
              rw [luS, if_pos (Int32.not_le.mp h49)] at this
              exact this
      refine j_lconst (q := 26) (v := 0) dX6_luck_25 rfl (by decide) ?_
      refine j_lstore (q := 28) dX6_luck_26 rfl (by decide) ?_
      refine j_iconst (q := 29) (v := 0) dX6_luck_28 rfl (by decide) ?_
      refine j_istore (q := 31) dX6_luck_29 rfl (by decide) ?_
      exact K31 (2 ^ t) 0 m (by omega) (scr.rf x m)
    · exact absurd h18 (by decide)
  · rw [if_neg hg]
    rw [if_neg hg] at hF
    refine j_if_ne (q := 21) (tgt := 25) dX6_luck_18 rfl (by decide) (fun h18 => ?_) (fun h18 => ?_)
    · exact absurd rfl h18
    · refine j_ldc2 (q := 24) dX6_luck_21 rfl kX6_252 ?_
      refine o_lret hF rfl dX6_luck_24 ?_
      exact ⟨rfl, scr.rf x m⟩
def xMean (g : Nat → Int32) (v n k : Int32) : Int64 := if goodOdds v n k then xLow (meS g v n.toNatClampNeg (2 ^ n.toNatClampNeg)) (powL 10 n.toNatClampNeg) k else -1
theorem cX_mean (E : gEv) (σ : gSg) (m : gMem) (hi x : Nat) (v n k : Int32) (hN : gN σ x) (ho : okN m x) : gCo E yX6_mean cX6_mean 7 (some .long) 5 [.ref x, .int v, .int n, .int k] σ m hi (fun v' m' => v' = some (.long (xMean (pgC m (x + 1)) v n k)) ∧ scr x m m') := by
  refine gCo.of mwX6_mean (Nat.le_of_ble_eq_true rfl) ?_
  intro F hF
  have hx := hN.1
  unfold xMean at hF
  refine j_iload_n (q := 1) dX6_mean_0 rfl (by rfl) ?_
  refine j_iload_n (q := 2) dX6_mean_1 rfl (by rfl) ?_
  refine j_iload_n (q := 3) dX6_mean_2 rfl (by rfl) ?_
  refine o_callSi (q := 6) dX6_mean_3 rfl lX6_249 mwX6_areOdds msX6_areOdds (by rfl) rfl (Nat.le_of_ble_eq_true (by rfl)) (by decide) (cX_areOdds E σ m hi _ _ _) ?_
  by_cases hg : goodOdds v n k
  · rw [if_pos hg]
    rw [if_pos hg] at hF
    have hn8 : ¬ sWi n 0 8 = 0 := fun e => sWi_0 e hg.2.1
    obtain ⟨t, ht, et⟩ := swN_wi (n := 8) (by decide) hn8
    subst et
    rw [nI_clamp (by omega)] at hF
    have h256 : 2 ^ t ≤ 256 := Nat.pow_le_pow_right (by decide) ht
    refine j_if_ne (q := 9) (tgt := 13) dX6_mean_6 rfl (by decide) (fun h6 => ?_) (fun h6 => ?_)
    · have K19 : ∀ (u e : Nat) (mi : gMem), e + u = 2 ^ t → scr x m mi → (gJ E yX6_mean cX6_mean 7 (some .long) (gRm 5 0 0) F 19 ([some (.ref x), some (.int v), some (.int (nI t)), some (.int k), some (.long (meS (pgC m (x + 1)) v t e)), none, some (.int (nI e))]) ([]) 0 0 σ (mi) hi) := by
        intro u
        induction u with
        | zero =>
          intro e mi he hsc
          have : e = 2 ^ t := by omega
          subst this
          refine j_iload (q := 21) dX6_mean_19 rfl (by rfl) ?_
          refine j_iconst (q := 22) (v := 1) dX6_mean_21 rfl (by decide) ?_
          refine j_iload_n (q := 23) dX6_mean_22 rfl (by rfl) ?_
          refine j_ishl (q := 24) dX6_mean_23 rfl ?_
          rw [shl1 t (by omega)]
          refine j_icmp_ge (q := 27) (tgt := 56) dX6_mean_24 rfl (by decide) (fun h24 => ?_) (fun h24 => ?_)
          · refine j_lload (q := 58) dX6_mean_56 rfl (by rfl) ?_
            refine j_bipush (q := 60) (v := 10) dX6_mean_58 rfl (by decide) ?_
            refine j_iload_n (q := 61) dX6_mean_60 rfl (by rfl) ?_
            refine o_callSl (q := 64) dX6_mean_61 rfl lX6_261 mwX6_power msX6_power (by rfl) rfl (Nat.le_of_ble_eq_true (by rfl)) (by decide) (cX_power E σ mi hi 10 t (by omega)) ?_
            refine j_iload_n (q := 65) dX6_mean_64 rfl (by rfl) ?_
            refine o_callSl (q := 68) dX6_mean_65 rfl lX6_265 mwX6_lowest msX6_lowest (by rfl) rfl (Nat.le_of_ble_eq_true (by rfl)) (by decide) (cX_lowest E σ mi hi _ _ _) ?_
            refine o_lret hF rfl dX6_mean_68 ?_
            exact ⟨rfl, hsc⟩
          · exact absurd (Int32.le_refl _) h24
        | succ u ih =>
          intro e mi he hsc
          refine j_iload (q := 21) dX6_mean_19 rfl (by rfl) ?_
          refine j_iconst (q := 22) (v := 1) dX6_mean_21 rfl (by decide) ?_
          refine j_iload_n (q := 23) dX6_mean_22 rfl (by rfl) ?_
          refine j_ishl (q := 24) dX6_mean_23 rfl ?_
          rw [shl1 t (by omega)]
          refine j_icmp_ge (q := 27) (tgt := 56) dX6_mean_24 rfl (by decide) (fun h24 => ?_) (fun h24 => ?_)
          · exact absurd h24 (nI_ge (by omega) (by omega))
          · refine j_lload (q := 29) dX6_mean_27 rfl (by rfl) ?_
            refine j_aload_n (q := 30) dX6_mean_29 rfl (by rfl) ?_
            refine j_iload (q := 32) dX6_mean_30 rfl (by rfl) ?_
            refine j_iload_n (q := 33) dX6_mean_32 rfl (by rfl) ?_
            refine j_bipush (q := 35) (v := 15) dX6_mean_33 rfl (by decide) ?_
            have hU := cX_upsByOdds E σ mi hi x e t 15 hN (hsc.ok ho) (by omega)
            rw [hsc.n] at hU
            refine o_callVx (q := 38) dX6_mean_35 rfl lX6_254 mwX6_upsByOdds mvX6_upsByOdds cn6 (by assumption) (by rfl) rfl (Nat.le_of_ble_eq_true (by rfl)) (by decide) (hU) ?_
            rintro _ m1 ⟨rfl, hs1⟩
            refine j_i2l (q := 39) dX6_mean_38 rfl ?_
            refine j_iload (q := 41) dX6_mean_39 rfl (by rfl) ?_
            refine j_iload_n (q := 42) dX6_mean_41 rfl (by rfl) ?_
            refine j_iload_n (q := 43) dX6_mean_42 rfl (by rfl) ?_
            refine o_callSl (q := 46) dX6_mean_43 rfl lX6_257 mwX6_weight msX6_weight (by rfl) rfl (Nat.le_of_ble_eq_true (by rfl)) (by decide) (cX_weight E σ m1 hi e t v (by omega) (by omega)) ?_
            refine j_lmul (q := 47) dX6_mean_46 rfl ?_
            refine j_ladd (q := 48) dX6_mean_47 rfl ?_
            refine j_lstore (q := 50) dX6_mean_48 rfl (by decide) ?_
            refine j_iinc (q := 53) dX6_mean_50 rfl (by rfl) (by first | exact nI_inc _ | rfl) (by decide) ?_
            refine j_goto (tgt := 19) dX6_mean_53 (by decide) ?_
            exact ih (e + 1) m1 (by omega) (hsc.tr hs1)
      refine j_lconst (q := 14) (v := 0) dX6_mean_13 rfl (by decide) ?_
      refine j_lstore (q := 16) dX6_mean_14 rfl (by decide) ?_
      refine j_iconst (q := 17) (v := 0) dX6_mean_16 rfl (by decide) ?_
      refine j_istore (q := 19) dX6_mean_17 rfl (by decide) ?_
      exact K19 (2 ^ t) 0 m (by omega) (scr.rf x m)
    · exact absurd h6 (by decide)
  · rw [if_neg hg]
    rw [if_neg hg] at hF
    refine j_if_ne (q := 9) (tgt := 13) dX6_mean_6 rfl (by decide) (fun h6 => ?_) (fun h6 => ?_)
    · exact absurd rfl h6
    · refine j_ldc2 (q := 12) dX6_mean_9 rfl kX6_252 ?_
      refine o_lret hF rfl dX6_mean_12 ?_
      exact ⟨rfl, scr.rf x m⟩
theorem gCo.wk {E : gEv} {y : MethodName} {cc : ByteArray} {nL : Nat} {ret : Option FieldType} {d : Nat} {As : List Value} {σ : gSg} {m : gMem} {hi : Nat} {P P' : Option Value → gMem → Prop} (h : gCo E y cc nL ret d As σ m hi P) (hP : ∀ v m', P v m' → P' v m') : gCo E y cc nL ret d As σ m hi P' := by
  intro p e ha hc hk s mi args below hf hap hpre hK
  obtain ⟨k, o, h1, h2, h3, ⟨hQ, hL⟩⟩ := h p e ha hc hk s mi args below hf hap hpre hK
  obtain ⟨v, σ', m', hi', e1, ⟨q1, q2, q3⟩, e3⟩ := hQ
  exact ⟨k, o, h1, h2, h3, ⟨v, σ', m', hi', e1, ⟨q1, q2, hP _ _ q3⟩, e3⟩, hL⟩
