/-! the whole object: its cells one behind another -/
def gN (σ : gSg) (x : Nat) : Prop := σ x = some (.inl (6, [some (.ref (x + 1)), some (.ref (x + 9)), some (.ref (x + 17)), some (.ref (x + 18)), some (.ref (x + 19)), some (.ref (x + 20)), some (.ref (x + 21)), some (.ref (x + 23)), some (.ref (x + 27)), some (.ref (x + 28)), some (.ref (x + 29)), none, none])) ∧ gG σ (x + 1) ∧ gG σ (x + 9) ∧ (∃ f : Nat → Option Nat, σ (x + 17) = some (.inr (5, 5, f)) ∧ ∀ j, j < 5 → f j = some (x + 30 + 8 * j)) ∧ (∃ f : Nat → Option Nat, σ (x + 18) = some (.inr (5, 2, f)) ∧ ∀ j, j < 2 → f j = some (x + 70 + 8 * j)) ∧ σ (x + 19) = some (.inr (2, 2, fun _ => none)) ∧ σ (x + 20) = some (.inl (1, [some (.ref (x + 21)), none, none, none, none, none, none, none, none])) ∧ σ (x + 21) = some (.inl (4, [some (.ref (x + 22)), none])) ∧ σ (x + 22) = some (.inr (1, 160, fun _ => none)) ∧ σ (x + 23) = some (.inl (2, [some (.ref (x + 24)), some (.ref (x + 25)), some (.ref (x + 26)), none])) ∧ σ (x + 24) = some (.inr (0, 6, fun _ => none)) ∧ σ (x + 25) = some (.inr (0, 6, fun _ => none)) ∧ σ (x + 26) = some (.inr (0, 6, fun _ => none)) ∧ σ (x + 27) = some (.inr (0, 41, fun _ => none)) ∧ σ (x + 28) = some (.inr (3, 10, fun _ => none)) ∧ (∃ f : Nat → Option Nat, σ (x + 29) = some (.inr (6, 4, f)) ∧ ∀ j, j < 4 → f j = some (x + 86 + 2 * j)) ∧ (∀ j, j < 5 → gG σ (x + 30 + 8 * j)) ∧ (∀ j, j < 2 → gG σ (x + 70 + 8 * j)) ∧ ∀ j, j < 4 → σ (x + 86 + 2 * j) = some (.inl (3, [some (.ref (x + 87 + 2 * j)), none, none])) ∧ σ (x + 87 + 2 * j) = some (.inr (0, 40, fun _ => none))
/-- the page of now is in its bounds -/
def okN (m : gMem) (x : Nat) : Prop := okC (pgC m (x + 1)) ∧ okB (pgC m (x + 1)) 9999
def sWi (v lo hig : Int32) : Int32 := if v < lo then 0 else if hig < v then 0 else 1
theorem sWi_1 {v lo hig : Int32} (h : ¬ sWi v lo hig = 0) : lo ≤ v ∧ v ≤ hig := by
  unfold sWi at h
  by_cases h1 : v < lo
  · rw [if_pos h1] at h; exact absurd rfl h
  rw [if_neg h1] at h
  by_cases h2 : hig < v
  · rw [if_pos h2] at h; exact absurd rfl h
  exact ⟨Int32.not_lt.mp h1, Int32.not_lt.mp h2⟩
theorem sWi_0 {v lo hig : Int32} (h : sWi v lo hig = 0) : ¬ (lo ≤ v ∧ v ≤ hig) := by
  rintro ⟨h1, h2⟩
  unfold sWi at h
  rw [if_neg (Int32.not_lt.mpr h1), if_neg (Int32.not_lt.mpr h2)] at h
  exact absurd h (by decide)
theorem sWi_eq (v lo hig : Int32) : sWi v lo hig = if lo ≤ v ∧ v ≤ hig then 1 else 0 := by
  by_cases h : sWi v lo hig = 0
  · rw [h, if_neg (sWi_0 h)]
  · have h2 := sWi_1 h
    rw [if_pos h2]
    unfold sWi
    rw [if_neg (Int32.not_lt.mpr h2.1), if_neg (Int32.not_lt.mpr h2.2)]
theorem sWi_z (v lo hig : Int32) : sWi v lo hig = 0 ∨ sWi v lo hig = 1 := by
  unfold sWi
  by_cases h1 : v < lo
  · rw [if_pos h1]; exact Or.inl rfl
  rw [if_neg h1]
  by_cases h2 : hig < v
  · rw [if_pos h2]; exact Or.inl rfl
  rw [if_neg h2]; exact Or.inr rfl
theorem cX_within (E : gEv) (σ : gSg) (m : gMem) (hi : Nat) (v lo hig : Int32) : gCo E yX6_within cX6_within 3 (some .boolean) 0 [.int v, .int lo, .int hig] σ m hi (gX (some (.int (sWi v lo hig))) m) := by
  refine gCo.of mwX6_within (Nat.le_of_ble_eq_true rfl) ?_
  intro F hF
  refine j_iload_n (q := 1) dX6_within_0 rfl (by rfl) ?_
  refine j_iload_n (q := 2) dX6_within_1 rfl (by rfl) ?_
  refine j_icmp_lt (q := 5) (tgt := 14) dX6_within_2 rfl (by decide) (fun h2 => ?_) (fun h2 => ?_)
  · refine j_iconst (q := 15) (v := 0) dX6_within_14 rfl (by decide) ?_
    refine o_zret hF rfl dX6_within_15 (by first | assumption | exact Or.inl rfl | exact Or.inr rfl) ?_
    exact ⟨by simp [sWi, *], rfl⟩
  · refine j_iload_n (q := 6) dX6_within_5 rfl (by rfl) ?_
    refine j_iload_n (q := 7) dX6_within_6 rfl (by rfl) ?_
    refine j_icmp_gt (q := 10) (tgt := 14) dX6_within_7 rfl (by decide) (fun h7 => ?_) (fun h7 => ?_)
    · refine j_iconst (q := 15) (v := 0) dX6_within_14 rfl (by decide) ?_
      refine o_zret hF rfl dX6_within_15 (by first | assumption | exact Or.inl rfl | exact Or.inr rfl) ?_
      exact ⟨by simp [sWi, *], rfl⟩
    · refine j_iconst (q := 11) (v := 1) dX6_within_10 rfl (by decide) ?_
      refine j_goto (tgt := 15) dX6_within_11 (by decide) ?_
      refine o_zret hF rfl dX6_within_15 (by first | assumption | exact Or.inl rfl | exact Or.inr rfl) ?_
      exact ⟨by simp [sWi, *], rfl⟩
theorem cX_isAhead (E : gEv) (σ : gSg) (m : gMem) (hi : Nat) (v : Int32) : gCo E yX6_isAhead cX6_isAhead 1 (some .boolean) 1 [.int v] σ m hi (gX (some (.int (sWi v 0 200))) m) := by
  refine gCo.of mwX6_isAhead (Nat.le_of_ble_eq_true rfl) ?_
  intro F hF
  have hz := sWi_z v 0 200
  refine j_iload_n (q := 1) dX6_isAhead_0 rfl (by rfl) ?_
  refine j_iconst (q := 2) (v := 0) dX6_isAhead_1 rfl (by decide) ?_
  refine j_sipush (q := 5) (v := 200) dX6_isAhead_2 rfl (by decide) ?_
  refine o_callSi (q := 8) dX6_isAhead_5 rfl lX6_66 mwX6_within msX6_within (by rfl) rfl (Nat.le_of_ble_eq_true (by rfl)) (by decide) (cX_within E σ m hi _ _ _) ?_
  refine o_zret hF rfl dX6_isAhead_8 (by first | assumption | exact Or.inl rfl | exact Or.inr rfl) ?_
  exact ⟨rfl, rfl⟩
theorem cX_isLane (E : gEv) (σ : gSg) (m : gMem) (hi : Nat) (v : Int32) : gCo E yX6_isLane cX6_isLane 1 (some .boolean) 1 [.int v] σ m hi (gX (some (.int (sWi v 0 2))) m) := by
  refine gCo.of mwX6_isLane (Nat.le_of_ble_eq_true rfl) ?_
  intro F hF
  have hz := sWi_z v 0 2
  refine j_iload_n (q := 1) dX6_isLane_0 rfl (by rfl) ?_
  refine j_iconst (q := 2) (v := 0) dX6_isLane_1 rfl (by decide) ?_
  refine j_iconst (q := 3) (v := 2) dX6_isLane_2 rfl (by decide) ?_
  refine o_callSi (q := 6) dX6_isLane_3 rfl lX6_66 mwX6_within msX6_within (by rfl) rfl (Nat.le_of_ble_eq_true (by rfl)) (by decide) (cX_within E σ m hi _ _ _) ?_
  refine o_zret hF rfl dX6_isLane_6 (by first | assumption | exact Or.inl rfl | exact Or.inr rfl) ?_
  exact ⟨rfl, rfl⟩
/-- a selector from 0 to n -/
def swN (x : Int32) (n : Nat) : Option Nat := if x.toInt < 0 ∨ (n : Int) < x.toInt then none else some x.toInt.toNat
theorem swN_out {x : Int32} {n : Nat} (h : x.toInt < 0 ∨ (n : Int) < x.toInt) : swN x n = none := if_pos h
theorem swN_in {k n : Nat} (hk : k ≤ n) (hn : n < 2 ^ 31) : swN (nI k) n = some k := by
  unfold swN
  rw [nI_toInt (by omega), if_neg (by omega)]
  simp
/-- a number of n -/
def ixV (n x : Int32) : Option Nat := if x < 0 ∨ n ≤ x then none else some x.toNatClampNeg
theorem ixV_or (x : Int32) {n : Int32} {c : Nat} (hc : n = nI c) (hc31 : c < 2 ^ 31) : (sHas n x = 0 ∧ ixV n x = none) ∨ ∃ j : Nat, j < c ∧ x = nI j ∧ sHas n x = 1 ∧ ixV n x = some j := by
  subst hc
  rcases pk_ix x hc31 with h | h | ⟨j, h1, h2⟩
  · exact Or.inl ⟨by unfold sHas; rw [if_pos h], if_pos (Or.inl h)⟩
  · by_cases h0 : x < 0
    · exact Or.inl ⟨by unfold sHas; rw [if_pos h0], if_pos (Or.inl h0)⟩
    · exact Or.inl ⟨by unfold sHas; rw [if_neg h0, if_pos h], if_pos (Or.inr h)⟩
  · subst h2
    refine Or.inr ⟨j, h1, rfl, sHas_in rfl h1 hc31, ?_⟩
    unfold ixV
    rw [if_neg, nI_clamp (by omega)]
    rintro (q | q)
    · exact nI_pos (by omega) q
    · exact nI_ge h1 hc31 q
/-- what a geyser's number may become -/
def sFit (k : Int32) (v : Int32) : Int32 := match swN k 4 with
  | some 0 => sWi v 0 3
  | some 1 => sWi v 1 60
  | some 2 => sWi v 0 9
  | some 3 => sWi v 0 199
  | some 4 => sWi v 0 20
  | _ => 0
theorem sFit_z (k v : Int32) : sFit k v = 0 ∨ sFit k v = 1 := by
  unfold sFit
  split <;> first | exact sWi_z _ _ _ | exact Or.inl rfl
theorem cX_fitsVent (E : gEv) (σ : gSg) (m : gMem) (hi : Nat) (k v : Int32) : gCo E yX6_fitsVent cX6_fitsVent 2 (some .boolean) 1 [.int k, .int v] σ m hi (gX (some (.int (sFit k v))) m) := by
  refine gCo.of mwX6_fitsVent (Nat.le_of_ble_eq_true rfl) ?_
  intro F hF
  have hz := sFit_z k v
  refine j_iload_n (q := 1) dX6_fitsVent_0 rfl (by rfl) ?_
  rcases gSw k 4 (by decide) with hsw | ⟨ksw, hksw, hkse⟩
  · refine j_tableOut (tgt := 76) dX6_fitsVent_1 hsw (by decide) ?_
    refine j_iconst (q := 77) (v := 0) dX6_fitsVent_76 rfl (by decide) ?_
    refine o_zret hF rfl dX6_fitsVent_77 (by first | assumption | exact Or.inl rfl | exact Or.inr rfl) ?_
    exact ⟨by unfold sFit; rw [swN_out hsw], rfl⟩
  · match ksw, hksw, hkse with
    | 0, _, hkse =>
      subst hkse
      refine j_tableIn (off := 35) (tgt := 36) dX6_fitsVent_1 (by decide) (by decide) (by rfl) (by decide) ?_
      refine j_iload_n (q := 37) dX6_fitsVent_36 rfl (by rfl) ?_
      refine j_iconst (q := 38) (v := 0) dX6_fitsVent_37 rfl (by decide) ?_
      refine j_iconst (q := 39) (v := 3) dX6_fitsVent_38 rfl (by decide) ?_
      refine o_callSi (q := 42) dX6_fitsVent_39 rfl lX6_66 mwX6_within msX6_within (by rfl) rfl (Nat.le_of_ble_eq_true (by rfl)) (by decide) (cX_within E σ m hi _ _ _) ?_
      have hz2 := sWi_z v 0 3
      refine o_zret hF rfl dX6_fitsVent_42 (by first | assumption | exact Or.inl rfl | exact Or.inr rfl) ?_
      exact ⟨by unfold sFit; rw [swN_in (by decide) (by decide)]; try rfl, rfl⟩
    | 1, _, hkse =>
      subst hkse
      refine j_tableIn (off := 42) (tgt := 43) dX6_fitsVent_1 (by decide) (by decide) (by rfl) (by decide) ?_
      refine j_iload_n (q := 44) dX6_fitsVent_43 rfl (by rfl) ?_
      refine j_iconst (q := 45) (v := 1) dX6_fitsVent_44 rfl (by decide) ?_
      refine j_bipush (q := 47) (v := 60) dX6_fitsVent_45 rfl (by decide) ?_
      refine o_callSi (q := 50) dX6_fitsVent_47 rfl lX6_66 mwX6_within msX6_within (by rfl) rfl (Nat.le_of_ble_eq_true (by rfl)) (by decide) (cX_within E σ m hi _ _ _) ?_
      have hz2 := sWi_z v 1 60
      refine o_zret hF rfl dX6_fitsVent_50 (by first | assumption | exact Or.inl rfl | exact Or.inr rfl) ?_
      exact ⟨by unfold sFit; rw [swN_in (by decide) (by decide)]; try rfl, rfl⟩
    | 2, _, hkse =>
      subst hkse
      refine j_tableIn (off := 50) (tgt := 51) dX6_fitsVent_1 (by decide) (by decide) (by rfl) (by decide) ?_
      refine j_iload_n (q := 52) dX6_fitsVent_51 rfl (by rfl) ?_
      refine j_iconst (q := 53) (v := 0) dX6_fitsVent_52 rfl (by decide) ?_
      refine j_bipush (q := 55) (v := 9) dX6_fitsVent_53 rfl (by decide) ?_
      refine o_callSi (q := 58) dX6_fitsVent_55 rfl lX6_66 mwX6_within msX6_within (by rfl) rfl (Nat.le_of_ble_eq_true (by rfl)) (by decide) (cX_within E σ m hi _ _ _) ?_
      have hz2 := sWi_z v 0 9
      refine o_zret hF rfl dX6_fitsVent_58 (by first | assumption | exact Or.inl rfl | exact Or.inr rfl) ?_
      exact ⟨by unfold sFit; rw [swN_in (by decide) (by decide)]; try rfl, rfl⟩
    | 3, _, hkse =>
      subst hkse
      refine j_tableIn (off := 58) (tgt := 59) dX6_fitsVent_1 (by decide) (by decide) (by rfl) (by decide) ?_
      refine j_iload_n (q := 60) dX6_fitsVent_59 rfl (by rfl) ?_
      refine j_iconst (q := 61) (v := 0) dX6_fitsVent_60 rfl (by decide) ?_
      refine j_sipush (q := 64) (v := 199) dX6_fitsVent_61 rfl (by decide) ?_
      refine o_callSi (q := 67) dX6_fitsVent_64 rfl lX6_66 mwX6_within msX6_within (by rfl) rfl (Nat.le_of_ble_eq_true (by rfl)) (by decide) (cX_within E σ m hi _ _ _) ?_
      have hz2 := sWi_z v 0 199
      refine o_zret hF rfl dX6_fitsVent_67 (by first | assumption | exact Or.inl rfl | exact Or.inr rfl) ?_
      exact ⟨by unfold sFit; rw [swN_in (by decide) (by decide)]; try rfl, rfl⟩
    | 4, _, hkse =>
      subst hkse
      refine j_tableIn (off := 67) (tgt := 68) dX6_fitsVent_1 (by decide) (by decide) (by rfl) (by decide) ?_
      refine j_iload_n (q := 69) dX6_fitsVent_68 rfl (by rfl) ?_
      refine j_iconst (q := 70) (v := 0) dX6_fitsVent_69 rfl (by decide) ?_
      refine j_bipush (q := 72) (v := 20) dX6_fitsVent_70 rfl (by decide) ?_
      refine o_callSi (q := 75) dX6_fitsVent_72 rfl lX6_66 mwX6_within msX6_within (by rfl) rfl (Nat.le_of_ble_eq_true (by rfl)) (by decide) (cX_within E σ m hi _ _ _) ?_
      have hz2 := sWi_z v 0 20
      refine o_zret hF rfl dX6_fitsVent_75 (by first | assumption | exact Or.inl rfl | exact Or.inr rfl) ?_
      exact ⟨by unfold sFit; rw [swN_in (by decide) (by decide)]; try rfl, rfl⟩
    | k + 5, h, _ => exact absurd h (by omega)
/-- the trial stands as now -/
def frM (m : gMem) (x : Nat) : gMem := gP m (x + 9) (bec (pgC m (x + 1)) (pgC m (x + 9)))
theorem cX_afresh (E : gEv) (σ : gSg) (m : gMem) (hi x : Nat) (hN : gN σ x) (ho : okN m x) : gCo E yX6_afresh cX6_afresh 1 (some (.object "GeyserNerves$Ground")) 3 [.ref x] σ m hi (gX (some (.ref (x + 9))) (frM m x)) := by
  refine gCo.of mwX6_afresh (Nat.le_of_ble_eq_true rfl) ?_
  intro F hF
  have hx := hN.1
  have hg1 := hN.2.1.1
  have hg9 := hN.2.2.1.1
  have hr : ∃ r, pgC m (x + 1) 49 = nI r ∧ r ≤ 12 := by
    obtain ⟨r, h, e1, e2, -, -⟩ := ho.2
    exact ⟨r, e1, e2⟩
  refine j_aload_n (q := 1) dX6_afresh_0 rfl (by rfl) ?_
  refine j_getr (q := 4) dX6_afresh_1 rfl fX6_16 (by assumption) (by rfl) ?_
  refine j_aload_n (q := 5) dX6_afresh_4 rfl (by rfl) ?_
  refine j_getr (q := 8) dX6_afresh_5 rfl fX6_10 (by assumption) (by rfl) ?_
  refine o_callVv (q := 11) dX6_afresh_8 rfl lX6_93 mwX0_become mvX0_become cn0 (by assumption) (by rfl) rfl (Nat.le_of_ble_eq_true (by rfl)) (by decide) (cG_become E σ m hi (x + 9) (x + 1) hN.2.2.1 hN.2.1 (by unfold gAp; omega) ho.1 hr) ?_
  refine j_aload_n (q := 12) dX6_afresh_11 rfl (by rfl) ?_
  refine j_getr (q := 15) dX6_afresh_12 rfl fX6_16 (by assumption) (by rfl) ?_
  refine o_aret hF rfl dX6_afresh_15 ?_
  exact ⟨rfl, rfl⟩
def xRule (g : Nat → Int32) (k : Int32) : Int32 := match swN k 8 with
  | some 0 => g 24
  | some 1 => g 49
  | some 2 => g 52
  | some 3 => g 50
  | some 4 => g 51
  | some 5 => sumP g 5
  | some 6 => sWat g
  | some 7 => if sWho g = 4 then -4 else sWho g
  | some 8 => sumP g 3
  | _ => -1
theorem cX_rule (E : gEv) (σ : gSg) (m : gMem) (hi x : Nat) (k : Int32) (hN : gN σ x) (ho : okN m x) : gCo E yX6_rule cX6_rule 2 (some .int) 2 [.ref x, .int k] σ m hi (gX (some (.int (xRule (pgC m (x + 1)) k))) m) := by
  refine gCo.of mwX6_rule (Nat.le_of_ble_eq_true rfl) ?_
  intro F hF
  have hx := hN.1
  have hg := hN.2.1.1
  have hb := ho.2.r (by decide)
  refine j_iload_n (q := 1) dX6_rule_0 rfl (by rfl) ?_
  rcases gSw k 8 (by decide) with hsw | ⟨ksw, hksw, hkse⟩
  · refine j_tableOut (tgt := 142) dX6_rule_1 hsw (by decide) ?_
    refine j_iconst (q := 143) (v := (-1)) dX6_rule_142 rfl (by decide) ?_
    refine o_iret hF rfl dX6_rule_143 ?_
    exact ⟨by unfold xRule; rw [swN_out hsw], rfl⟩
  · match ksw, hksw, hkse with
    | 0, _, hkse =>
      subst hkse
      refine j_tableIn (off := 51) (tgt := 52) dX6_rule_1 (by decide) (by decide) (by rfl) (by decide) ?_
      refine j_aload_n (q := 53) dX6_rule_52 rfl (by rfl) ?_
      refine j_getr (q := 56) dX6_rule_53 rfl fX6_10 (by assumption) (by rfl) ?_
      refine j_geti (q := 59) dX6_rule_56 rfl fX6_100 (by assumption) (by rfl) ?_
      refine o_iret hF rfl dX6_rule_59 ?_
      exact ⟨by unfold xRule; rw [swN_in (by decide) (by decide), pg_3]; try rfl, rfl⟩
    | 1, _, hkse =>
      subst hkse
      refine j_tableIn (off := 59) (tgt := 60) dX6_rule_1 (by decide) (by decide) (by rfl) (by decide) ?_
      refine j_aload_n (q := 61) dX6_rule_60 rfl (by rfl) ?_
      refine j_getr (q := 64) dX6_rule_61 rfl fX6_10 (by assumption) (by rfl) ?_
      refine j_geti (q := 67) dX6_rule_64 rfl fX6_103 (by assumption) (by rfl) ?_
      refine o_iret hF rfl dX6_rule_67 ?_
      exact ⟨by unfold xRule; rw [swN_in (by decide) (by decide), pg_4]; try rfl, rfl⟩
    | 2, _, hkse =>
      subst hkse
      refine j_tableIn (off := 67) (tgt := 68) dX6_rule_1 (by decide) (by decide) (by rfl) (by decide) ?_
      refine j_aload_n (q := 69) dX6_rule_68 rfl (by rfl) ?_
      refine j_getr (q := 72) dX6_rule_69 rfl fX6_10 (by assumption) (by rfl) ?_
      refine j_geti (q := 75) dX6_rule_72 rfl fX6_106 (by assumption) (by rfl) ?_
      refine o_iret hF rfl dX6_rule_75 ?_
      exact ⟨by unfold xRule; rw [swN_in (by decide) (by decide), pg_5]; try rfl, rfl⟩
    | 3, _, hkse =>
      subst hkse
      refine j_tableIn (off := 75) (tgt := 76) dX6_rule_1 (by decide) (by decide) (by rfl) (by decide) ?_
      refine j_aload_n (q := 77) dX6_rule_76 rfl (by rfl) ?_
      refine j_getr (q := 80) dX6_rule_77 rfl fX6_10 (by assumption) (by rfl) ?_
      refine j_geti (q := 83) dX6_rule_80 rfl fX6_109 (by assumption) (by rfl) ?_
      refine o_iret hF rfl dX6_rule_83 ?_
      exact ⟨by unfold xRule; rw [swN_in (by decide) (by decide), pg_6]; try rfl, rfl⟩
    | 4, _, hkse =>
      subst hkse
      refine j_tableIn (off := 83) (tgt := 84) dX6_rule_1 (by decide) (by decide) (by rfl) (by decide) ?_
      refine j_aload_n (q := 85) dX6_rule_84 rfl (by rfl) ?_
      refine j_getr (q := 88) dX6_rule_85 rfl fX6_10 (by assumption) (by rfl) ?_
      refine j_geti (q := 91) dX6_rule_88 rfl fX6_112 (by assumption) (by rfl) ?_
      refine o_iret hF rfl dX6_rule_91 ?_
      exact ⟨by unfold xRule; rw [swN_in (by decide) (by decide), pg_7]; try rfl, rfl⟩
    | 5, _, hkse =>
      subst hkse
      refine j_tableIn (off := 91) (tgt := 92) dX6_rule_1 (by decide) (by decide) (by rfl) (by decide) ?_
      refine j_aload_n (q := 93) dX6_rule_92 rfl (by rfl) ?_
      refine j_getr (q := 96) dX6_rule_93 rfl fX6_10 (by assumption) (by rfl) ?_
      refine j_iconst (q := 97) (v := 5) dX6_rule_96 rfl (by decide) ?_
      refine o_callVi (q := 100) dX6_rule_97 rfl lX6_115 mwX0_sumOf mvX0_sumOf cn0 (by assumption) (by rfl) rfl (Nat.le_of_ble_eq_true (by rfl)) (by decide) (cG_sumOf E σ m hi (x + 1) 5 (by decide) hN.2.1 ho.1) ?_
      refine o_iret hF rfl dX6_rule_100 ?_
      exact ⟨by unfold xRule; rw [swN_in (by decide) (by decide)]; try rfl, rfl⟩
    | 6, _, hkse =>
      subst hkse
      refine j_tableIn (off := 100) (tgt := 101) dX6_rule_1 (by decide) (by decide) (by rfl) (by decide) ?_
      refine j_aload_n (q := 102) dX6_rule_101 rfl (by rfl) ?_
      refine j_getr (q := 105) dX6_rule_102 rfl fX6_10 (by assumption) (by rfl) ?_
      refine o_callVi (q := 108) dX6_rule_105 rfl lX6_119 mwX0_watchersNow mvX0_watchersNow cn0 (by assumption) (by rfl) rfl (Nat.le_of_ble_eq_true (by rfl)) (by decide) (cG_watchersNow E σ m hi (x + 1) hN.2.1 hb) ?_
      refine o_iret hF rfl dX6_rule_108 ?_
      exact ⟨by unfold xRule; rw [swN_in (by decide) (by decide)]; try rfl, rfl⟩
    | 7, _, hkse =>
      subst hkse
      refine j_tableIn (off := 108) (tgt := 109) dX6_rule_1 (by decide) (by decide) (by rfl) (by decide) ?_
      refine j_aload_n (q := 110) dX6_rule_109 rfl (by rfl) ?_
      refine j_getr (q := 113) dX6_rule_110 rfl fX6_10 (by assumption) (by rfl) ?_
      refine o_callVi (q := 116) dX6_rule_113 rfl lX6_123 mwX0_companyNow mvX0_companyNow cn0 (by assumption) (by rfl) rfl (Nat.le_of_ble_eq_true (by rfl)) (by decide) (cG_companyNow E σ m hi (x + 1) hN.2.1 hb) ?_
      refine j_iconst (q := 117) (v := 4) dX6_rule_116 rfl (by decide) ?_
      refine j_icmp_ne (q := 120) (tgt := 125) dX6_rule_117 rfl (by decide) (fun h117 => ?_) (fun h117 => ?_)
      · refine j_aload_n (q := 126) dX6_rule_125 rfl (by rfl) ?_
        refine j_getr (q := 129) dX6_rule_126 rfl fX6_10 (by assumption) (by rfl) ?_
        refine o_callVi (q := 132) dX6_rule_129 rfl lX6_123 mwX0_companyNow mvX0_companyNow cn0 (by assumption) (by rfl) rfl (Nat.le_of_ble_eq_true (by rfl)) (by decide) (cG_companyNow E σ m hi (x + 1) hN.2.1 hb) ?_
        refine o_iret hF rfl dX6_rule_132 ?_
        exact ⟨by unfold xRule; rw [swN_in (by decide) (by decide)]; simp [*], rfl⟩
      · refine j_bipush (q := 122) (v := (-4)) dX6_rule_120 rfl (by decide) ?_
        refine j_goto (tgt := 132) dX6_rule_122 (by decide) ?_
        refine o_iret hF rfl dX6_rule_132 ?_
        exact ⟨by unfold xRule; rw [swN_in (by decide) (by decide)]; simp [*], rfl⟩
    | 8, _, hkse =>
      subst hkse
      refine j_tableIn (off := 132) (tgt := 133) dX6_rule_1 (by decide) (by decide) (by rfl) (by decide) ?_
      refine j_aload_n (q := 134) dX6_rule_133 rfl (by rfl) ?_
      refine j_getr (q := 137) dX6_rule_134 rfl fX6_10 (by assumption) (by rfl) ?_
      refine j_iconst (q := 138) (v := 3) dX6_rule_137 rfl (by decide) ?_
      refine o_callVi (q := 141) dX6_rule_138 rfl lX6_115 mwX0_sumOf mvX0_sumOf cn0 (by assumption) (by rfl) rfl (Nat.le_of_ble_eq_true (by rfl)) (by decide) (cG_sumOf E σ m hi (x + 1) 3 (by decide) hN.2.1 ho.1) ?_
      refine o_iret hF rfl dX6_rule_141 ?_
      exact ⟨by unfold xRule; rw [swN_in (by decide) (by decide)]; try rfl, rfl⟩
    | k + 9, h, _ => exact absurd h (by omega)
def xRow (g : Nat → Int32) (i k : Int32) : Int32 := match ixV (g 49) i, swN k 1 with
  | some j, some 0 => g (25 + j)
  | some j, some _ => g (37 + j)
  | _, _ => -1
theorem swN_wi {k : Int32} {n : Nat} (hn : n < 2 ^ 31) (h : ¬ sWi k 0 (nI n) = 0) : ∃ j, j ≤ n ∧ k = nI j := by
  obtain ⟨h1, h2⟩ := sWi_1 h
  rcases gSw k n hn with h3 | ⟨j, h4, h5⟩
  · rw [Int32.le_iff_toInt_le] at h1 h2
    rw [nI_toInt hn] at h2
    rw [show (0 : Int32).toInt = 0 from rfl] at h1
    omega
  · exact ⟨j, h4, h5⟩
theorem swN_wo {k : Int32} {n : Nat} (hn : n < 2 ^ 31) (h : sWi k 0 (nI n) = 0) : swN k n = none := by
  have h1 := sWi_0 h
  rcases gSw k n hn with h3 | ⟨j, h4, h5⟩
  · exact swN_out h3
  · exact absurd ⟨by rw [h5]; exact nI_pos' (by omega), by rw [h5]; exact nI_le h4 hn⟩ h1
theorem cX_row (E : gEv) (σ : gSg) (m : gMem) (hi x : Nat) (i k : Int32) (hN : gN σ x) (ho : okN m x) : gCo E yX6_row cX6_row 3 (some .int) 1 [.ref x, .int i, .int k] σ m hi (gX (some (.int (xRow (pgC m (x + 1)) i k))) m) := by
  refine gCo.of mwX6_row (Nat.le_of_ble_eq_true rfl) ?_
  intro F hF
  have hx := hN.1
  obtain ⟨h0, ⟨fv, h1, hfv⟩, h2, h3, hv⟩ := hN.2.1
  obtain ⟨r, h, e1, e2, -, -⟩ := ho.2
  rcases ixV_or i e1 (by omega) with ⟨hs, hv⟩ | ⟨j, hj, ej, hs, hv⟩
  · refine j_aload_n (q := 1) dX6_row_0 rfl (by rfl) ?_
    refine j_getr (q := 4) dX6_row_1 rfl fX6_10 (by assumption) (by rfl) ?_
    refine j_iload_n (q := 5) dX6_row_4 rfl (by rfl) ?_
    refine o_callVi (q := 8) dX6_row_5 rfl lX6_144 mwX0_hasRow mvX0_hasRow cn0 (by assumption) (by rfl) rfl (Nat.le_of_ble_eq_true (by rfl)) (by decide) (cG_hasRow E σ m hi (x + 1) i hN.2.1) ?_
    rw [hs]
    refine j_if_eq (q := 11) (tgt := 20) dX6_row_8 rfl (by decide) (fun h8 => ?_) (fun h8 => ?_)
    · refine j_iconst (q := 21) (v := (-1)) dX6_row_20 rfl (by decide) ?_
      refine o_iret hF rfl dX6_row_21 ?_
      exact ⟨by unfold xRow; rw [hv], rfl⟩
    · exact absurd rfl h8
  · have hix : gIdx i 12 j := gIdx.of ej (by omega) (by decide)
    refine j_aload_n (q := 1) dX6_row_0 rfl (by rfl) ?_
    refine j_getr (q := 4) dX6_row_1 rfl fX6_10 (by assumption) (by rfl) ?_
    refine j_iload_n (q := 5) dX6_row_4 rfl (by rfl) ?_
    refine o_callVi (q := 8) dX6_row_5 rfl lX6_144 mwX0_hasRow mvX0_hasRow cn0 (by assumption) (by rfl) rfl (Nat.le_of_ble_eq_true (by rfl)) (by decide) (cG_hasRow E σ m hi (x + 1) i hN.2.1) ?_
    rw [hs]
    refine j_if_eq (q := 11) (tgt := 20) dX6_row_8 rfl (by decide) (fun h8 => ?_) (fun h8 => ?_)
    · exact absurd h8 (by decide)
    refine j_iload_n (q := 12) dX6_row_11 rfl (by rfl) ?_
    refine j_iconst (q := 13) (v := 0) dX6_row_12 rfl (by decide) ?_
    refine j_iconst (q := 14) (v := 1) dX6_row_13 rfl (by decide) ?_
    refine o_callSi (q := 17) dX6_row_14 rfl lX6_66 mwX6_within msX6_within (by rfl) rfl (Nat.le_of_ble_eq_true (by rfl)) (by decide) (cX_within E σ m hi _ _ _) ?_
    refine j_if_ne (q := 20) (tgt := 22) dX6_row_17 rfl (by decide) (fun h17 => ?_) (fun h17 => ?_)
    · obtain ⟨t, ht, et⟩ := swN_wi (n := 1) (by decide) h17
      subst et
      refine j_iload_n (q := 23) dX6_row_22 rfl (by rfl) ?_
      match t, ht with
      | 0, _ =>
        refine j_if_ne (q := 26) (tgt := 38) dX6_row_23 rfl (by decide) (fun h23 => ?_) (fun h23 => ?_)
        · exact absurd rfl h23
        · refine j_aload_n (q := 27) dX6_row_26 rfl (by rfl) ?_
          refine j_getr (q := 30) dX6_row_27 rfl fX6_10 (by assumption) (by rfl) ?_
          refine j_getr (q := 33) dX6_row_30 rfl fX6_147 (by assumption) (by rfl) ?_
          refine j_iload_n (q := 34) dX6_row_33 rfl (by rfl) ?_
          refine j_iaload (q := 35) dX6_row_34 rfl (by assumption) (by assumption) ?_
          refine j_goto (tgt := 47) dX6_row_35 (by decide) ?_
          refine o_iret hF rfl dX6_row_47 ?_
          exact ⟨by unfold xRow; rw [hv, swN_in (by decide) (by decide), pg_w _ _ (by omega)]; try rfl, rfl⟩
      | 1, _ =>
        refine j_if_ne (q := 26) (tgt := 38) dX6_row_23 rfl (by decide) (fun h23 => ?_) (fun h23 => ?_)
        · refine j_aload_n (q := 39) dX6_row_38 rfl (by rfl) ?_
          refine j_getr (q := 42) dX6_row_39 rfl fX6_10 (by assumption) (by rfl) ?_
          refine j_getr (q := 45) dX6_row_42 rfl fX6_150 (by assumption) (by rfl) ?_
          refine j_iload_n (q := 46) dX6_row_45 rfl (by rfl) ?_
          refine j_iaload (q := 47) dX6_row_46 rfl (by assumption) (by assumption) ?_
          refine o_iret hF rfl dX6_row_47 ?_
          exact ⟨by unfold xRow; rw [hv, swN_in (by decide) (by decide), pg_c _ _ (by omega)]; try rfl, rfl⟩
        · exact absurd h23 (by decide)
      | t + 2, ht => exact absurd ht (by omega)
    · refine j_iconst (q := 21) (v := (-1)) dX6_row_20 rfl (by decide) ?_
      refine o_iret hF rfl dX6_row_21 ?_
      exact ⟨by unfold xRow; rw [hv, swN_wo (n := 1) (by decide) h17], rfl⟩
