theorem nI_inc (j : Nat) : nI j + Int32.ofInt 1 = nI (j + 1) := by
  rw [show Int32.ofInt 1 = 1 by decide]
  exact nI_1 j
def gG (σ : gSg) (a : Nat) : Prop := σ a = some (.inl (0, [some (.ref (a + 1)), some (.ref (a + 2)), some (.ref (a + 3)), none, none, none, none, none])) ∧ (∃ f : Nat → Option Nat, σ (a + 1) = some (.inr (4, 4, f)) ∧ ∀ j, j < 4 → f j = some (a + 4 + j)) ∧ σ (a + 2) = some (.inr (0, 12, fun _ => none)) ∧ σ (a + 3) = some (.inr (0, 12, fun _ => none)) ∧ ∀ j, j < 4 → σ (a + 4 + j) = some gVt
def sHas (n x : Int32) : Int32 := if x < 0 then 0 else if n ≤ x then 0 else 1
theorem cG_hasVent (E : gEv) (σ : gSg) (m : gMem) (hi a : Nat) (x : Int32) (hG : gG σ a) : gCo E yX0_hasVent cX0_hasVent 2 (some .boolean) 0 [.ref a, .int x] σ m hi (gX (some (.int (sHas (pgC m a 24) x))) m) := by
  refine gCo.of mwX0_hasVent (Nat.le_of_ble_eq_true rfl) ?_
  intro F hF
  obtain ⟨h0, ⟨fv, h1, hfv⟩, h2, h3, hv⟩ := hG
  refine j_iload_n (q := 1) dX0_hasVent_0 rfl (by rfl) ?_
  refine j_if_lt (q := 4) (tgt := 16) dX0_hasVent_1 rfl (by decide) (fun h1 => ?_) (fun h1 => ?_)
  · refine j_iconst (q := 17) (v := 0) dX0_hasVent_16 rfl (by decide) ?_
    refine o_zret hF rfl dX0_hasVent_17 (by first | assumption | exact Or.inl rfl | exact Or.inr rfl) ?_
    exact ⟨by rw [← pg_3]; simp [sHas, *], rfl⟩
  · refine j_iload_n (q := 5) dX0_hasVent_4 rfl (by rfl) ?_
    refine j_aload_n (q := 6) dX0_hasVent_5 rfl (by rfl) ?_
    refine j_geti (q := 9) dX0_hasVent_6 rfl fX0_32 (by assumption) (by rfl) ?_
    refine j_icmp_ge (q := 12) (tgt := 16) dX0_hasVent_9 rfl (by decide) (fun h9 => ?_) (fun h9 => ?_)
    · refine j_iconst (q := 17) (v := 0) dX0_hasVent_16 rfl (by decide) ?_
      refine o_zret hF rfl dX0_hasVent_17 (by first | assumption | exact Or.inl rfl | exact Or.inr rfl) ?_
      exact ⟨by rw [← pg_3]; simp [sHas, *], rfl⟩
    · refine j_iconst (q := 13) (v := 1) dX0_hasVent_12 rfl (by decide) ?_
      refine j_goto (tgt := 17) dX0_hasVent_13 (by decide) ?_
      refine o_zret hF rfl dX0_hasVent_17 (by first | assumption | exact Or.inl rfl | exact Or.inr rfl) ?_
      exact ⟨by rw [← pg_3]; simp [sHas, *], rfl⟩
theorem cG_hasRow (E : gEv) (σ : gSg) (m : gMem) (hi a : Nat) (x : Int32) (hG : gG σ a) : gCo E yX0_hasRow cX0_hasRow 2 (some .boolean) 0 [.ref a, .int x] σ m hi (gX (some (.int (sHas (pgC m a 49) x))) m) := by
  refine gCo.of mwX0_hasRow (Nat.le_of_ble_eq_true rfl) ?_
  intro F hF
  obtain ⟨h0, ⟨fv, h1, hfv⟩, h2, h3, hv⟩ := hG
  refine j_iload_n (q := 1) dX0_hasRow_0 rfl (by rfl) ?_
  refine j_if_lt (q := 4) (tgt := 16) dX0_hasRow_1 rfl (by decide) (fun h1 => ?_) (fun h1 => ?_)
  · refine j_iconst (q := 17) (v := 0) dX0_hasRow_16 rfl (by decide) ?_
    refine o_zret hF rfl dX0_hasRow_17 (by first | assumption | exact Or.inl rfl | exact Or.inr rfl) ?_
    exact ⟨by rw [← pg_4]; simp [sHas, *], rfl⟩
  · refine j_iload_n (q := 5) dX0_hasRow_4 rfl (by rfl) ?_
    refine j_aload_n (q := 6) dX0_hasRow_5 rfl (by rfl) ?_
    refine j_geti (q := 9) dX0_hasRow_6 rfl fX0_35 (by assumption) (by rfl) ?_
    refine j_icmp_ge (q := 12) (tgt := 16) dX0_hasRow_9 rfl (by decide) (fun h9 => ?_) (fun h9 => ?_)
    · refine j_iconst (q := 17) (v := 0) dX0_hasRow_16 rfl (by decide) ?_
      refine o_zret hF rfl dX0_hasRow_17 (by first | assumption | exact Or.inl rfl | exact Or.inr rfl) ?_
      exact ⟨by rw [← pg_4]; simp [sHas, *], rfl⟩
    · refine j_iconst (q := 13) (v := 1) dX0_hasRow_12 rfl (by decide) ?_
      refine j_goto (tgt := 17) dX0_hasRow_13 (by decide) ?_
      refine o_zret hF rfl dX0_hasRow_17 (by first | assumption | exact Or.inl rfl | exact Or.inr rfl) ?_
      exact ⟨by rw [← pg_4]; simp [sHas, *], rfl⟩
theorem cG_shareOf (E : gEv) (σ : gSg) (m : gMem) (hi a j : Nat) (hG : gG σ a) (hp : ¬ pgC m a 24 ≤ 0) : gCo E yX0_shareOf cX0_shareOf 2 (some .int) 0 [.ref a, .int (nI j)] σ m hi (gX (some (.int (sShr (pgC m a) j))) m) := by
  refine gCo.of mwX0_shareOf (Nat.le_of_ble_eq_true rfl) ?_
  intro F hF
  obtain ⟨h0, ⟨fv, h1, hfv⟩, h2, h3, hv⟩ := hG
  have hz : ¬ m.1 a 3 = 0 := by
    intro h
    rw [pg_3] at h
    exact hp (by rw [h]; exact Int32.le_refl 0)
  refine j_aload_n (q := 1) dX0_shareOf_0 rfl (by rfl) ?_
  refine j_geti (q := 4) dX0_shareOf_1 rfl fX0_32 (by assumption) (by rfl) ?_
  refine j_if_gt (q := 7) (tgt := 9) dX0_shareOf_4 rfl (by decide) (fun h4 => ?_) (fun h4 => ?_)
  · refine j_aload_n (q := 10) dX0_shareOf_9 rfl (by rfl) ?_
    refine j_geti (q := 13) dX0_shareOf_10 rfl fX0_24 (by assumption) (by rfl) ?_
    refine j_aload_n (q := 14) dX0_shareOf_13 rfl (by rfl) ?_
    refine j_geti (q := 17) dX0_shareOf_14 rfl fX0_32 (by assumption) (by rfl) ?_
    refine j_idiv (q := 18) dX0_shareOf_17 rfl (by assumption) ?_
    refine j_iload_n (q := 19) dX0_shareOf_18 rfl (by rfl) ?_
    refine j_aload_n (q := 20) dX0_shareOf_19 rfl (by rfl) ?_
    refine j_geti (q := 23) dX0_shareOf_20 rfl fX0_24 (by assumption) (by rfl) ?_
    refine j_aload_n (q := 24) dX0_shareOf_23 rfl (by rfl) ?_
    refine j_geti (q := 27) dX0_shareOf_24 rfl fX0_32 (by assumption) (by rfl) ?_
    refine j_irem (q := 28) dX0_shareOf_27 rfl (by assumption) ?_
    refine j_icmp_ge (q := 31) (tgt := 35) dX0_shareOf_28 rfl (by decide) (fun h28 => ?_) (fun h28 => ?_)
    · refine j_iconst (q := 36) (v := 0) dX0_shareOf_35 rfl (by decide) ?_
      refine j_iadd (q := 37) dX0_shareOf_36 rfl ?_
      refine o_iret hF rfl dX0_shareOf_37 ?_
      exact ⟨by unfold sShr; rw [← pg_3, ← pg_6]; simp [*], rfl⟩
    · refine j_iconst (q := 32) (v := 1) dX0_shareOf_31 rfl (by decide) ?_
      refine j_goto (tgt := 36) dX0_shareOf_32 (by decide) ?_
      refine j_iadd (q := 37) dX0_shareOf_36 rfl ?_
      refine o_iret hF rfl dX0_shareOf_37 ?_
      exact ⟨by unfold sShr; rw [← pg_3, ← pg_6]; simp [*], rfl⟩
  · refine j_iconst (q := 8) (v := 0) dX0_shareOf_7 rfl (by decide) ?_
    refine o_iret hF rfl dX0_shareOf_8 ?_
    exact absurd (by rw [← pg_3]; exact Int32.not_lt.mp h4) hp
def sTurn (g : Nat → Int32) : Int32 := if g 49 ≤ 0 then -4 else g 52 - g 52 / g 49 * g 49
theorem cG_turn (E : gEv) (σ : gSg) (m : gMem) (hi a : Nat) (hG : gG σ a) : gCo E yX0_turn cX0_turn 1 (some .int) 0 [.ref a] σ m hi (gX (some (.int (sTurn (pgC m a)))) m) := by
  refine gCo.of mwX0_turn (Nat.le_of_ble_eq_true rfl) ?_
  intro F hF
  obtain ⟨h0, ⟨fv, h1, hfv⟩, h2, h3, hv⟩ := hG
  refine j_aload_n (q := 1) dX0_turn_0 rfl (by rfl) ?_
  refine j_geti (q := 4) dX0_turn_1 rfl fX0_35 (by assumption) (by rfl) ?_
  refine j_if_le (q := 7) (tgt := 19) dX0_turn_4 rfl (by decide) (fun h4 => ?_) (fun h4 => ?_)
  · refine j_bipush (q := 21) (v := (-4)) dX0_turn_19 rfl (by decide) ?_
    refine o_iret hF rfl dX0_turn_21 ?_
    exact ⟨by unfold sTurn; rw [← pg_4, ← pg_5]; simp [*], rfl⟩
  · refine j_aload_n (q := 8) dX0_turn_7 rfl (by rfl) ?_
    refine j_geti (q := 11) dX0_turn_8 rfl fX0_38 (by assumption) (by rfl) ?_
    refine j_aload_n (q := 12) dX0_turn_11 rfl (by rfl) ?_
    refine j_geti (q := 15) dX0_turn_12 rfl fX0_35 (by assumption) (by rfl) ?_
    have hz : ¬ m.1 a 4 = 0 := fun h => h4 (by rw [h]; exact Int32.le_refl 0)
    refine j_irem (q := 16) dX0_turn_15 rfl (by assumption) ?_
    refine j_goto (tgt := 21) dX0_turn_16 (by decide) ?_
    refine o_iret hF rfl dX0_turn_21 ?_
    exact ⟨by unfold sTurn; rw [← pg_4, ← pg_5]; simp [*], rfl⟩
def sWat (g : Nat → Int32) : Int32 := if (g 49).toNatClampNeg = 0 then 0 else g (25 + (g 52).toNatClampNeg % (g 49).toNatClampNeg)
def sWho (g : Nat → Int32) : Int32 := if (g 49).toNatClampNeg = 0 then 4 else g (37 + (g 52).toNatClampNeg % (g 49).toNatClampNeg)
/-- a page whose rows and hour are in their bounds -/
def okR (g : Nat → Int32) : Prop := ∃ r h : Nat, g 49 = nI r ∧ r ≤ 12 ∧ g 52 = nI h ∧ h < 2 ^ 30
def okC (g : Nat → Int32) : Prop := ∃ c : Nat, g 24 = nI c ∧ c ≤ 4
theorem sTurn_pos {g : Nat → Int32} {r h : Nat} (h1 : g 49 = nI r) (h2 : r ≤ 12) (h3 : g 52 = nI h) (h4 : h < 2 ^ 30) (hr : 0 < r) : sTurn g = nI (h % r) := by
  unfold sTurn
  rw [h1, h3, if_neg (nI_nle hr (by omega)), pk_rem (by omega) hr (by omega)]
theorem sTurn_zero {g : Nat → Int32} (h1 : g 49 = nI 0) : sTurn g = -4 := by
  unfold sTurn
  rw [h1, if_pos (by decide)]
theorem cG_watchersNow (E : gEv) (σ : gSg) (m : gMem) (hi a : Nat) (hG : gG σ a) (hok : okR (pgC m a)) : gCo E yX0_watchersNow cX0_watchersNow 2 (some .int) 1 [.ref a] σ m hi (gX (some (.int (sWat (pgC m a)))) m) := by
  refine gCo.of mwX0_watchersNow (Nat.le_of_ble_eq_true rfl) ?_
  intro F hF
  have hG0 := hG
  obtain ⟨h0, ⟨fv, h1, hfv⟩, h2, h3, hv⟩ := hG
  obtain ⟨r, h, e49, hr12, e52, hh⟩ := hok
  by_cases hr : r = 0
  · subst hr
    have et := sTurn_zero e49
    refine j_aload_n (q := 1) dX0_watchersNow_0 rfl (by rfl) ?_
    refine o_callVi (q := 4) dX0_watchersNow_1 rfl lX0_56 mwX0_turn mvX0_turn cn0 (by assumption) (by rfl) rfl (Nat.le_of_ble_eq_true (by rfl)) (by decide) (cG_turn E σ m hi a hG0) ?_
    refine j_istore_n (q := 5) dX0_watchersNow_4 rfl (by decide) ?_
    refine j_aload_n (q := 6) dX0_watchersNow_5 rfl (by rfl) ?_
    refine j_iload_n (q := 7) dX0_watchersNow_6 rfl (by rfl) ?_
    refine o_callVi (q := 10) dX0_watchersNow_7 rfl lX0_52 mwX0_hasRow mvX0_hasRow cn0 (by assumption) (by rfl) rfl (Nat.le_of_ble_eq_true (by rfl)) (by decide) (cG_hasRow E σ m hi a (sTurn (pgC m a)) hG0) ?_
    rw [et, e49, show sHas (nI 0) (-4) = 0 from by decide]
    refine j_if_eq (q := 13) (tgt := 22) dX0_watchersNow_10 rfl (by decide) (fun h10 => ?_) (fun h10 => ?_)
    · refine j_iconst (q := 23) (v := 0) dX0_watchersNow_22 rfl (by decide) ?_
      refine o_iret hF rfl dX0_watchersNow_23 ?_
      exact ⟨by unfold sWat; rw [e49, if_pos (by decide)], rfl⟩
    · exact absurd rfl h10
  · have hr0 : 0 < r := by omega
    have et := sTurn_pos e49 hr12 e52 hh hr0
    have hlt := Nat.mod_lt h hr0
    have hix : gIdx (sTurn (pgC m a)) 12 (h % r) := by rw [et]; exact gIdx.of rfl (by omega) (by decide)
    have hs : sHas (pgC m a 49) (sTurn (pgC m a)) = 1 := by
      unfold sHas
      rw [et, e49, if_neg (nI_pos (by omega)), if_neg (nI_ge hlt (by omega))]
    refine j_aload_n (q := 1) dX0_watchersNow_0 rfl (by rfl) ?_
    refine o_callVi (q := 4) dX0_watchersNow_1 rfl lX0_56 mwX0_turn mvX0_turn cn0 (by assumption) (by rfl) rfl (Nat.le_of_ble_eq_true (by rfl)) (by decide) (cG_turn E σ m hi a hG0) ?_
    refine j_istore_n (q := 5) dX0_watchersNow_4 rfl (by decide) ?_
    refine j_aload_n (q := 6) dX0_watchersNow_5 rfl (by rfl) ?_
    refine j_iload_n (q := 7) dX0_watchersNow_6 rfl (by rfl) ?_
    refine o_callVi (q := 10) dX0_watchersNow_7 rfl lX0_52 mwX0_hasRow mvX0_hasRow cn0 (by assumption) (by rfl) rfl (Nat.le_of_ble_eq_true (by rfl)) (by decide) (cG_hasRow E σ m hi a (sTurn (pgC m a)) hG0) ?_
    rw [hs]
    refine j_if_eq (q := 13) (tgt := 22) dX0_watchersNow_10 rfl (by decide) (fun h10 => ?_) (fun h10 => ?_)
    · exact absurd h10 (by decide)
    · refine j_aload_n (q := 14) dX0_watchersNow_13 rfl (by rfl) ?_
      refine j_getr (q := 17) dX0_watchersNow_14 rfl fX0_17 (by assumption) (by rfl) ?_
      refine j_iload_n (q := 18) dX0_watchersNow_17 rfl (by rfl) ?_
      refine j_iaload (q := 19) dX0_watchersNow_18 rfl (by assumption) (by assumption) ?_
      refine j_goto (tgt := 23) dX0_watchersNow_19 (by decide) ?_
      refine o_iret hF rfl dX0_watchersNow_23 ?_
      exact ⟨by unfold sWat; rw [e49, e52, nI_clamp (by omega), nI_clamp (by omega), if_neg hr, pg_w _ _ (by omega)], rfl⟩
theorem cG_companyNow (E : gEv) (σ : gSg) (m : gMem) (hi a : Nat) (hG : gG σ a) (hok : okR (pgC m a)) : gCo E yX0_companyNow cX0_companyNow 2 (some .int) 1 [.ref a] σ m hi (gX (some (.int (sWho (pgC m a)))) m) := by
  refine gCo.of mwX0_companyNow (Nat.le_of_ble_eq_true rfl) ?_
  intro F hF
  have hG0 := hG
  obtain ⟨h0, ⟨fv, h1, hfv⟩, h2, h3, hv⟩ := hG
  obtain ⟨r, h, e49, hr12, e52, hh⟩ := hok
  by_cases hr : r = 0
  · subst hr
    have et := sTurn_zero e49
    refine j_aload_n (q := 1) dX0_companyNow_0 rfl (by rfl) ?_
    refine o_callVi (q := 4) dX0_companyNow_1 rfl lX0_56 mwX0_turn mvX0_turn cn0 (by assumption) (by rfl) rfl (Nat.le_of_ble_eq_true (by rfl)) (by decide) (cG_turn E σ m hi a hG0) ?_
    refine j_istore_n (q := 5) dX0_companyNow_4 rfl (by decide) ?_
    refine j_aload_n (q := 6) dX0_companyNow_5 rfl (by rfl) ?_
    refine j_iload_n (q := 7) dX0_companyNow_6 rfl (by rfl) ?_
    refine o_callVi (q := 10) dX0_companyNow_7 rfl lX0_52 mwX0_hasRow mvX0_hasRow cn0 (by assumption) (by rfl) rfl (Nat.le_of_ble_eq_true (by rfl)) (by decide) (cG_hasRow E σ m hi a (sTurn (pgC m a)) hG0) ?_
    rw [et, e49, show sHas (nI 0) (-4) = 0 from by decide]
    refine j_if_eq (q := 13) (tgt := 22) dX0_companyNow_10 rfl (by decide) (fun h10 => ?_) (fun h10 => ?_)
    · refine j_iconst (q := 23) (v := 4) dX0_companyNow_22 rfl (by decide) ?_
      refine o_iret hF rfl dX0_companyNow_23 ?_
      exact ⟨by unfold sWho; rw [e49, if_pos (by decide)], rfl⟩
    · exact absurd rfl h10
  · have hr0 : 0 < r := by omega
    have et := sTurn_pos e49 hr12 e52 hh hr0
    have hlt := Nat.mod_lt h hr0
    have hix : gIdx (sTurn (pgC m a)) 12 (h % r) := by rw [et]; exact gIdx.of rfl (by omega) (by decide)
    have hs : sHas (pgC m a 49) (sTurn (pgC m a)) = 1 := by
      unfold sHas
      rw [et, e49, if_neg (nI_pos (by omega)), if_neg (nI_ge hlt (by omega))]
    refine j_aload_n (q := 1) dX0_companyNow_0 rfl (by rfl) ?_
    refine o_callVi (q := 4) dX0_companyNow_1 rfl lX0_56 mwX0_turn mvX0_turn cn0 (by assumption) (by rfl) rfl (Nat.le_of_ble_eq_true (by rfl)) (by decide) (cG_turn E σ m hi a hG0) ?_
    refine j_istore_n (q := 5) dX0_companyNow_4 rfl (by decide) ?_
    refine j_aload_n (q := 6) dX0_companyNow_5 rfl (by rfl) ?_
    refine j_iload_n (q := 7) dX0_companyNow_6 rfl (by rfl) ?_
    refine o_callVi (q := 10) dX0_companyNow_7 rfl lX0_52 mwX0_hasRow mvX0_hasRow cn0 (by assumption) (by rfl) rfl (Nat.le_of_ble_eq_true (by rfl)) (by decide) (cG_hasRow E σ m hi a (sTurn (pgC m a)) hG0) ?_
    rw [hs]
    refine j_if_eq (q := 13) (tgt := 22) dX0_companyNow_10 rfl (by decide) (fun h10 => ?_) (fun h10 => ?_)
    · exact absurd h10 (by decide)
    · refine j_aload_n (q := 14) dX0_companyNow_13 rfl (by rfl) ?_
      refine j_getr (q := 17) dX0_companyNow_14 rfl fX0_21 (by assumption) (by rfl) ?_
      refine j_iload_n (q := 18) dX0_companyNow_17 rfl (by rfl) ?_
      refine j_iaload (q := 19) dX0_companyNow_18 rfl (by assumption) (by assumption) ?_
      refine j_goto (tgt := 23) dX0_companyNow_19 (by decide) ?_
      refine o_iret hF rfl dX0_companyNow_23 ?_
      exact ⟨by unfold sWho; rw [e49, e52, nI_clamp (by omega), nI_clamp (by omega), if_neg hr, pg_c _ _ (by omega)], rfl⟩
/-- one geyser's hour, on its page -/
theorem cG_vent (E : gEv) (σ : gSg) (m : gMem) (hi a j : Nat) (g : Nat → Int32) (w cm : Int32) (hG : gG σ a) (hj : j < 4) : gCo E yX5_pass cX5_pass 4 (some .boolean) 1 [.ref (a + 4 + j), .int (sShr g j), .int w, .int (if nI j = cm then g 51 else 0)] σ (gP m a (hrJ j g w cm)) hi (gX (some (.int (if g (4 + j) + vF g w cm j ≤ vH g j then 1 else 0))) (gP m a (hrJ (j + 1) g w cm))) := by
  have hv := hG.2.2.2.2 j hj
  have h := cV_pass E σ (gP m a (hrJ j g w cm)) hi (a + 4 + j) (sShr g j) w (if nI j = cm then g 51 else 0) hv
  have e0 : (gP m a (hrJ j g w cm)).1 (a + 4 + j) 0 = g j := by rw [gP_some (gIxP_v a hj (by decide)), hrJ_ge (by omega)]; congr 1; omega
  have e1 : (gP m a (hrJ j g w cm)).1 (a + 4 + j) 1 = g (4 + j) := by rw [gP_some (gIxP_v a hj (by decide)), hrJ_ge (by omega)]
  have e2 : (gP m a (hrJ j g w cm)).1 (a + 4 + j) 2 = g (8 + j) := by rw [gP_some (gIxP_v a hj (by decide)), hrJ_ge (by omega)]
  have e3 : (gP m a (hrJ j g w cm)).1 (a + 4 + j) 3 = g (12 + j) := by rw [gP_some (gIxP_v a hj (by decide)), hrJ_own (by omega)]
  have e4 : (gP m a (hrJ j g w cm)).1 (a + 4 + j) 4 = g (16 + j) := by rw [gP_some (gIxP_v a hj (by decide)), hrJ_own (by omega)]
  have e5 : (gP m a (hrJ j g w cm)).1 (a + 4 + j) 5 = g (20 + j) := by rw [gP_some (gIxP_v a hj (by decide)), hrJ_own (by omega)]
  rw [e0, e1, e2, e3, e4, e5] at h
  have hx : ∀ x y z : Int32, gVp (gP m a (hrJ j g w cm)) (a + 4 + j) x y z = gP m a (upd (upd (upd (hrJ j g w cm) (12 + j) x) (16 + j) y) (20 + j) z) := by
    intro x y z
    unfold gVp
    rw [gW_gP (gIxP_v a hj (by decide)), gW_gP (gIxP_v a hj (by decide)), gW_gP (gIxP_v a hj (by decide))]
  rw [hx, hx] at h
  rw [hrJ_succ hj]
  by_cases hu : g (4 + j) + vF g w cm j ≤ vH g j
  · have hu' : g (4 + j) + sFret (g j) (g (8 + j)) (g (16 + j)) w (if nI j = cm then g 51 else 0) ≤ sHeat (g (12 + j)) (sShr g j) := hu
    rw [if_pos hu'] at h
    rw [if_pos hu]
    rw [if_pos hu'] at h
    have x3 : vX g w cm j 3 = 0 := by unfold vX; rw [if_pos hu, if_pos rfl]
    have x4 : vX g w cm j 4 = 0 := by unfold vX; rw [if_pos hu, if_neg (by decide), if_pos rfl]
    have x5 : vX g w cm j 5 = g (20 + j) + 1 := by unfold vX; rw [if_pos hu, if_neg (by decide), if_neg (by decide)]
    rw [x3, x4, x5]
    exact h
  · have hu' : ¬ g (4 + j) + sFret (g j) (g (8 + j)) (g (16 + j)) w (if nI j = cm then g 51 else 0) ≤ sHeat (g (12 + j)) (sShr g j) := hu
    rw [if_neg hu'] at h
    rw [if_neg hu]
    rw [if_neg hu'] at h
    have x3 : vX g w cm j 3 = vH g j := by unfold vX; rw [if_neg hu, if_pos rfl]
    have x4 : vX g w cm j 4 = vF g w cm j := by unfold vX; rw [if_neg hu, if_neg (by decide), if_pos rfl]
    have x5 : vX g w cm j 5 = g (20 + j) := by unfold vX; rw [if_neg hu, if_neg (by decide), if_neg (by decide)]
    rw [x3, x4, x5]
    exact h
theorem cG_pass (E : gEv) (σ : gSg) (m : gMem) (hi a : Nat) (w cm : Int32) (hG : gG σ a) (hok : okC (pgC m a)) : gCo E yX0_pass cX0_pass 5 (some .int) 2 [.ref a, .int w, .int cm] σ m hi (gX (some (.int (hrU (pgC m a) w cm))) (gP m a (hr (pgC m a) w cm))) := by
  refine gCo.of mwX0_pass (Nat.le_of_ble_eq_true rfl) ?_
  intro F hF
  have hG0 := hG
  obtain ⟨h0, ⟨fv, h1, hfv⟩, h2, h3, hv⟩ := hG
  obtain ⟨c, hc, hc4⟩ := hok
  have hcn : cnt (pgC m a) = c := by unfold cnt; rw [hc]; exact nI_clamp (by omega)
  have K5 : ∀ n j : Nat, j + n = c → (gJ E yX0_pass cX0_pass 5 (some .int) (gRm 2 0 0) F 5 ([some (.ref a), some (.int w), some (.int cm), some (.int (hrUj (pgC m a) w cm j)), some (.int (nI j))]) ([]) 0 0 σ (gP m a (hrJ j (pgC m a) w cm)) hi) := by
    intro n
    induction n with
    | zero =>
      intro j hj
      have hjc : j = c := by omega
      refine j_iload (q := 7) dX0_pass_5 rfl (by rfl) ?_
      refine j_aload_n (q := 8) dX0_pass_7 rfl (by rfl) ?_
      refine j_geti (q := 11) dX0_pass_8 rfl fX0_32 (by assumption) (by rfl) ?_
      rw [gP_some (gIxP_n3 a), hrJ_ge (by omega), hc]
      refine j_icmp_ge (q := 14) (tgt := 61) dX0_pass_11 rfl (by decide) (fun h11 => ?_) (fun h11 => ?_)
      · refine j_aload_n (q := 62) dX0_pass_61 rfl (by rfl) ?_
        refine j_dup (q := 63) dX0_pass_62 rfl rfl ?_
        refine j_geti (q := 66) dX0_pass_63 rfl fX0_38 (by assumption) (by rfl) ?_
        refine j_iconst (q := 67) (v := 1) dX0_pass_66 rfl (by decide) ?_
        refine j_iadd (q := 68) dX0_pass_67 rfl ?_
        refine j_puti (q := 71) dX0_pass_68 rfl fX0_38 p0_5 (by assumption) (by rfl) ?_
        refine j_iload_n (q := 72) dX0_pass_71 rfl (by rfl) ?_
        refine o_iret hF rfl dX0_pass_72 ?_
        refine ⟨by rw [hrU, hcn, hjc], ?_⟩
        rw [gP_some (gIxP_n5 a), hrJ_ge (by omega), gW_gP (gIxP_n5 a)]
        unfold hr
        rw [hcn, hjc]
      · exact absurd (nI_le (by omega) (by omega)) h11
    | succ n ih =>
      intro j hj
      have hjc : j < c := by omega
      have hj4 : j < 4 := by omega
      have hix : gIdx (nI j) 4 j := gIdx.of rfl hj4 (by decide)
      have hfj := hfv j hj4
      have hvj := hv j hj4
      have hsh := cG_shareOf E σ (gP m a (hrJ j (pgC m a) w cm)) hi a j hG0 (by
        rw [pgC_gP (fun i hi' => by rw [hrJ_ge (by omega)]; exact pgC_0 m a i hi'), hrJ_ge (by omega), hc]
        exact nI_nle (by omega) (by omega))
      rw [pgC_gP (fun i hi' => by rw [hrJ_ge (by omega)]; exact pgC_0 m a i hi')] at hsh
      have esh : sShr (hrJ j (pgC m a) w cm) j = sShr (pgC m a) j := by
        unfold sShr
        rw [hrJ_ge (i := 50) (by omega), hrJ_ge (i := 24) (by omega)]
      rw [esh] at hsh
      refine j_iload (q := 7) dX0_pass_5 rfl (by rfl) ?_
      refine j_aload_n (q := 8) dX0_pass_7 rfl (by rfl) ?_
      refine j_geti (q := 11) dX0_pass_8 rfl fX0_32 (by assumption) (by rfl) ?_
      rw [gP_some (gIxP_n3 a), hrJ_ge (by omega), hc]
      refine j_icmp_ge (q := 14) (tgt := 61) dX0_pass_11 rfl (by decide) (fun h11 => ?_) (fun h11 => ?_)
      · exact absurd h11 (nI_ge hjc (by omega))
      · have K55 : ∀ u : Int32, u = hrUj (pgC m a) w cm (j + 1) → (gJ E yX0_pass cX0_pass 5 (some .int) (gRm 2 0 0) F 55 ([some (.ref a), some (.int w), some (.int cm), some (.int u), some (.int (nI j))]) ([]) 0 0 σ (gP m a (hrJ (j + 1) (pgC m a) w cm)) hi) := by
          intro u hu
          subst hu
          refine j_iinc (q := 58) dX0_pass_55 rfl (by rfl) (by first | exact nI_inc _ | rfl) (by decide) ?_
          refine j_goto (tgt := 5) dX0_pass_58 (by decide) ?_
          exact ih (j + 1) (by omega)
        have K42 : ∀ cal : Int32, cal = (if nI j = cm then pgC m a 51 else 0) → (gJ E yX0_pass cX0_pass 5 (some .int) (gRm 2 0 0) F 42 ([some (.ref a), some (.int w), some (.int cm), some (.int (hrUj (pgC m a) w cm j)), some (.int (nI j))]) ([.int cal, .int w, .int (sShr (pgC m a) j), .ref (a + 4 + j)]) 0 0 σ (gP m a (hrJ j (pgC m a) w cm)) hi) := by
          intro cal hcal
          subst hcal
          refine o_callVi (q := 45) dX0_pass_42 rfl lX0_64 mwX5_pass mvX5_pass cn5 (by assumption) (by rfl) rfl (Nat.le_of_ble_eq_true (by rfl)) (by decide) (cG_vent E σ m hi a j (pgC m a) w cm hG0 hj4) ?_
          by_cases hu : pgC m a (4 + j) + vF (pgC m a) w cm j ≤ vH (pgC m a) j
          · rw [if_pos hu]
            refine j_if_eq (q := 48) (tgt := 55) dX0_pass_45 rfl (by decide) (fun h45 => ?_) (fun h45 => ?_)
            · exact absurd h45 (by decide)
            · refine j_iload_n (q := 49) dX0_pass_48 rfl (by rfl) ?_
              refine j_iconst (q := 50) (v := 1) dX0_pass_49 rfl (by decide) ?_
              refine j_iload (q := 52) dX0_pass_50 rfl (by rfl) ?_
              refine j_ishl (q := 53) dX0_pass_52 rfl ?_
              refine j_ior (q := 54) dX0_pass_53 rfl ?_
              refine j_istore_n (q := 55) dX0_pass_54 rfl (by decide) ?_
              exact K55 _ (by rw [hrUj, if_pos hu])
          · rw [if_neg hu]
            refine j_if_eq (q := 48) (tgt := 55) dX0_pass_45 rfl (by decide) (fun h45 => ?_) (fun h45 => ?_)
            · exact K55 _ (by rw [hrUj, if_neg hu])
            · exact absurd rfl h45
        refine j_aload_n (q := 15) dX0_pass_14 rfl (by rfl) ?_
        refine j_getr (q := 18) dX0_pass_15 rfl fX0_11 (by assumption) (by rfl) ?_
        refine j_iload (q := 20) dX0_pass_18 rfl (by rfl) ?_
        refine j_aaload (q := 21) dX0_pass_20 rfl (by assumption) (by decide) (by assumption) (by assumption) ?_
        refine j_aload_n (q := 22) dX0_pass_21 rfl (by rfl) ?_
        refine j_iload (q := 24) dX0_pass_22 rfl (by rfl) ?_
        refine o_callVi (q := 27) dX0_pass_24 rfl lX0_60 mwX0_shareOf mvX0_shareOf cn0 (by assumption) (by rfl) rfl (Nat.le_of_ble_eq_true (by rfl)) (by decide) (hsh) ?_
        refine j_iload_n (q := 28) dX0_pass_27 rfl (by rfl) ?_
        refine j_iload (q := 30) dX0_pass_28 rfl (by rfl) ?_
        refine j_iload_n (q := 31) dX0_pass_30 rfl (by rfl) ?_
        refine j_icmp_ne (q := 34) (tgt := 41) dX0_pass_31 rfl (by decide) (fun h31 => ?_) (fun h31 => ?_)
        · refine j_iconst (q := 42) (v := 0) dX0_pass_41 rfl (by decide) ?_
          exact K42 _ (by rw [if_neg h31])
        · refine j_aload_n (q := 35) dX0_pass_34 rfl (by rfl) ?_
          refine j_geti (q := 38) dX0_pass_35 rfl fX0_28 (by assumption) (by rfl) ?_
          refine j_goto (tgt := 42) dX0_pass_38 (by decide) ?_
          rw [gP_some (gIxP_n7 a), hrJ_ge (by omega)]
          exact K42 _ (by rw [if_pos h31])
  refine j_iconst (q := 1) (v := 0) dX0_pass_0 rfl (by decide) ?_
  refine j_istore_n (q := 2) dX0_pass_1 rfl (by decide) ?_
  refine j_iconst (q := 3) (v := 0) dX0_pass_2 rfl (by decide) ?_
  refine j_istore (q := 5) dX0_pass_3 rfl (by decide) ?_
  refine gJ.mm ?_ (K5 c 0 (by omega))
  rw [hrJ_0, gP_pgC]
theorem cG_passByPlan (E : gEv) (σ : gSg) (m : gMem) (hi a : Nat) (hG : gG σ a) (hok : okC (pgC m a)) (hor : okR (pgC m a)) : gCo E yX0_passByPlan cX0_passByPlan 1 (some .int) 3 [.ref a] σ m hi (gX (some (.int (hrU (pgC m a) (sWat (pgC m a)) (sWho (pgC m a))))) (gP m a (hr (pgC m a) (sWat (pgC m a)) (sWho (pgC m a))))) := by
  refine gCo.of mwX0_passByPlan (Nat.le_of_ble_eq_true rfl) ?_
  intro F hF
  have h0 := hG.1
  refine j_aload_n (q := 1) dX0_passByPlan_0 rfl (by rfl) ?_
  refine j_aload_n (q := 2) dX0_passByPlan_1 rfl (by rfl) ?_
  refine o_callVi (q := 5) dX0_passByPlan_2 rfl lX0_68 mwX0_watchersNow mvX0_watchersNow cn0 (by assumption) (by rfl) rfl (Nat.le_of_ble_eq_true (by rfl)) (by decide) (cG_watchersNow E σ m hi a hG hor) ?_
  refine j_aload_n (q := 6) dX0_passByPlan_5 rfl (by rfl) ?_
  refine o_callVi (q := 9) dX0_passByPlan_6 rfl lX0_71 mwX0_companyNow mvX0_companyNow cn0 (by assumption) (by rfl) rfl (Nat.le_of_ble_eq_true (by rfl)) (by decide) (cG_companyNow E σ m hi a hG hor) ?_
  refine o_callVi (q := 12) dX0_passByPlan_9 rfl lX0_74 mwX0_pass mvX0_pass cn0 (by assumption) (by rfl) rfl (Nat.le_of_ble_eq_true (by rfl)) (by decide) (cG_pass E σ m hi a _ _ hG hok) ?_
  refine o_iret hF rfl dX0_passByPlan_12 ?_
  exact ⟨rfl, rfl⟩
