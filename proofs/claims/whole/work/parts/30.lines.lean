/-! the class's reader: numbers, stops, names -/
theorem RS.c {f f' : Nat → Int32} {R : pT} (h : RS f R) (hk : ∀ k, 1 ≤ k → k ≤ 6 → f' k = f k) : RS f' R := by
  match R, h with
  | .inl e, h => exact ⟨by rw [hk 5 (by omega) (by omega)]; exact h.1, by rw [hk 6 (by omega) (by omega)]; exact h.2⟩
  | .inr t, h => exact ⟨by rw [hk 5 (by omega) (by omega)]; exact h.1, by rw [hk 2 (by omega) (by omega)]; exact h.2.1, by rw [hk 3 (by omega) (by omega)]; exact h.2.2.1, fun q => by rw [hk 1 (by omega) (by omega)]; exact h.2.2.2.1 q, fun q => by rw [hk 4 (by omega) (by omega)]; exact h.2.2.2.2 q⟩
theorem cR_failAt (E : gEv) (σ : gSg) (m : gMem) (hi x c : Nat) (t : tkT) (hN : gN σ x) (hR : RS (m.1 (x + 20)) (.inr t)) : gCo E yX1_fail cX1_fail 3 (none) 0 [.ref (x + 20), .int (nI c), .int (nI t.2.1)] σ m hi (fun v' m' => v' = none ∧ rdr x m m' ∧ RS (m'.1 (x + 20)) (.inl (c, t.2.1))) := by
  have h := cR_fail E σ m hi x (m.1 (x + 20)) (nI c) (nI t.2.1) hN
  rw [mR_self, if_pos hR.1] at h
  refine gCo.wk h ?_
  rintro v m' ⟨rfl, rfl⟩
  refine ⟨rfl, ⟨fun q hq => mR_n hq _, ?_, ?_⟩, ?_⟩
  · rw [mR_a, pk_un (by decide), pk_un (by decide)]
  · rw [mR_a, pk_un (by decide), pk_un (by decide)]
  · rw [mR_a]
    exact ⟨by rw [pk_un (by decide), pk_us], by rw [pk_us]⟩
theorem cR_passName (E : gEv) (σ : gSg) (m : gMem) (hi x L : Nat) (R : pT) (hN : gN σ x) (hT : okT m x L) (hR : RS (m.1 (x + 20)) R) (hk : okTk L R) (hne : ∀ t, R = .inr t → t.1 ≠ 0) : gCo E yX1_passName cX1_passName 1 (none) 2 [.ref (x + 20)] σ m hi (fun v' m' => v' = none ∧ rdr x m m' ∧ RS (m'.1 (x + 20)) (namR (m.1 (x + 22)) L R)) := by
  refine gCo.of mwX1_passName (Nat.le_of_ble_eq_true rfl) ?_
  intro F hF
  have h20 := hN.2.2.2.2.2.2.1
  match R, hR, hk, hne with
  | .inl e, hR, hk, hne =>
    refine j_aload_n (q := 1) dX1_passName_0 rfl (by rfl) ?_
    refine j_geti (q := 4) dX1_passName_1 rfl fX1_22 (by assumption) (by rfl) ?_
    rw [hR.1]
    refine j_if_ne (q := 7) (tgt := 11) dX1_passName_4 rfl (by decide) (fun h4 => ?_) (fun h4 => ?_)
    · refine o_vret hF rfl dX1_passName_11 ?_
      exact ⟨rfl, rdr.rf x m, hR⟩
    · exact absurd (by first | exact h4 | exact Decidable.not_not.mp h4) (nI_ne0 (by have := hk.2.1; omega) (by have := hk.1; omega))
  | .inr t, hR, hk, hne =>
    have h0 := hne t rfl
    refine j_aload_n (q := 1) dX1_passName_0 rfl (by rfl) ?_
    refine j_geti (q := 4) dX1_passName_1 rfl fX1_22 (by assumption) (by rfl) ?_
    rw [hR.1]
    refine j_if_ne (q := 7) (tgt := 11) dX1_passName_4 rfl (by decide) (fun h4 => ?_) (fun h4 => ?_)
    · exact absurd rfl h4
    · refine j_aload_n (q := 8) dX1_passName_7 rfl (by rfl) ?_
      refine o_callVx (q := 11) dX1_passName_8 rfl lX1_40 mwX1_advance mvX1_advance cn1 (by assumption) (by rfl) rfl (Nat.le_of_ble_eq_true (by rfl)) (by first | decide | omega) (cR_advance E σ m hi x L t.2.2.1 (m.1 (x + 20)) hN hT rfl (hR.2.2.2.1 h0) (hk.2.2 h0).2 hR.1) ?_
      rintro _ m1 ⟨rfl, q1, q2⟩
      refine o_vret hF rfl dX1_passName_11 ?_
      exact ⟨rfl, q1, q2⟩
theorem cR_takeNumber (E : gEv) (σ : gSg) (m : gMem) (hi x L : Nat) (lo hig : Int32) (R : pT) (hN : gN σ x) (hT : okT m x L) (hR : RS (m.1 (x + 20)) R) (hk : okTk L R) : gCo E yX1_takeNumber cX1_takeNumber 4 (some .int) 2 [.ref (x + 20), .int lo, .int hig] σ m hi (fun v' m' => v' = some (.int (numV lo hig R)) ∧ rdr x m m' ∧ RS (m'.1 (x + 20)) (numR (m.1 (x + 22)) L lo hig R)) := by
  refine gCo.of mwX1_takeNumber (Nat.le_of_ble_eq_true rfl) ?_
  intro F hF
  have h20 := hN.2.2.2.2.2.2.1
  match R, hR, hk with
  | .inl e, hR, hk =>
    refine j_aload_n (q := 1) dX1_takeNumber_0 rfl (by rfl) ?_
    refine j_geti (q := 4) dX1_takeNumber_1 rfl fX1_22 (by assumption) (by rfl) ?_
    rw [hR.1]
    refine j_if_eq (q := 7) (tgt := 9) dX1_takeNumber_4 rfl (by decide) (fun h4 => ?_) (fun h4 => ?_)
    · exact absurd (by first | exact h4 | exact Decidable.not_not.mp h4) (nI_ne0 (by have := hk.2.1; omega) (by have := hk.1; omega))
    · refine j_iload_n (q := 8) dX1_takeNumber_7 rfl (by rfl) ?_
      refine o_iret hF rfl dX1_takeNumber_8 ?_
      exact ⟨rfl, rdr.rf x m, hR⟩
  | .inr t, hR, hk =>
    refine j_aload_n (q := 1) dX1_takeNumber_0 rfl (by rfl) ?_
    refine j_geti (q := 4) dX1_takeNumber_1 rfl fX1_22 (by assumption) (by rfl) ?_
    rw [hR.1]
    refine j_if_eq (q := 7) (tgt := 9) dX1_takeNumber_4 rfl (by decide) (fun h4 => ?_) (fun h4 => ?_)
    · refine j_aload_n (q := 10) dX1_takeNumber_9 rfl (by rfl) ?_
      refine j_geti (q := 13) dX1_takeNumber_10 rfl fX1_43 (by assumption) (by rfl) ?_
      refine j_iconst (q := 14) (v := 2) dX1_takeNumber_13 rfl (by decide) ?_
      rw [hR.2.1]
      refine j_icmp_eq (q := 17) (tgt := 28) dX1_takeNumber_14 rfl (by decide) (fun h14 => ?_) (fun h14 => ?_)
      · have h2 : t.1 = 2 := nI_inj (b := 2) (by have := hk.1; omega) (by omega) h14
        have e2 : numR (m.1 (x + 22)) L lo hig (.inr t) = if lo ≤ t.2.2.2 ∧ t.2.2.2 ≤ hig then nxt (m.1 (x + 22)) L t.2.2.1 else .inl (3, t.2.1) := if_pos h2
        have e3 : numV lo hig (.inr t) = if lo ≤ t.2.2.2 ∧ t.2.2.2 ≤ hig then t.2.2.2 else lo := if_pos h2
        rw [e2, e3] at hF
        refine j_aload_n (q := 29) dX1_takeNumber_28 rfl (by rfl) ?_
        refine j_geti (q := 32) dX1_takeNumber_29 rfl fX1_104 (by assumption) (by rfl) ?_
        rw [hR.2.2.2.2 h2]
        refine j_iload_n (q := 33) dX1_takeNumber_32 rfl (by rfl) ?_
        refine j_iload_n (q := 34) dX1_takeNumber_33 rfl (by rfl) ?_
        refine o_callSNi (q := 37) dX1_takeNumber_34 rfl lX1_107 mwX6_within msX6_within (by rfl) rfl (Nat.le_of_ble_eq_true (by rfl)) (by first | decide | omega) (cX_within E σ m hi _ _ _) ?_
        refine j_if_ne (q := 40) (tgt := 51) dX1_takeNumber_37 rfl (by decide) (fun h37 => ?_) (fun h37 => ?_)
        · rw [if_pos (sWi_1 h37), if_pos (sWi_1 h37)] at hF
          have h0 : t.1 ≠ 0 := by omega
          refine j_aload_n (q := 52) dX1_takeNumber_51 rfl (by rfl) ?_
          refine j_geti (q := 55) dX1_takeNumber_52 rfl fX1_104 (by assumption) (by rfl) ?_
          rw [hR.2.2.2.2 h2]
          refine j_istore_n (q := 56) dX1_takeNumber_55 rfl (by decide) ?_
          refine j_aload_n (q := 57) dX1_takeNumber_56 rfl (by rfl) ?_
          refine o_callVx (q := 60) dX1_takeNumber_57 rfl lX1_40 mwX1_advance mvX1_advance cn1 (by assumption) (by rfl) rfl (Nat.le_of_ble_eq_true (by rfl)) (by first | decide | omega) (cR_advance E σ m hi x L t.2.2.1 (m.1 (x + 20)) hN hT rfl (hR.2.2.2.1 h0) (hk.2.2 h0).2 hR.1) ?_
          rintro _ m1 ⟨rfl, q1, q2⟩
          refine j_iload_n (q := 61) dX1_takeNumber_60 rfl (by rfl) ?_
          refine o_iret hF rfl dX1_takeNumber_61 ?_
          exact ⟨rfl, q1, q2⟩
        · rw [if_neg (sWi_0 h37), if_neg (sWi_0 h37)] at hF
          refine j_aload_n (q := 41) dX1_takeNumber_40 rfl (by rfl) ?_
          refine j_iconst (q := 42) (v := 3) dX1_takeNumber_41 rfl (by decide) ?_
          refine j_aload_n (q := 43) dX1_takeNumber_42 rfl (by rfl) ?_
          refine j_geti (q := 46) dX1_takeNumber_43 rfl fX1_54 (by assumption) (by rfl) ?_
          rw [hR.2.2.1]
          refine o_callVx (q := 49) dX1_takeNumber_46 rfl lX1_57 mwX1_fail mvX1_fail cn1 (by assumption) (by rfl) rfl (Nat.le_of_ble_eq_true (by rfl)) (by first | decide | omega) (cR_failAt E σ m hi x 3 t hN hR) ?_
          rintro _ m1 ⟨rfl, q1, q2⟩
          refine j_iload_n (q := 50) dX1_takeNumber_49 rfl (by rfl) ?_
          refine o_iret hF rfl dX1_takeNumber_50 ?_
          exact ⟨rfl, q1, q2⟩
      · have h2 : ¬ t.1 = 2 := fun q => h14 (by rw [q]; rfl)
        have e2 : numR (m.1 (x + 22)) L lo hig (.inr t) = .inl (2, t.2.1) := if_neg h2
        have e3 : numV lo hig (.inr t) = lo := if_neg h2
        rw [e2, e3] at hF
        refine j_aload_n (q := 18) dX1_takeNumber_17 rfl (by rfl) ?_
        refine j_iconst (q := 19) (v := 2) dX1_takeNumber_18 rfl (by decide) ?_
        refine j_aload_n (q := 20) dX1_takeNumber_19 rfl (by rfl) ?_
        refine j_geti (q := 23) dX1_takeNumber_20 rfl fX1_54 (by assumption) (by rfl) ?_
        rw [hR.2.2.1]
        refine o_callVx (q := 26) dX1_takeNumber_23 rfl lX1_57 mwX1_fail mvX1_fail cn1 (by assumption) (by rfl) rfl (Nat.le_of_ble_eq_true (by rfl)) (by first | decide | omega) (cR_failAt E σ m hi x 2 t hN hR) ?_
        rintro _ m1 ⟨rfl, q1, q2⟩
        refine j_iload_n (q := 27) dX1_takeNumber_26 rfl (by rfl) ?_
        refine o_iret hF rfl dX1_takeNumber_27 ?_
        exact ⟨rfl, q1, q2⟩
    · exact absurd rfl h4
theorem cR_takeStop (E : gEv) (σ : gSg) (m : gMem) (hi x L : Nat) (R : pT) (hN : gN σ x) (hT : okT m x L) (hR : RS (m.1 (x + 20)) R) (hk : okTk L R) : gCo E yX1_takeStop cX1_takeStop 1 (none) 2 [.ref (x + 20)] σ m hi (fun v' m' => v' = none ∧ rdr x m m' ∧ RS (m'.1 (x + 20)) (stpR (m.1 (x + 22)) L R)) := by
  refine gCo.of mwX1_takeStop (Nat.le_of_ble_eq_true rfl) ?_
  intro F hF
  have h20 := hN.2.2.2.2.2.2.1
  match R, hR, hk with
  | .inl e, hR, hk =>
    have hn := nI_ne0 (n := e.1) (by have := hk.2.1; omega) (by have := hk.1; omega)
    refine j_aload_n (q := 1) dX1_takeStop_0 rfl (by rfl) ?_
    refine j_geti (q := 4) dX1_takeStop_1 rfl fX1_22 (by assumption) (by rfl) ?_
    rw [hR.1]
    refine j_if_ne (q := 7) (tgt := 24) dX1_takeStop_4 rfl (by decide) (fun h4 => ?_) (fun h4 => ?_)
    · refine j_aload_n (q := 25) dX1_takeStop_24 rfl (by rfl) ?_
      refine j_geti (q := 28) dX1_takeStop_25 rfl fX1_22 (by assumption) (by rfl) ?_
      rw [hR.1]
      refine j_if_ne (q := 31) (tgt := 35) dX1_takeStop_28 rfl (by decide) (fun h28 => ?_) (fun h28 => ?_)
      · refine o_vret hF rfl dX1_takeStop_35 ?_
        exact ⟨rfl, rdr.rf x m, hR⟩
      · exact absurd (by first | exact h28 | exact Decidable.not_not.mp h28) hn
    · exact absurd (by first | exact h4 | exact Decidable.not_not.mp h4) hn
  | .inr t, hR, hk =>
    refine j_aload_n (q := 1) dX1_takeStop_0 rfl (by rfl) ?_
    refine j_geti (q := 4) dX1_takeStop_1 rfl fX1_22 (by assumption) (by rfl) ?_
    rw [hR.1]
    refine j_if_ne (q := 7) (tgt := 24) dX1_takeStop_4 rfl (by decide) (fun h4 => ?_) (fun h4 => ?_)
    · exact absurd rfl h4
    refine j_aload_n (q := 8) dX1_takeStop_7 rfl (by rfl) ?_
    refine j_geti (q := 11) dX1_takeStop_8 rfl fX1_43 (by assumption) (by rfl) ?_
    refine j_iconst (q := 12) (v := 3) dX1_takeStop_11 rfl (by decide) ?_
    rw [hR.2.1]
    refine j_icmp_eq (q := 15) (tgt := 24) dX1_takeStop_12 rfl (by decide) (fun h12 => ?_) (fun h12 => ?_)
    · have h3 : t.1 = 3 := nI_inj (b := 3) (by have := hk.1; omega) (by omega) h12
      have h0 : t.1 ≠ 0 := by omega
      have e2 : stpR (m.1 (x + 22)) L (.inr t) = nxt (m.1 (x + 22)) L t.2.2.1 := if_pos h3
      rw [e2] at hF
      refine j_aload_n (q := 25) dX1_takeStop_24 rfl (by rfl) ?_
      refine j_geti (q := 28) dX1_takeStop_25 rfl fX1_22 (by assumption) (by rfl) ?_
      rw [hR.1]
      refine j_if_ne (q := 31) (tgt := 35) dX1_takeStop_28 rfl (by decide) (fun h28 => ?_) (fun h28 => ?_)
      · exact absurd rfl h28
      refine j_aload_n (q := 32) dX1_takeStop_31 rfl (by rfl) ?_
      refine o_callVx (q := 35) dX1_takeStop_32 rfl lX1_40 mwX1_advance mvX1_advance cn1 (by assumption) (by rfl) rfl (Nat.le_of_ble_eq_true (by rfl)) (by first | decide | omega) (cR_advance E σ m hi x L t.2.2.1 (m.1 (x + 20)) hN hT rfl (hR.2.2.2.1 h0) (hk.2.2 h0).2 hR.1) ?_
      rintro _ m1 ⟨rfl, q1, q2⟩
      refine o_vret hF rfl dX1_takeStop_35 ?_
      exact ⟨rfl, q1, q2⟩
    · have h3 : ¬ t.1 = 3 := fun q => h12 (by rw [q]; rfl)
      have e2 : stpR (m.1 (x + 22)) L (.inr t) = .inl (2, t.2.1) := if_neg h3
      rw [e2] at hF
      refine j_aload_n (q := 16) dX1_takeStop_15 rfl (by rfl) ?_
      refine j_iconst (q := 17) (v := 2) dX1_takeStop_16 rfl (by decide) ?_
      refine j_aload_n (q := 18) dX1_takeStop_17 rfl (by rfl) ?_
      refine j_geti (q := 21) dX1_takeStop_18 rfl fX1_54 (by assumption) (by rfl) ?_
      rw [hR.2.2.1]
      refine o_callVx (q := 24) dX1_takeStop_21 rfl lX1_57 mwX1_fail mvX1_fail cn1 (by assumption) (by rfl) rfl (Nat.le_of_ble_eq_true (by rfl)) (by first | decide | omega) (cR_failAt E σ m hi x 2 t hN hR) ?_
      rintro _ m1 ⟨rfl, q1, q2⟩
      refine j_aload_n (q := 25) dX1_takeStop_24 rfl (by rfl) ?_
      refine j_geti (q := 28) dX1_takeStop_25 rfl fX1_22 (by assumption) (by rfl) ?_
      rw [q2.1]
      refine j_if_ne (q := 31) (tgt := 35) dX1_takeStop_28 rfl (by decide) (fun h28 => ?_) (fun h28 => ?_)
      · refine o_vret hF rfl dX1_takeStop_35 ?_
        exact ⟨rfl, q1, q2⟩
      · exact absurd (by first | exact h28 | exact Decidable.not_not.mp h28) (show ¬ nI 2 = 0 by decide)
/-! names -/
abbrev nmE (B : Nat → Int32) (s e i : Nat) : Prop := e - s = gLen.getD i 0 ∧ ∀ j, j < gLen.getD i 0 → B (s + j) = (gByt.getD i []).getD j 0
theorem cR_nameIs (E : gEv) (σ : gSg) (m : gMem) (hi x L s e i : Nat) (hN : gN σ x) (hT : okT m x L) (h7 : i < 7) (h1 : m.1 (x + 20) 1 = nI e) (h3 : m.1 (x + 20) 3 = nI s) (hse : s ≤ e) (heL : e ≤ L) : gCo E yX1_nameIs cX1_nameIs 3 (some .boolean) 4 [.ref (x + 20), .ref (gAd E i)] σ m hi (gX (some (.int (if nmE (m.1 (x + 22)) s e i then 1 else 0))) m) := by
  refine gCo.of mwX1_nameIs (Nat.le_of_ble_eq_true rfl) ?_
  intro F hF
  have hN0 := hN
  obtain ⟨-, -, -, -, -, -, h20, h21, h22, -⟩ := hN
  have hL := hT.2.1
  have hl := gLen_lt i h7
  have hLe : ∀ mm : gMem, gCo E yJ0_length_8abf5 cJ0_length_8abf5 1 (some .int) 1 [.ref (gAd E i)] σ mm hi (gX (some (.int (nI (gLen.getD i 0)))) mm) := fun mm => cJ_length E σ mm hi i h7
  refine j_aload_n (q := 1) dX1_nameIs_0 rfl (by rfl) ?_
  refine j_geti (q := 4) dX1_nameIs_1 rfl fX1_18 (by assumption) (by rfl) ?_
  refine j_aload_n (q := 5) dX1_nameIs_4 rfl (by rfl) ?_
  refine j_geti (q := 8) dX1_nameIs_5 rfl fX1_54 (by assumption) (by rfl) ?_
  rw [h1, h3]
  refine j_isub (q := 9) dX1_nameIs_8 rfl ?_
  refine j_aload_n (q := 10) dX1_nameIs_9 rfl (by rfl) ?_
  rw [pk_sub hse]
  refine o_callWi (q := 13) dX1_nameIs_10 rfl lX1_137 mwJ0_length_8abf5 mvJ0_length_8abf5 rfl h7 (As := []) (by rfl) rfl (Nat.le_of_ble_eq_true (by rfl)) (by decide) (hLe m) ?_
  refine j_icmp_eq (q := 16) (tgt := 18) dX1_nameIs_13 rfl (by decide) (fun h13 => ?_) (fun h13 => ?_)
  · have hlen : e - s = gLen.getD i 0 := nI_inj (by omega) (by omega) h13
    have K20 : ∀ (n j : Nat), j + n = gLen.getD i 0 → (∀ k, k < j → m.1 (x + 22) (s + k) = (gByt.getD i []).getD k 0) → (gJ E yX1_nameIs cX1_nameIs 3 (some .boolean) (gRm 4 0 0) F 20 ([some (.ref (x + 20)), some (.ref (gAd E i)), some (.int (nI j))]) ([]) 0 0 σ (m) hi) := by
      intro n
      induction n with
      | zero =>
        intro j hj hall
        have : j = gLen.getD i 0 := by omega
        subst this
        refine j_iload_n (q := 21) dX1_nameIs_20 rfl (by rfl) ?_
        refine j_aload_n (q := 22) dX1_nameIs_21 rfl (by rfl) ?_
        refine o_callWi (q := 25) dX1_nameIs_22 rfl lX1_137 mwJ0_length_8abf5 mvJ0_length_8abf5 rfl h7 (As := []) (by rfl) rfl (Nat.le_of_ble_eq_true (by rfl)) (by decide) (hLe m) ?_
        refine j_icmp_ge (q := 28) (tgt := 57) dX1_nameIs_25 rfl (by decide) (fun h25 => ?_) (fun h25 => ?_)
        · refine j_iconst (q := 58) (v := 1) dX1_nameIs_57 rfl (by decide) ?_
          refine o_zret hF rfl dX1_nameIs_58 (by first | assumption | exact Or.inl rfl | exact Or.inr rfl) ?_
          exact ⟨by rw [if_pos ⟨hlen, hall⟩], rfl⟩
        · exact absurd (Int32.le_refl _) h25
      | succ n ih =>
        intro j hj hall
        refine j_iload_n (q := 21) dX1_nameIs_20 rfl (by rfl) ?_
        refine j_aload_n (q := 22) dX1_nameIs_21 rfl (by rfl) ?_
        refine o_callWi (q := 25) dX1_nameIs_22 rfl lX1_137 mwJ0_length_8abf5 mvJ0_length_8abf5 rfl h7 (As := []) (by rfl) rfl (Nat.le_of_ble_eq_true (by rfl)) (by decide) (hLe m) ?_
        refine j_icmp_ge (q := 28) (tgt := 57) dX1_nameIs_25 rfl (by decide) (fun h25 => ?_) (fun h25 => ?_)
        · exact absurd h25 (nI_ge (by omega) (by omega))
        refine j_aload_n (q := 29) dX1_nameIs_28 rfl (by rfl) ?_
        refine j_getr (q := 32) dX1_nameIs_29 rfl fX1_12 (by assumption) (by rfl) ?_
        refine j_aload_n (q := 33) dX1_nameIs_32 rfl (by rfl) ?_
        refine j_geti (q := 36) dX1_nameIs_33 rfl fX1_54 (by assumption) (by rfl) ?_
        refine j_iload_n (q := 37) dX1_nameIs_36 rfl (by rfl) ?_
        rw [h3]
        refine j_iadd (q := 38) dX1_nameIs_37 rfl ?_
        rw [nI_add]
        refine o_callVi (q := 41) dX1_nameIs_38 rfl lX1_110 mwX4_byteAt mvX4_byteAt cn4 (by assumption) (by rfl) rfl (Nat.le_of_ble_eq_true (by rfl)) (by first | decide | omega) (cT_byteAt E σ m hi x L (s + j) hN0 hT (by omega)) ?_
        rw [bA_lt (show s + j < L by omega)]
        refine j_aload_n (q := 42) dX1_nameIs_41 rfl (by rfl) ?_
        refine j_iload_n (q := 43) dX1_nameIs_42 rfl (by rfl) ?_
        refine o_callWi (q := 46) dX1_nameIs_43 rfl lX1_142 mwJ0_charAt_5068e mvJ0_charAt_5068e rfl h7 (As := [.int (nI j)]) (by rfl) rfl (Nat.le_of_ble_eq_true (by rfl)) (by decide) (cJ_charAt E σ m hi i j h7 (by omega)) ?_
        refine j_icmp_eq (q := 49) (tgt := 51) dX1_nameIs_46 rfl (by decide) (fun h46 => ?_) (fun h46 => ?_)
        · refine j_iinc (q := 54) dX1_nameIs_51 rfl (by rfl) (by first | exact nI_inc _ | rfl) (by decide) ?_
          refine j_goto (tgt := 20) dX1_nameIs_54 (by decide) ?_
          refine ih (j + 1) (by omega) (fun k hk => ?_)
          by_cases hkj : k = j
          · subst hkj; exact h46
          · exact hall k (by omega)
        · refine j_iconst (q := 50) (v := 0) dX1_nameIs_49 rfl (by decide) ?_
          refine o_zret hF rfl dX1_nameIs_50 (by first | assumption | exact Or.inl rfl | exact Or.inr rfl) ?_
          exact ⟨by rw [if_neg (fun q => h46 (q.2 j (by omega)))], rfl⟩
    refine j_iconst (q := 19) (v := 0) dX1_nameIs_18 rfl (by decide) ?_
    refine j_istore_n (q := 20) dX1_nameIs_19 rfl (by decide) ?_
    exact K20 (gLen.getD i 0) 0 (by omega) (fun k hk => absurd hk (by omega))
  · refine j_iconst (q := 17) (v := 0) dX1_nameIs_16 rfl (by decide) ?_
    refine o_zret hF rfl dX1_nameIs_17 (by first | assumption | exact Or.inl rfl | exact Or.inr rfl) ?_
    exact ⟨by rw [if_neg (fun q => h13 (by rw [q.1]))], rfl⟩
/-- which line a token begins: 0 to 3 a geyser, 4 flow, 5 calm, 6 hour, 7 none -/
def nmI (B : Nat → Int32) (t : tkT) : Nat := if t.1 = 1 then (if nmE B t.2.1 t.2.2.1 0 then 0 else if nmE B t.2.1 t.2.2.1 1 then 1 else if nmE B t.2.1 t.2.2.1 2 then 2 else if nmE B t.2.1 t.2.2.1 3 then 3 else if nmE B t.2.1 t.2.2.1 4 then 4 else if nmE B t.2.1 t.2.2.1 5 then 5 else if nmE B t.2.1 t.2.2.1 6 then 6 else 7) else 7
theorem cR_lineOfName (E : gEv) (σ : gSg) (m : gMem) (hi x L : Nat) (t : tkT) (hN : gN σ x) (hT : okT m x L) (hR : RS (m.1 (x + 20)) (.inr t)) (hk : okTk L (.inr t)) : gCo E yX1_lineOfName cX1_lineOfName 1 (some .int) 5 [.ref (x + 20)] σ m hi (gX (some (.int (nI (nmI (m.1 (x + 22)) t)))) m) := by
  refine gCo.of mwX1_lineOfName (Nat.le_of_ble_eq_true rfl) ?_
  intro F hF
  have h20 := hN.2.2.2.2.2.2.1
  refine j_aload_n (q := 1) dX1_lineOfName_0 rfl (by rfl) ?_
  refine j_geti (q := 4) dX1_lineOfName_1 rfl fX1_43 (by assumption) (by rfl) ?_
  refine j_iconst (q := 5) (v := 1) dX1_lineOfName_4 rfl (by decide) ?_
  rw [hR.2.1]
  refine j_icmp_eq (q := 8) (tgt := 11) dX1_lineOfName_5 rfl (by decide) (fun h5 => ?_) (fun h5 => ?_)
  · have h1 : t.1 = 1 := nI_inj (b := 1) (by have := hk.1; omega) (by omega) h5
    have h0 : t.1 ≠ 0 := by omega
    have hb := hk.2.2 h0
    have hM : ∀ i, i < 7 → gCo E yX1_nameIs cX1_nameIs 3 (some .boolean) 4 [.ref (x + 20), .ref (gAd E i)] σ m hi (gX (some (.int (if nmE (m.1 (x + 22)) t.2.1 t.2.2.1 i then 1 else 0))) m) := fun i h7 => cR_nameIs E σ m hi x L t.2.1 t.2.2.1 i hN hT h7 (hR.2.2.2.1 h0) hR.2.2.1 (by omega) hb.2
    have eI : nmI (m.1 (x + 22)) t = (if nmE (m.1 (x + 22)) t.2.1 t.2.2.1 0 then 0 else if nmE (m.1 (x + 22)) t.2.1 t.2.2.1 1 then 1 else if nmE (m.1 (x + 22)) t.2.1 t.2.2.1 2 then 2 else if nmE (m.1 (x + 22)) t.2.1 t.2.2.1 3 then 3 else if nmE (m.1 (x + 22)) t.2.1 t.2.2.1 4 then 4 else if nmE (m.1 (x + 22)) t.2.1 t.2.2.1 5 then 5 else if nmE (m.1 (x + 22)) t.2.1 t.2.2.1 6 then 6 else 7) := if_pos h1
    rw [eI] at hF
    refine j_aload_n (q := 12) dX1_lineOfName_11 rfl (by rfl) ?_
    refine j_ldcs (q := 14) (i := 0) (tx := "") dX1_lineOfName_12 rfl rfl (by decide) rfl ?_
    refine o_callVi (q := 17) dX1_lineOfName_14 rfl lX1_123 mwX1_nameIs mvX1_nameIs cn1 (by assumption) (by rfl) rfl (Nat.le_of_ble_eq_true (by rfl)) (by first | decide | omega) (hM 0 (by decide)) ?_
    by_cases e0 : nmE (m.1 (x + 22)) t.2.1 t.2.2.1 0
    · rw [if_pos e0]
      rw [if_pos e0] at hF
      refine j_if_eq (q := 20) (tgt := 22) dX1_lineOfName_17 rfl (by decide) (fun h17 => ?_) (fun h17 => ?_)
      · exact absurd h17 (by decide)
      refine j_iconst (q := 21) (v := 0) dX1_lineOfName_20 rfl (by decide) ?_
      refine o_iret hF rfl dX1_lineOfName_21 ?_
      exact ⟨rfl, rfl⟩
    rw [if_neg e0]
    rw [if_neg e0] at hF
    refine j_if_eq (q := 20) (tgt := 22) dX1_lineOfName_17 rfl (by decide) (fun h17 => ?_) (fun h17 => ?_)
    case refine_2 => exact absurd rfl h17
    refine j_aload_n (q := 23) dX1_lineOfName_22 rfl (by rfl) ?_
    refine j_ldcs (q := 25) (i := 1) (tx := "") dX1_lineOfName_23 rfl rfl (by decide) rfl ?_
    refine o_callVi (q := 28) dX1_lineOfName_25 rfl lX1_123 mwX1_nameIs mvX1_nameIs cn1 (by assumption) (by rfl) rfl (Nat.le_of_ble_eq_true (by rfl)) (by first | decide | omega) (hM 1 (by decide)) ?_
    by_cases e1 : nmE (m.1 (x + 22)) t.2.1 t.2.2.1 1
    · rw [if_pos e1]
      rw [if_pos e1] at hF
      refine j_if_eq (q := 31) (tgt := 33) dX1_lineOfName_28 rfl (by decide) (fun h28 => ?_) (fun h28 => ?_)
      · exact absurd h28 (by decide)
      refine j_iconst (q := 32) (v := 1) dX1_lineOfName_31 rfl (by decide) ?_
      refine o_iret hF rfl dX1_lineOfName_32 ?_
      exact ⟨rfl, rfl⟩
    rw [if_neg e1]
    rw [if_neg e1] at hF
    refine j_if_eq (q := 31) (tgt := 33) dX1_lineOfName_28 rfl (by decide) (fun h28 => ?_) (fun h28 => ?_)
    case refine_2 => exact absurd rfl h28
    refine j_aload_n (q := 34) dX1_lineOfName_33 rfl (by rfl) ?_
    refine j_ldcs (q := 36) (i := 2) (tx := "") dX1_lineOfName_34 rfl rfl (by decide) rfl ?_
    refine o_callVi (q := 39) dX1_lineOfName_36 rfl lX1_123 mwX1_nameIs mvX1_nameIs cn1 (by assumption) (by rfl) rfl (Nat.le_of_ble_eq_true (by rfl)) (by first | decide | omega) (hM 2 (by decide)) ?_
    by_cases e2 : nmE (m.1 (x + 22)) t.2.1 t.2.2.1 2
    · rw [if_pos e2]
      rw [if_pos e2] at hF
      refine j_if_eq (q := 42) (tgt := 44) dX1_lineOfName_39 rfl (by decide) (fun h39 => ?_) (fun h39 => ?_)
      · exact absurd h39 (by decide)
      refine j_iconst (q := 43) (v := 2) dX1_lineOfName_42 rfl (by decide) ?_
      refine o_iret hF rfl dX1_lineOfName_43 ?_
      exact ⟨rfl, rfl⟩
    rw [if_neg e2]
    rw [if_neg e2] at hF
    refine j_if_eq (q := 42) (tgt := 44) dX1_lineOfName_39 rfl (by decide) (fun h39 => ?_) (fun h39 => ?_)
    case refine_2 => exact absurd rfl h39
    refine j_aload_n (q := 45) dX1_lineOfName_44 rfl (by rfl) ?_
    refine j_ldcs (q := 47) (i := 3) (tx := "") dX1_lineOfName_45 rfl rfl (by decide) rfl ?_
    refine o_callVi (q := 50) dX1_lineOfName_47 rfl lX1_123 mwX1_nameIs mvX1_nameIs cn1 (by assumption) (by rfl) rfl (Nat.le_of_ble_eq_true (by rfl)) (by first | decide | omega) (hM 3 (by decide)) ?_
    by_cases e3 : nmE (m.1 (x + 22)) t.2.1 t.2.2.1 3
    · rw [if_pos e3]
      rw [if_pos e3] at hF
      refine j_if_eq (q := 53) (tgt := 55) dX1_lineOfName_50 rfl (by decide) (fun h50 => ?_) (fun h50 => ?_)
      · exact absurd h50 (by decide)
      refine j_iconst (q := 54) (v := 3) dX1_lineOfName_53 rfl (by decide) ?_
      refine o_iret hF rfl dX1_lineOfName_54 ?_
      exact ⟨rfl, rfl⟩
    rw [if_neg e3]
    rw [if_neg e3] at hF
    refine j_if_eq (q := 53) (tgt := 55) dX1_lineOfName_50 rfl (by decide) (fun h50 => ?_) (fun h50 => ?_)
    case refine_2 => exact absurd rfl h50
    refine j_aload_n (q := 56) dX1_lineOfName_55 rfl (by rfl) ?_
    refine j_ldcs (q := 58) (i := 4) (tx := "") dX1_lineOfName_56 rfl rfl (by decide) rfl ?_
    refine o_callVi (q := 61) dX1_lineOfName_58 rfl lX1_123 mwX1_nameIs mvX1_nameIs cn1 (by assumption) (by rfl) rfl (Nat.le_of_ble_eq_true (by rfl)) (by first | decide | omega) (hM 4 (by decide)) ?_
    by_cases e4 : nmE (m.1 (x + 22)) t.2.1 t.2.2.1 4
    · rw [if_pos e4]
      rw [if_pos e4] at hF
      refine j_if_eq (q := 64) (tgt := 66) dX1_lineOfName_61 rfl (by decide) (fun h61 => ?_) (fun h61 => ?_)
      · exact absurd h61 (by decide)
      refine j_iconst (q := 65) (v := 4) dX1_lineOfName_64 rfl (by decide) ?_
      refine o_iret hF rfl dX1_lineOfName_65 ?_
      exact ⟨rfl, rfl⟩
    rw [if_neg e4]
    rw [if_neg e4] at hF
    refine j_if_eq (q := 64) (tgt := 66) dX1_lineOfName_61 rfl (by decide) (fun h61 => ?_) (fun h61 => ?_)
    case refine_2 => exact absurd rfl h61
    refine j_aload_n (q := 67) dX1_lineOfName_66 rfl (by rfl) ?_
    refine j_ldcs (q := 69) (i := 5) (tx := "") dX1_lineOfName_67 rfl rfl (by decide) rfl ?_
    refine o_callVi (q := 72) dX1_lineOfName_69 rfl lX1_123 mwX1_nameIs mvX1_nameIs cn1 (by assumption) (by rfl) rfl (Nat.le_of_ble_eq_true (by rfl)) (by first | decide | omega) (hM 5 (by decide)) ?_
    by_cases e5 : nmE (m.1 (x + 22)) t.2.1 t.2.2.1 5
    · rw [if_pos e5]
      rw [if_pos e5] at hF
      refine j_if_eq (q := 75) (tgt := 77) dX1_lineOfName_72 rfl (by decide) (fun h72 => ?_) (fun h72 => ?_)
      · exact absurd h72 (by decide)
      refine j_iconst (q := 76) (v := 5) dX1_lineOfName_75 rfl (by decide) ?_
      refine o_iret hF rfl dX1_lineOfName_76 ?_
      exact ⟨rfl, rfl⟩
    rw [if_neg e5]
    rw [if_neg e5] at hF
    refine j_if_eq (q := 75) (tgt := 77) dX1_lineOfName_72 rfl (by decide) (fun h72 => ?_) (fun h72 => ?_)
    case refine_2 => exact absurd rfl h72
    refine j_aload_n (q := 78) dX1_lineOfName_77 rfl (by rfl) ?_
    refine j_ldcs (q := 80) (i := 6) (tx := "") dX1_lineOfName_78 rfl rfl (by decide) rfl ?_
    refine o_callVi (q := 83) dX1_lineOfName_80 rfl lX1_123 mwX1_nameIs mvX1_nameIs cn1 (by assumption) (by rfl) rfl (Nat.le_of_ble_eq_true (by rfl)) (by first | decide | omega) (hM 6 (by decide)) ?_
    by_cases e6 : nmE (m.1 (x + 22)) t.2.1 t.2.2.1 6
    · rw [if_pos e6]
      rw [if_pos e6] at hF
      refine j_if_eq (q := 86) (tgt := 91) dX1_lineOfName_83 rfl (by decide) (fun h83 => ?_) (fun h83 => ?_)
      · exact absurd h83 (by decide)
      refine j_bipush (q := 88) (v := 6) dX1_lineOfName_86 rfl (by decide) ?_
      refine j_goto (tgt := 93) dX1_lineOfName_88 (by decide) ?_
      refine o_iret hF rfl dX1_lineOfName_93 ?_
      exact ⟨rfl, rfl⟩
    rw [if_neg e6]
    rw [if_neg e6] at hF
    refine j_if_eq (q := 86) (tgt := 91) dX1_lineOfName_83 rfl (by decide) (fun h83 => ?_) (fun h83 => ?_)
    case refine_2 => exact absurd rfl h83
    refine j_bipush (q := 93) (v := 7) dX1_lineOfName_91 rfl (by decide) ?_
    refine o_iret hF rfl dX1_lineOfName_93 ?_
    exact ⟨rfl, rfl⟩
  · have h1 : ¬ t.1 = 1 := fun q => h5 (by rw [q]; rfl)
    have eI : nmI (m.1 (x + 22)) t = 7 := if_neg h1
    rw [eI] at hF
    refine j_bipush (q := 10) (v := 7) dX1_lineOfName_8 rfl (by decide) ?_
    refine o_iret hF rfl dX1_lineOfName_10 ?_
    exact ⟨rfl, rfl⟩
