/-! the reference: a number, a name, a line -/
theorem nI_gt0 {n : Nat} (h0 : n ≠ 0) (h : n < 6) : ¬ nI n ≤ 0 := nI_nle (by omega) (by omega)
/-- a fault that is told at the token -/
theorem cM_failAt (E : gEv) (σ : gSg) (m : gMem) (hi t c : Nat) (u : tkT) (hR : gR σ t) (hS : RSR (m.1 t) (.inr u)) : gCo E yX7_fails cX7_fails 2 (none) 0 [.ref t, .int (nI c)] σ m hi (fun v' m' => v' = none ∧ rdq t m m' ∧ RSR (m'.1 t) (.inl (c, u.2.1))) := by
  have h := cM_fails E σ m hi t (m.1 t) (nI c) hR
  rw [mR_self, if_pos hS.1] at h
  refine gCo.wk h ?_
  rintro v m' ⟨rfl, rfl⟩
  refine ⟨rfl, ⟨_, rfl, ((ks.rf _).up (by omega) _).up (by omega) _⟩, ?_⟩
  rw [mR_a]
  exact ⟨by rw [pk_un (by decide), pk_us], by rw [pk_us]; exact hS.2.2.1⟩
theorem RSR.b {f : Nat → Int32} {L : Nat} {e : Nat × Nat} (h : RSR f (.inl e)) (hk : okTk L (.inl e)) : ¬ f 7 = 0 ∧ ¬ f 7 ≤ 0 := by
  rw [h.1]
  exact ⟨nI_ne0 (by have := hk.2.1; omega) (by have := hk.1; omega), nI_gt0 hk.2.1 hk.1⟩
theorem cM_number (E : gEv) (σ : gSg) (m : gMem) (hi t L : Nat) (lo hig : Int32) (R : pT) (hR : gR σ t) (hT : okTR m t L) (hS : RSR (m.1 t) R) (hk : okTk L R) : gCo E yX7_number cX7_number 4 (some .int) 2 [.ref t, .int lo, .int hig] σ m hi (fun v' m' => v' = some (.int (numV lo hig R)) ∧ rdq t m m' ∧ RSR (m'.1 t) (numR (m.1 (t + 3)) L lo hig R)) := by
  refine gCo.of mwX7_number (Nat.le_of_ble_eq_true rfl) ?_
  intro F hF
  have h0 := hR.1
  have K47b : ∀ (m1 : gMem) (e : Nat × Nat), RSR (m1.1 t) (.inl e) → okTk L (.inl e) → rdq t m m1 → numR (m.1 (t + 3)) L lo hig R = .inl e → numV lo hig R = lo → (gJ E yX7_number cX7_number 4 (some .int) (gRm 2 0 0) F 47 ([some (.ref t), some (.int lo), some (.int hig), none]) ([]) 0 0 σ (m1) hi) := by
    intro m1 e hs hk1 hd hn hv
    have hb := hs.b hk1
    rw [hn, hv] at hF
    refine j_aload_n (q := 48) dX7_number_47 rfl (by rfl) ?_
    refine j_geti (q := 51) dX7_number_48 rfl fX7_63 (by first | with_reducible assumption | assumption) (by rfl) ?_
    refine j_if_ne (q := 54) (tgt := 61) dX7_number_51 rfl (by decide) (fun h51 => ?_) (fun h51 => ?_)
    · refine j_iload_n (q := 62) dX7_number_61 rfl (by rfl) ?_
      refine j_istore_n (q := 63) dX7_number_62 rfl (by decide) ?_
      refine j_aload_n (q := 64) dX7_number_63 rfl (by rfl) ?_
      refine o_callVv (q := 67) dX7_number_64 rfl lX7_97 mwX7_readsOn mvX7_readsOn cn7 (by assumption) (by rfl) rfl (Nat.le_of_ble_eq_true (by rfl)) (by first | decide | omega) (cM_readsOn0 E σ m1 hi t hR hb.2) ?_
      refine j_iload_n (q := 68) dX7_number_67 rfl (by rfl) ?_
      refine o_iret hF rfl dX7_number_68 ?_
      exact ⟨rfl, hd, hs⟩
    · exact absurd (by first | exact h51 | exact Decidable.not_not.mp h51) hb.1
  match R, hS, hk with
  | .inl e, hS, hk =>
    have hb := hS.b hk
    refine j_aload_n (q := 1) dX7_number_0 rfl (by rfl) ?_
    refine j_geti (q := 4) dX7_number_1 rfl fX7_63 (by first | with_reducible assumption | assumption) (by rfl) ?_
    refine j_if_ne (q := 7) (tgt := 20) dX7_number_4 rfl (by decide) (fun h4 => ?_) (fun h4 => ?_)
    · refine j_aload_n (q := 21) dX7_number_20 rfl (by rfl) ?_
      refine j_geti (q := 24) dX7_number_21 rfl fX7_63 (by first | with_reducible assumption | assumption) (by rfl) ?_
      refine j_if_ne (q := 27) (tgt := 47) dX7_number_24 rfl (by decide) (fun h24 => ?_) (fun h24 => ?_)
      · exact K47b m e hS hk (rdq.rf t m) rfl rfl
      · exact absurd (by first | exact h24 | exact Decidable.not_not.mp h24) hb.1
    · exact absurd (by first | exact h4 | exact Decidable.not_not.mp h4) hb.1
  | .inr u, hS, hk =>
    obtain ⟨q7, q11, q10, q9, q12⟩ := id hS
    refine j_aload_n (q := 1) dX7_number_0 rfl (by rfl) ?_
    refine j_geti (q := 4) dX7_number_1 rfl fX7_63 (by first | with_reducible assumption | assumption) (by rfl) ?_
    rw [q7]
    refine j_if_ne (q := 7) (tgt := 20) dX7_number_4 rfl (by decide) (fun h4 => ?_) (fun h4 => ?_)
    · exact absurd rfl h4
    refine j_aload_n (q := 8) dX7_number_7 rfl (by rfl) ?_
    refine j_geti (q := 11) dX7_number_8 rfl fX7_72 (by first | with_reducible assumption | assumption) (by rfl) ?_
    rw [q11]
    refine j_iconst (q := 12) (v := 2) dX7_number_11 rfl (by decide) ?_
    by_cases h2 : u.1 = 2
    · have hnR : numR (m.1 (t + 3)) L lo hig (.inr u) = if lo ≤ u.2.2.2 ∧ u.2.2.2 ≤ hig then nxt (m.1 (t + 3)) L u.2.2.1 else .inl (3, u.2.1) := if_pos h2
      have hnV : numV lo hig (.inr u) = if lo ≤ u.2.2.2 ∧ u.2.2.2 ≤ hig then u.2.2.2 else lo := if_pos h2
      have hI := cM_inI E σ m hi u.2.2.2 lo hig (L := lo.toInt64) (H := hig.toInt64) rfl rfl
      rw [h2]
      refine j_icmp_eq (q := 15) (tgt := 20) dX7_number_12 rfl (by decide) (fun h12 => ?_) (fun h12 => ?_)
      · refine j_aload_n (q := 21) dX7_number_20 rfl (by rfl) ?_
        refine j_geti (q := 24) dX7_number_21 rfl fX7_63 (by first | with_reducible assumption | assumption) (by rfl) ?_
        rw [q7]
        refine j_if_ne (q := 27) (tgt := 47) dX7_number_24 rfl (by decide) (fun h24 => ?_) (fun h24 => ?_)
        · exact absurd rfl h24
        refine j_aload_n (q := 28) dX7_number_27 rfl (by rfl) ?_
        refine j_geti (q := 31) dX7_number_28 rfl fX7_82 (by first | with_reducible assumption | assumption) (by rfl) ?_
        rw [q12 h2]
        refine j_i2l (q := 32) dX7_number_31 rfl ?_
        refine j_iload_n (q := 33) dX7_number_32 rfl (by rfl) ?_
        refine j_i2l (q := 34) dX7_number_33 rfl ?_
        refine j_iload_n (q := 35) dX7_number_34 rfl (by rfl) ?_
        refine j_i2l (q := 36) dX7_number_35 rfl ?_
        refine o_callSi (q := 39) dX7_number_36 rfl lX7_55 mwX7_in msX7_in (by rfl) rfl (Nat.le_of_ble_eq_true (by rfl)) (by first | decide | omega) (hI) ?_
        by_cases hin : lo ≤ u.2.2.2 ∧ u.2.2.2 ≤ hig
        · rw [sWi_eq, if_pos hin]
          rw [if_pos hin] at hnR hnV
          refine j_if_ne (q := 42) (tgt := 47) dX7_number_39 rfl (by decide) (fun h39 => ?_) (fun h39 => ?_)
          · rw [hnR, hnV] at hF
            have hRd := cM_readsOn1 E σ m hi t L u.2.2.1 hR hT q7 q9 (hk.2.2 (by omega)).2
            refine j_aload_n (q := 48) dX7_number_47 rfl (by rfl) ?_
            refine j_geti (q := 51) dX7_number_48 rfl fX7_63 (by first | with_reducible assumption | assumption) (by rfl) ?_
            rw [q7]
            refine j_if_ne (q := 54) (tgt := 61) dX7_number_51 rfl (by decide) (fun h51 => ?_) (fun h51 => ?_)
            · exact absurd rfl h51
            refine j_aload_n (q := 55) dX7_number_54 rfl (by rfl) ?_
            refine j_geti (q := 58) dX7_number_55 rfl fX7_82 (by first | with_reducible assumption | assumption) (by rfl) ?_
            rw [q12 h2]
            refine j_goto (tgt := 62) dX7_number_58 (by decide) ?_
            refine j_istore_n (q := 63) dX7_number_62 rfl (by decide) ?_
            refine j_aload_n (q := 64) dX7_number_63 rfl (by rfl) ?_
            refine o_callVx (q := 67) dX7_number_64 rfl lX7_97 mwX7_readsOn mvX7_readsOn cn7 (by assumption) (by rfl) rfl (Nat.le_of_ble_eq_true (by rfl)) (by first | decide | omega) (hRd) ?_
            rintro _ m1 ⟨rfl, d1, s1⟩
            refine j_iload_n (q := 68) dX7_number_67 rfl (by rfl) ?_
            refine o_iret hF rfl dX7_number_68 ?_
            exact ⟨rfl, d1, s1⟩
          · exact absurd h39 (by decide)
        · rw [sWi_eq, if_neg hin]
          rw [if_neg hin] at hnR hnV
          refine j_if_ne (q := 42) (tgt := 47) dX7_number_39 rfl (by decide) (fun h39 => ?_) (fun h39 => ?_)
          · exact absurd rfl h39
          refine j_aload_n (q := 43) dX7_number_42 rfl (by rfl) ?_
          refine j_iconst (q := 44) (v := 3) dX7_number_43 rfl (by decide) ?_
          refine o_callVx (q := 47) dX7_number_44 rfl lX7_93 mwX7_fails mvX7_fails cn7 (by assumption) (by rfl) rfl (Nat.le_of_ble_eq_true (by rfl)) (by first | decide | omega) (cM_failAt E σ m hi t 3 u hR hS) ?_
          rintro _ m1 ⟨rfl, d1, s1⟩
          exact K47b m1 _ s1 ⟨by show 3 < 6; decide, by show 3 ≠ 0; decide, hk.2.1⟩ d1 hnR hnV
      · exact absurd rfl h12
    · have hnR : numR (m.1 (t + 3)) L lo hig (.inr u) = .inl (2, u.2.1) := if_neg h2
      have hnV : numV lo hig (.inr u) = lo := if_neg h2
      refine j_icmp_eq (q := 15) (tgt := 20) dX7_number_12 rfl (by decide) (fun h12 => ?_) (fun h12 => ?_)
      · exact absurd (nI_inj (b := 2) (by have := hk.1; omega) (by omega) (by first | exact h12 | exact Decidable.not_not.mp h12)) h2
      refine j_aload_n (q := 16) dX7_number_15 rfl (by rfl) ?_
      refine j_iconst (q := 17) (v := 2) dX7_number_16 rfl (by decide) ?_
      refine o_callVx (q := 20) dX7_number_17 rfl lX7_93 mwX7_fails mvX7_fails cn7 (by assumption) (by rfl) rfl (Nat.le_of_ble_eq_true (by rfl)) (by first | decide | omega) (cM_failAt E σ m hi t 2 u hR hS) ?_
      rintro _ m1 ⟨rfl, d1, s1⟩
      have hk1 : okTk L (.inl (2, u.2.1)) := ⟨by show 2 < 6; decide, by show 2 ≠ 0; decide, hk.2.1⟩
      have hb := s1.b hk1
      refine j_aload_n (q := 21) dX7_number_20 rfl (by rfl) ?_
      refine j_geti (q := 24) dX7_number_21 rfl fX7_63 (by first | with_reducible assumption | assumption) (by rfl) ?_
      refine j_if_ne (q := 27) (tgt := 47) dX7_number_24 rfl (by decide) (fun h24 => ?_) (fun h24 => ?_)
      · exact K47b m1 _ s1 hk1 d1 hnR hnV
      · exact absurd (by first | exact h24 | exact Decidable.not_not.mp h24) hb.1
def gEnd : List Nat := [0, 5, 8, 13, 18, 22, 26, 30]
def okLt (m : gMem) (t : Nat) : Prop := (∀ n, n < 8 → m.1 (t + 4) n = nI (gEnd.getD n 0)) ∧ ∀ n, n < 7 → ∀ k, k < gLen.getD n 0 → m.1 (t + 5) (gEnd.getD n 0 + k) = (gByt.getD n []).getD k 0
theorem gEnd_d : ∀ n, n < 7 → gEnd.getD n 0 ≤ gEnd.getD (n + 1) 0 ∧ gEnd.getD (n + 1) 0 - gEnd.getD n 0 = gLen.getD n 0 ∧ gEnd.getD n 0 + gLen.getD n 0 ≤ 30 ∧ gLen.getD n 0 < 10 := by decide
theorem nmI_at {B : Nat → Int32} {u : tkT} (h1 : u.1 = 1) : ∀ n, n < 7 → nmE B u.2.1 u.2.2.1 n → (∀ k, k < n → ¬ nmE B u.2.1 u.2.2.1 k) → nmI B u = n
  | 0, _, h, _ => by unfold nmI; rw [if_pos h1, if_pos h]
  | 1, _, h, q => by unfold nmI; rw [if_pos h1, if_neg (q 0 (by omega)), if_pos h]
  | 2, _, h, q => by unfold nmI; rw [if_pos h1, if_neg (q 0 (by omega)), if_neg (q 1 (by omega)), if_pos h]
  | 3, _, h, q => by unfold nmI; rw [if_pos h1, if_neg (q 0 (by omega)), if_neg (q 1 (by omega)), if_neg (q 2 (by omega)), if_pos h]
  | 4, _, h, q => by unfold nmI; rw [if_pos h1, if_neg (q 0 (by omega)), if_neg (q 1 (by omega)), if_neg (q 2 (by omega)), if_neg (q 3 (by omega)), if_pos h]
  | 5, _, h, q => by unfold nmI; rw [if_pos h1, if_neg (q 0 (by omega)), if_neg (q 1 (by omega)), if_neg (q 2 (by omega)), if_neg (q 3 (by omega)), if_neg (q 4 (by omega)), if_pos h]
  | 6, _, h, q => by unfold nmI; rw [if_pos h1, if_neg (q 0 (by omega)), if_neg (q 1 (by omega)), if_neg (q 2 (by omega)), if_neg (q 3 (by omega)), if_neg (q 4 (by omega)), if_neg (q 5 (by omega)), if_pos h]
  | n + 7, h, _, _ => absurd h (by omega)
theorem nmI_no {B : Nat → Int32} {u : tkT} (q : ∀ k, k < 7 → ¬ nmE B u.2.1 u.2.2.1 k) : nmI B u = 7 := by
  unfold nmI
  by_cases h1 : u.1 = 1
  · rw [if_pos h1, if_neg (q 0 (by omega)), if_neg (q 1 (by omega)), if_neg (q 2 (by omega)), if_neg (q 3 (by omega)), if_neg (q 4 (by omega)), if_neg (q 5 (by omega)), if_neg (q 6 (by omega))]
  · rw [if_neg h1]
theorem cM_nameHere (E : gEv) (σ : gSg) (m : gMem) (hi t L : Nat) (u : tkT) (hR : gR σ t) (hT : okTR m t L) (hl : okLt m t) (hS : RSR (m.1 t) (.inr u)) (hk : okTk L (.inr u)) (h0u : u.1 ≠ 0) : gCo E yX7_nameHere cX7_nameHere 4 (some .int) 1 [.ref t] σ m hi (gX (some (.int (if nmI (m.1 (t + 3)) u = 7 then -4 else nI (nmI (m.1 (t + 3)) u)))) m) := by
  refine gCo.of mwX7_nameHere (Nat.le_of_ble_eq_true rfl) ?_
  intro F hF
  have h0 := hR.1
  obtain ⟨-, -, -, -, h4, h5, -⟩ := id hR
  obtain ⟨q7, q11, q10, q9, q12⟩ := id hS
  obtain ⟨hse, heL⟩ := hk.2.2 h0u
  have hL := hT.2.1
  generalize hB : m.1 (t + 3) = B at *
  by_cases h1 : u.1 = 1
  · have K2 : ∀ (z n : Nat) (o2 o3 : Option Value), n + z = 7 → (∀ k, k < n → ¬ nmE B u.2.1 u.2.2.1 k) → (gJ E yX7_nameHere cX7_nameHere 4 (some .int) (gRm 1 0 0) F 2 ([some (.ref t), some (.int (nI n)), o2, o3]) ([]) 0 0 σ (m) hi) := by
      intro z
      induction z with
      | zero =>
        intro n o2 o3 hnz hq
        have hn7 : n = 7 := by omega
        subst hn7
        rw [if_pos (nmI_no hq)] at hF
        refine j_iload_n (q := 3) dX7_nameHere_2 rfl (by rfl) ?_
        refine j_bipush (q := 5) (v := 7) dX7_nameHere_3 rfl (by decide) ?_
        refine j_icmp_ge (q := 8) (tgt := 118) dX7_nameHere_5 rfl (by decide) (fun h5' => ?_) (fun h5' => ?_)
        · refine j_bipush (q := 120) (v := (-4)) dX7_nameHere_118 rfl (by decide) ?_
          refine o_iret hF rfl dX7_nameHere_120 ?_
          exact ⟨rfl, rfl⟩
        · exact absurd (show (7 : Int32) ≤ nI 7 by decide) h5'
      | succ z ih =>
        intro n o2 o3 hnz hq
        obtain ⟨d1, d2, d3, d4⟩ := gEnd_d n (by omega)
        have e0 := hl.1 n (by omega)
        have e1 := hl.1 (n + 1) (by omega)
        have ix0 : gIdx (nI n) 8 n := gIdx.of rfl (by omega) (by decide)
        have ix1 : gIdx (nI (n + 1)) 8 (n + 1) := gIdx.of rfl (by omega) (by decide)
        have hno : ¬ nmE B u.2.1 u.2.2.1 n → ∀ (o3 : Option Value), (gJ E yX7_nameHere cX7_nameHere 4 (some .int) (gRm 1 0 0) F 106 ([some (.ref t), some (.int (nI n)), some (.int 0), o3]) ([]) 0 0 σ (m) hi) := by
          intro hne o3
          refine j_iload_n (q := 107) dX7_nameHere_106 rfl (by rfl) ?_
          refine j_if_eq (q := 110) (tgt := 112) dX7_nameHere_107 rfl (by decide) (fun h107 => ?_) (fun h107 => ?_)
          · refine j_iinc (q := 115) dX7_nameHere_112 rfl (by rfl) (by first | exact nI_inc _ | rfl) (by decide) ?_
            refine j_goto (tgt := 2) dX7_nameHere_115 (by decide) ?_
            refine ih (n + 1) _ _ (by omega) (fun k hk' => ?_)
            by_cases hkn : k = n
            · subst hkn; exact hne
            · exact hq k (by omega)
          · exact absurd rfl h107
        refine j_iload_n (q := 3) dX7_nameHere_2 rfl (by rfl) ?_
        refine j_bipush (q := 5) (v := 7) dX7_nameHere_3 rfl (by decide) ?_
        refine j_icmp_ge (q := 8) (tgt := 118) dX7_nameHere_5 rfl (by decide) (fun h5' => ?_) (fun h5' => ?_)
        · exact absurd h5' (nI_ge (a := n) (b := 7) (by omega) (by omega))
        refine j_aload_n (q := 9) dX7_nameHere_8 rfl (by rfl) ?_
        refine j_geti (q := 12) dX7_nameHere_9 rfl fX7_72 (by first | with_reducible assumption | assumption) (by rfl) ?_
        rw [q11, h1]
        refine j_iconst (q := 13) (v := 1) dX7_nameHere_12 rfl (by decide) ?_
        refine j_icmp_ne (q := 16) (tgt := 118) dX7_nameHere_13 rfl (by decide) (fun h13 => ?_) (fun h13 => ?_)
        · exact absurd rfl h13
        refine j_aload_n (q := 17) dX7_nameHere_16 rfl (by rfl) ?_
        refine j_geti (q := 20) dX7_nameHere_17 rfl fX7_75 (by first | with_reducible assumption | assumption) (by rfl) ?_
        rw [q9]
        refine j_aload_n (q := 21) dX7_nameHere_20 rfl (by rfl) ?_
        refine j_geti (q := 24) dX7_nameHere_21 rfl fX7_66 (by first | with_reducible assumption | assumption) (by rfl) ?_
        rw [q10]
        refine j_isub (q := 25) dX7_nameHere_24 rfl ?_
        rw [pk_sub (by omega)]
        refine j_aload_n (q := 26) dX7_nameHere_25 rfl (by rfl) ?_
        refine j_getr (q := 29) dX7_nameHere_26 rfl fX7_19 (by first | with_reducible assumption | assumption) (by rfl) ?_
        refine j_iload_n (q := 30) dX7_nameHere_29 rfl (by rfl) ?_
        refine j_iconst (q := 31) (v := 1) dX7_nameHere_30 rfl (by decide) ?_
        refine j_iadd (q := 32) dX7_nameHere_31 rfl ?_
        rw [nI_1]
        refine j_iaload (q := 33) dX7_nameHere_32 rfl (by first | with_reducible assumption | assumption) (by first | with_reducible assumption | assumption) ?_
        rw [e1]
        refine j_aload_n (q := 34) dX7_nameHere_33 rfl (by rfl) ?_
        refine j_getr (q := 37) dX7_nameHere_34 rfl fX7_19 (by first | with_reducible assumption | assumption) (by rfl) ?_
        refine j_iload_n (q := 38) dX7_nameHere_37 rfl (by rfl) ?_
        refine j_iaload (q := 39) dX7_nameHere_38 rfl (by first | with_reducible assumption | assumption) (by first | with_reducible assumption | assumption) ?_
        rw [e0]
        refine j_isub (q := 40) dX7_nameHere_39 rfl ?_
        rw [pk_sub d1, d2]
        by_cases hlen : u.2.2.1 - u.2.1 = gLen.getD n 0
        · rw [hlen]
          refine j_icmp_ne (q := 43) (tgt := 47) dX7_nameHere_40 rfl (by decide) (fun h40 => ?_) (fun h40 => ?_)
          · exact absurd rfl h40
          refine j_iconst (q := 44) (v := 1) dX7_nameHere_43 rfl (by decide) ?_
          refine j_goto (tgt := 48) dX7_nameHere_44 (by decide) ?_
          refine j_istore_n (q := 49) dX7_nameHere_48 rfl (by decide) ?_
          refine j_iconst (q := 50) (v := 0) dX7_nameHere_49 rfl (by decide) ?_
          refine j_istore_n (q := 51) dX7_nameHere_50 rfl (by decide) ?_
          have K51 : ∀ (y k : Nat), k + y = gLen.getD n 0 → (∀ j, j < k → B (u.2.1 + j) = (gByt.getD n []).getD j 0) → (gJ E yX7_nameHere cX7_nameHere 4 (some .int) (gRm 1 0 0) F 51 ([some (.ref t), some (.int (nI n)), some (.int 1), some (.int (nI k))]) ([]) 0 0 σ (m) hi) := by
            intro y
            induction y with
            | zero =>
              intro k hky hm
              have hkl : k = gLen.getD n 0 := by omega
              have hnm : nmE B u.2.1 u.2.2.1 n := ⟨hlen, by rw [← hkl]; exact hm⟩
              have hni := nmI_at h1 n (by omega) hnm hq
              rw [hni, if_neg (by omega)] at hF
              refine j_iload_n (q := 52) dX7_nameHere_51 rfl (by rfl) ?_
              refine j_if_eq (q := 55) (tgt := 106) dX7_nameHere_52 rfl (by decide) (fun h52 => ?_) (fun h52 => ?_)
              · exact absurd h52 (by decide)
              refine j_iload_n (q := 56) dX7_nameHere_55 rfl (by rfl) ?_
              refine j_aload_n (q := 57) dX7_nameHere_56 rfl (by rfl) ?_
              refine j_geti (q := 60) dX7_nameHere_57 rfl fX7_75 (by first | with_reducible assumption | assumption) (by rfl) ?_
              rw [q9]
              refine j_aload_n (q := 61) dX7_nameHere_60 rfl (by rfl) ?_
              refine j_geti (q := 64) dX7_nameHere_61 rfl fX7_66 (by first | with_reducible assumption | assumption) (by rfl) ?_
              rw [q10]
              refine j_isub (q := 65) dX7_nameHere_64 rfl ?_
              rw [pk_sub (by omega), hlen, hkl]
              refine j_icmp_ge (q := 68) (tgt := 106) dX7_nameHere_65 rfl (by decide) (fun h65 => ?_) (fun h65 => ?_)
              · refine j_iload_n (q := 107) dX7_nameHere_106 rfl (by rfl) ?_
                refine j_if_eq (q := 110) (tgt := 112) dX7_nameHere_107 rfl (by decide) (fun h107 => ?_) (fun h107 => ?_)
                · exact absurd h107 (by decide)
                refine j_iload_n (q := 111) dX7_nameHere_110 rfl (by rfl) ?_
                refine o_iret hF rfl dX7_nameHere_111 ?_
                exact ⟨rfl, rfl⟩
              · exact absurd (Int32.le_refl _) h65
            | succ y ihy =>
              intro k hky hm
              have hBy := cM_byteAt E σ m hi t L (u.2.1 + k) hR hT.1 hL (by omega)
              rw [hB, bA_lt (by omega)] at hBy
              have ix2 : gIdx (nI (gEnd.getD n 0 + k)) 30 (gEnd.getD n 0 + k) := gIdx.of rfl (by omega) (by decide)
              have el := hl.2 n (by omega) k (by omega)
              refine j_iload_n (q := 52) dX7_nameHere_51 rfl (by rfl) ?_
              refine j_if_eq (q := 55) (tgt := 106) dX7_nameHere_52 rfl (by decide) (fun h52 => ?_) (fun h52 => ?_)
              · exact absurd h52 (by decide)
              refine j_iload_n (q := 56) dX7_nameHere_55 rfl (by rfl) ?_
              refine j_aload_n (q := 57) dX7_nameHere_56 rfl (by rfl) ?_
              refine j_geti (q := 60) dX7_nameHere_57 rfl fX7_75 (by first | with_reducible assumption | assumption) (by rfl) ?_
              rw [q9]
              refine j_aload_n (q := 61) dX7_nameHere_60 rfl (by rfl) ?_
              refine j_geti (q := 64) dX7_nameHere_61 rfl fX7_66 (by first | with_reducible assumption | assumption) (by rfl) ?_
              rw [q10]
              refine j_isub (q := 65) dX7_nameHere_64 rfl ?_
              rw [pk_sub (by omega), hlen]
              refine j_icmp_ge (q := 68) (tgt := 106) dX7_nameHere_65 rfl (by decide) (fun h65 => ?_) (fun h65 => ?_)
              · exact absurd h65 (nI_ge (by omega) (by omega))
              refine j_aload_n (q := 69) dX7_nameHere_68 rfl (by rfl) ?_
              refine j_aload_n (q := 70) dX7_nameHere_69 rfl (by rfl) ?_
              refine j_geti (q := 73) dX7_nameHere_70 rfl fX7_66 (by first | with_reducible assumption | assumption) (by rfl) ?_
              rw [q10]
              refine j_iload_n (q := 74) dX7_nameHere_73 rfl (by rfl) ?_
              refine j_iadd (q := 75) dX7_nameHere_74 rfl ?_
              rw [nI_add]
              refine o_callVi (q := 78) dX7_nameHere_75 rfl lX7_78 mwX7_byteAt mvX7_byteAt cn7 (by assumption) (by rfl) rfl (Nat.le_of_ble_eq_true (by rfl)) (by first | decide | omega) (hBy) ?_
              refine j_aload_n (q := 79) dX7_nameHere_78 rfl (by rfl) ?_
              refine j_getr (q := 82) dX7_nameHere_79 rfl fX7_22 (by first | with_reducible assumption | assumption) (by rfl) ?_
              refine j_aload_n (q := 83) dX7_nameHere_82 rfl (by rfl) ?_
              refine j_getr (q := 86) dX7_nameHere_83 rfl fX7_19 (by first | with_reducible assumption | assumption) (by rfl) ?_
              refine j_iload_n (q := 87) dX7_nameHere_86 rfl (by rfl) ?_
              refine j_iaload (q := 88) dX7_nameHere_87 rfl (by first | with_reducible assumption | assumption) (by first | with_reducible assumption | assumption) ?_
              rw [e0]
              refine j_iload_n (q := 89) dX7_nameHere_88 rfl (by rfl) ?_
              refine j_iadd (q := 90) dX7_nameHere_89 rfl ?_
              rw [nI_add]
              refine j_iaload (q := 91) dX7_nameHere_90 rfl (by first | with_reducible assumption | assumption) (by first | with_reducible assumption | assumption) ?_
              rw [el]
              refine j_icmp_ne (q := 94) (tgt := 98) dX7_nameHere_91 rfl (by decide) (fun h91 => ?_) (fun h91 => ?_)
              · refine j_iconst (q := 99) (v := 0) dX7_nameHere_98 rfl (by decide) ?_
                refine j_istore_n (q := 100) dX7_nameHere_99 rfl (by decide) ?_
                refine j_iinc (q := 103) dX7_nameHere_100 rfl (by rfl) (by first | exact nI_inc _ | rfl) (by decide) ?_
                refine j_goto (tgt := 51) dX7_nameHere_103 (by decide) ?_
                refine j_iload_n (q := 52) dX7_nameHere_51 rfl (by rfl) ?_
                refine j_if_eq (q := 55) (tgt := 106) dX7_nameHere_52 rfl (by decide) (fun h52' => ?_) (fun h52' => ?_)
                · exact hno (fun q => h91 (q.2 k (by omega))) _
                · exact absurd rfl h52'
              · have h91' : B (u.2.1 + k) = (gByt.getD n []).getD k 0 := by first | exact h91 | exact Decidable.not_not.mp h91
                refine j_iconst (q := 95) (v := 1) dX7_nameHere_94 rfl (by decide) ?_
                refine j_goto (tgt := 99) dX7_nameHere_95 (by decide) ?_
                refine j_istore_n (q := 100) dX7_nameHere_99 rfl (by decide) ?_
                refine j_iinc (q := 103) dX7_nameHere_100 rfl (by rfl) (by first | exact nI_inc _ | rfl) (by decide) ?_
                refine j_goto (tgt := 51) dX7_nameHere_103 (by decide) ?_
                refine ihy (k + 1) (by omega) (fun j hj => ?_)
                by_cases hjk : j = k
                · subst hjk; exact h91'
                · exact hm j (by omega)
          exact K51 (gLen.getD n 0) 0 (by omega) (fun j hj => absurd hj (by omega))
        · refine j_icmp_ne (q := 43) (tgt := 47) dX7_nameHere_40 rfl (by decide) (fun h40 => ?_) (fun h40 => ?_)
          · refine j_iconst (q := 48) (v := 0) dX7_nameHere_47 rfl (by decide) ?_
            refine j_istore_n (q := 49) dX7_nameHere_48 rfl (by decide) ?_
            refine j_iconst (q := 50) (v := 0) dX7_nameHere_49 rfl (by decide) ?_
            refine j_istore_n (q := 51) dX7_nameHere_50 rfl (by decide) ?_
            refine j_iload_n (q := 52) dX7_nameHere_51 rfl (by rfl) ?_
            refine j_if_eq (q := 55) (tgt := 106) dX7_nameHere_52 rfl (by decide) (fun h52 => ?_) (fun h52 => ?_)
            · exact hno (fun q => hlen q.1) _
            · exact absurd rfl h52
          · exact absurd (nI_inj (by omega) (by omega) (by first | exact h40 | exact Decidable.not_not.mp h40)) hlen
    refine j_iconst (q := 1) (v := 0) dX7_nameHere_0 rfl (by decide) ?_
    refine j_istore_n (q := 2) dX7_nameHere_1 rfl (by decide) ?_
    exact K2 7 0 _ _ (by omega) (fun k hk' => absurd hk' (by omega))
  · have h7 : nmI B u = 7 := by unfold nmI; rw [if_neg h1]
    rw [if_pos h7] at hF
    refine j_iconst (q := 1) (v := 0) dX7_nameHere_0 rfl (by decide) ?_
    refine j_istore_n (q := 2) dX7_nameHere_1 rfl (by decide) ?_
    refine j_iload_n (q := 3) dX7_nameHere_2 rfl (by rfl) ?_
    refine j_bipush (q := 5) (v := 7) dX7_nameHere_3 rfl (by decide) ?_
    refine j_icmp_ge (q := 8) (tgt := 118) dX7_nameHere_5 rfl (by decide) (fun h5' => ?_) (fun h5' => ?_)
    · exact absurd h5' (by decide)
    refine j_aload_n (q := 9) dX7_nameHere_8 rfl (by rfl) ?_
    refine j_geti (q := 12) dX7_nameHere_9 rfl fX7_72 (by first | with_reducible assumption | assumption) (by rfl) ?_
    rw [q11]
    refine j_iconst (q := 13) (v := 1) dX7_nameHere_12 rfl (by decide) ?_
    refine j_icmp_ne (q := 16) (tgt := 118) dX7_nameHere_13 rfl (by decide) (fun h13 => ?_) (fun h13 => ?_)
    · refine j_bipush (q := 120) (v := (-4)) dX7_nameHere_118 rfl (by decide) ?_
      refine o_iret hF rfl dX7_nameHere_120 ?_
      exact ⟨rfl, rfl⟩
    · exact absurd (nI_inj (b := 1) (by have := hk.1; omega) (by omega) (by first | exact h13 | exact Decidable.not_not.mp h13)) h1
