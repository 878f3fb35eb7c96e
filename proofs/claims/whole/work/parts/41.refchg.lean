/-! the reference: what is changed -/
theorem aj_lo {k : Nat} (h : k < 50) : (0 : Int32) = aj k := (aj0 (by omega) (by omega)).symm
theorem cM_alter (E : gEv) (σ : gSg) (m : gMem) (hi t : Nat) (v k z : Int32) (hR : gR σ t) (ho : okM m t) : gCo E yX7_alter cX7_alter 4 (some .int) 2 [.ref t, .int v, .int k, .int z] σ m hi (gX (some (.int (xAlter (pgR m t 0) v k z).1)) (gQ m t 0 (xAlter (pgR m t 0) v k z).2)) := by
  refine gCo.of mwX7_alter (Nat.le_of_ble_eq_true rfl) ?_
  intro F hF
  have h0 := hR.1
  obtain ⟨c, hc, hc4⟩ := ho.1
  have hbad : ∀ (a : Int32), xAlter (pgR m t 0) v k z = (-1, pgR m t 0) → (gJ E yX7_alter cX7_alter 4 (some .int) (gRm 2 0 0) F 22 ([some (.ref t), some (.int v), some (.int k), some (.int z)]) ([.int 0, .ref t]) 0 0 σ (m) hi) := by
    intro a he
    rw [he] at hF
    have hP := cM_puts E σ m hi t 0 0 (4 * k + v) z 0 hR (fun q => absurd rfl q)
    rw [if_pos rfl, if_pos rfl] at hP
    refine j_iconst (q := 23) (v := 4) dX7_alter_22 rfl (by decide) ?_
    refine j_iload_n (q := 24) dX7_alter_23 rfl (by rfl) ?_
    refine j_imul (q := 25) dX7_alter_24 rfl ?_
    refine j_iload_n (q := 26) dX7_alter_25 rfl (by rfl) ?_
    refine j_iadd (q := 27) dX7_alter_26 rfl ?_
    refine j_iload_n (q := 28) dX7_alter_27 rfl (by rfl) ?_
    refine j_iconst (q := 29) (v := 0) dX7_alter_28 rfl (by decide) ?_
    refine o_callVi (q := 32) dX7_alter_29 rfl lX7_183 mwX7_puts mvX7_puts cn7 (by assumption) (by rfl) rfl (Nat.le_of_ble_eq_true (by rfl)) (by first | decide | omega) (hP) ?_
    refine o_iret hF rfl dX7_alter_32 ?_
    exact ⟨rfl, (gQ_pgR m t 0).symm⟩
  refine j_aload_n (q := 1) dX7_alter_0 rfl (by rfl) ?_
  refine j_aload_n (q := 2) dX7_alter_1 rfl (by rfl) ?_
  refine j_iload_n (q := 3) dX7_alter_2 rfl (by rfl) ?_
  refine o_callVi (q := 6) dX7_alter_3 rfl lX7_160 mwX7_isGeyser mvX7_isGeyser cn7 (by assumption) (by rfl) rfl (Nat.le_of_ble_eq_true (by rfl)) (by first | decide | omega) (cM_isGeyser E σ m hi t c v hR hc hc4) ?_
  rcases ixV_or v hc (by omega) with ⟨hs, hv⟩ | ⟨j, hj, ej, hs, hv⟩
  · rw [← hc, hs]
    refine j_if_eq (q := 9) (tgt := 21) dX7_alter_6 rfl (by decide) (fun h6 => ?_) (fun h6 => ?_)
    · refine j_iconst (q := 22) (v := 0) dX7_alter_21 rfl (by decide) ?_
      exact hbad 0 (by unfold xAlter; rw [hv])
    · exact absurd rfl h6
  rw [← hc, hs]
  subst ej
  refine j_if_eq (q := 9) (tgt := 21) dX7_alter_6 rfl (by decide) (fun h6 => ?_) (fun h6 => ?_)
  · exact absurd h6 (by decide)
  refine j_iload_n (q := 10) dX7_alter_9 rfl (by rfl) ?_
  refine j_iload_n (q := 11) dX7_alter_10 rfl (by rfl) ?_
  refine o_callSi (q := 14) dX7_alter_11 rfl lX7_179 mwX7_isGood msX7_isGood (by rfl) rfl (Nat.le_of_ble_eq_true (by rfl)) (by first | decide | omega) (cM_isGood E σ m hi k z) ?_
  refine j_if_eq (q := 17) (tgt := 21) dX7_alter_14 rfl (by decide) (fun h14 => ?_) (fun h14 => ?_)
  · refine j_iconst (q := 22) (v := 0) dX7_alter_21 rfl (by decide) ?_
    exact hbad 0 (by unfold xAlter; rw [hv]; exact if_pos h14)
  · obtain ⟨q, hq, eq⟩ := sFit_in h14
    subst eq
    have he : xAlter (pgR m t 0) (nI j) (nI q) z = (pgR m t 0 (4 * q + j), upd (pgR m t 0) (4 * q + j) z) := by
      unfold xAlter
      rw [hv]
      dsimp only
      rw [if_neg h14, swN_in (by omega) (by decide)]
    rw [he] at hF
    have hP := cM_puts E σ m hi t (4 * q + j) 1 (4 * nI q + nI j) z 0 hR (fun _ => ⟨by rw [show (4 : Int32) = nI 4 from rfl, pk_mul, nI_add], by omega, aj_lo (by omega)⟩)
    rw [if_neg (by decide), if_neg (by decide)] at hP
    refine j_iconst (q := 18) (v := 1) dX7_alter_17 rfl (by decide) ?_
    refine j_goto (tgt := 22) dX7_alter_18 (by decide) ?_
    refine j_iconst (q := 23) (v := 4) dX7_alter_22 rfl (by decide) ?_
    refine j_iload_n (q := 24) dX7_alter_23 rfl (by rfl) ?_
    refine j_imul (q := 25) dX7_alter_24 rfl ?_
    refine j_iload_n (q := 26) dX7_alter_25 rfl (by rfl) ?_
    refine j_iadd (q := 27) dX7_alter_26 rfl ?_
    refine j_iload_n (q := 28) dX7_alter_27 rfl (by rfl) ?_
    refine j_iconst (q := 29) (v := 0) dX7_alter_28 rfl (by decide) ?_
    refine o_callVi (q := 32) dX7_alter_29 rfl lX7_183 mwX7_puts mvX7_puts cn7 (by assumption) (by rfl) rfl (Nat.le_of_ble_eq_true (by rfl)) (by first | decide | omega) (hP) ?_
    refine o_iret hF rfl dX7_alter_32 ?_
    exact ⟨rfl, rfl⟩
theorem cM_tell (E : gEv) (σ : gSg) (m : gMem) (hi t : Nat) (k v : Int32) (hR : gR σ t) : gCo E yX7_tell cX7_tell 3 (some .int) 1 [.ref t, .int k, .int v] σ m hi (gX (some (.int (xTell (pgR m t 0) k v).1)) (gQ m t 0 (xTell (pgR m t 0) k v).2)) := by
  refine gCo.of mwX7_tell (Nat.le_of_ble_eq_true rfl) ?_
  intro F hF
  have h0 := hR.1
  refine j_iload_n (q := 1) dX7_tell_0 rfl (by rfl) ?_
  refine j_if_ne (q := 4) (tgt := 23) dX7_tell_1 rfl (by decide) (fun h1 => ?_) (fun h1 => ?_)
  · have K46 : ∀ gd : Int32, gd = (if k = 1 ∧ 0 ≤ v ∧ v ≤ 20 then 1 else 0) → (gJ E yX7_tell cX7_tell 3 (some .int) (gRm 1 0 0) F 46 ([some (.ref t), some (.int k), some (.int v)]) ([.int gd, .ref t]) 0 0 σ (m) hi) := by
      intro gd hgd
      have hP := cM_puts E σ m hi t 51 gd 51 v 4 hR (fun _ => ⟨rfl, by decide, rfl⟩)
      refine j_bipush (q := 48) (v := 51) dX7_tell_46 rfl (by decide) ?_
      refine j_iload_n (q := 49) dX7_tell_48 rfl (by rfl) ?_
      refine j_iconst (q := 50) (v := 4) dX7_tell_49 rfl (by decide) ?_
      refine o_callVi (q := 53) dX7_tell_50 rfl lX7_183 mwX7_puts mvX7_puts cn7 (by assumption) (by rfl) rfl (Nat.le_of_ble_eq_true (by rfl)) (by first | decide | omega) (hP) ?_
      unfold xTell at hF
      rw [if_neg (fun q => h1 q.1)] at hF
      by_cases hg : k = 1 ∧ 0 ≤ v ∧ v ≤ 20
      · rw [if_pos hg] at hgd hF
        subst hgd
        refine o_iret hF rfl dX7_tell_53 ?_
        rw [if_neg (by decide), if_neg (by decide)]
        exact ⟨rfl, rfl⟩
      · rw [if_neg hg] at hgd hF
        subst hgd
        refine o_iret hF rfl dX7_tell_53 ?_
        rw [if_pos rfl, if_pos rfl]
        exact ⟨rfl, (gQ_pgR m t 0).symm⟩
    refine j_aload_n (q := 24) dX7_tell_23 rfl (by rfl) ?_
    refine j_iload_n (q := 25) dX7_tell_24 rfl (by rfl) ?_
    refine j_iconst (q := 26) (v := 1) dX7_tell_25 rfl (by decide) ?_
    refine j_icmp_ne (q := 29) (tgt := 45) dX7_tell_26 rfl (by decide) (fun h26 => ?_) (fun h26 => ?_)
    · refine j_iconst (q := 46) (v := 0) dX7_tell_45 rfl (by decide) ?_
      exact K46 0 (by rw [if_neg (fun q => h26 q.1)])
    · have h26' : k = 1 := by first | exact h26 | exact Decidable.not_not.mp h26
      refine j_iload_n (q := 30) dX7_tell_29 rfl (by rfl) ?_
      refine j_i2l (q := 31) dX7_tell_30 rfl ?_
      refine j_lconst (q := 32) (v := 0) dX7_tell_31 rfl (by decide) ?_
      refine j_ldc2 (q := 35) dX7_tell_32 rfl kX7_177 ?_
      refine o_callSi (q := 38) dX7_tell_35 rfl lX7_55 mwX7_in msX7_in (by rfl) rfl (Nat.le_of_ble_eq_true (by rfl)) (by first | decide | omega) (cM_inI E σ m hi v 0 20 (by decide) (by decide)) ?_
      refine j_if_eq (q := 41) (tgt := 45) dX7_tell_38 rfl (by decide) (fun h38 => ?_) (fun h38 => ?_)
      · refine j_iconst (q := 46) (v := 0) dX7_tell_45 rfl (by decide) ?_
        exact K46 0 (by rw [if_neg (fun q => sWi_0 h38 q.2)])
      · refine j_iconst (q := 42) (v := 1) dX7_tell_41 rfl (by decide) ?_
        refine j_goto (tgt := 46) dX7_tell_42 (by decide) ?_
        exact K46 1 (by rw [if_pos ⟨h26', sWi_1 h38⟩])
  · have h1' : k = 0 := by first | exact h1 | exact Decidable.not_not.mp h1
    have hP := cM_puts E σ m hi t 50 (sWi v 0 40) 50 v 8 hR (fun _ => ⟨rfl, by decide, rfl⟩)
    refine j_aload_n (q := 5) dX7_tell_4 rfl (by rfl) ?_
    refine j_iload_n (q := 6) dX7_tell_5 rfl (by rfl) ?_
    refine j_i2l (q := 7) dX7_tell_6 rfl ?_
    refine j_lconst (q := 8) (v := 0) dX7_tell_7 rfl (by decide) ?_
    refine j_ldc2 (q := 11) dX7_tell_8 rfl kX7_187 ?_
    refine o_callSi (q := 14) dX7_tell_11 rfl lX7_55 mwX7_in msX7_in (by rfl) rfl (Nat.le_of_ble_eq_true (by rfl)) (by first | decide | omega) (cM_inI E σ m hi v 0 40 (by decide) (by decide)) ?_
    refine j_bipush (q := 16) (v := 50) dX7_tell_14 rfl (by decide) ?_
    refine j_iload_n (q := 17) dX7_tell_16 rfl (by rfl) ?_
    refine j_bipush (q := 19) (v := 8) dX7_tell_17 rfl (by decide) ?_
    refine o_callVi (q := 22) dX7_tell_19 rfl lX7_183 mwX7_puts mvX7_puts cn7 (by assumption) (by rfl) rfl (Nat.le_of_ble_eq_true (by rfl)) (by first | decide | omega) (hP) ?_
    refine o_iret hF rfl dX7_tell_22 ?_
    unfold xTell
    by_cases hg : sWi v 0 40 = 0
    · rw [if_pos hg, if_pos hg, if_neg (fun q => sWi_0 hg q.2), if_neg (fun q => by rw [h1'] at q; exact absurd q.1 (by decide))]
      exact ⟨rfl, (gQ_pgR m t 0).symm⟩
    · rw [if_neg hg, if_neg hg, if_pos ⟨h1', sWi_1 hg⟩]
      exact ⟨rfl, rfl⟩
theorem cM_set (E : gEv) (σ : gSg) (m : gMem) (hi t : Nat) (i k v : Int32) (hR : gR σ t) (ho : okM m t) : gCo E yX7_set cX7_set 5 (some .int) 2 [.ref t, .int i, .int k, .int v] σ m hi (gX (some (.int (xSet (pgR m t 0) i k v).1)) (gQ m t 0 (xSet (pgR m t 0) i k v).2)) := by
  refine gCo.of mwX7_set (Nat.le_of_ble_eq_true rfl) ?_
  intro F hF
  have h0 := hR.1
  obtain ⟨r, hh, e1, e2, -, -⟩ := ho.2
  have K38 : ∀ gd : Int32, gd = (if (k = 0 ∧ 0 ≤ v ∧ v ≤ 9) ∨ (k = 1 ∧ 0 ≤ v ∧ v ≤ 4) then 1 else 0) → (gJ E yX7_set cX7_set 5 (some .int) (gRm 2 0 0) F 38 ([some (.ref t), some (.int i), some (.int k), some (.int v), none]) ([.int gd]) 0 0 σ (m) hi) := by
    intro gd hgd
    have hbad : xSet (pgR m t 0) i k v = (-1, pgR m t 0) → (gJ E yX7_set cX7_set 5 (some .int) (gRm 2 0 0) F 59 ([some (.ref t), some (.int i), some (.int k), some (.int v), some (.int gd)]) ([.int 0, .ref t]) 0 0 σ (m) hi) := by
      intro he
      rw [he] at hF
      have hP := cM_puts E σ m hi t 0 0 (25 + 12 * k + i) v 0 hR (fun q => absurd rfl q)
      rw [if_pos rfl, if_pos rfl] at hP
      refine j_bipush (q := 61) (v := 25) dX7_set_59 rfl (by decide) ?_
      refine j_bipush (q := 63) (v := 12) dX7_set_61 rfl (by decide) ?_
      refine j_iload_n (q := 64) dX7_set_63 rfl (by rfl) ?_
      refine j_imul (q := 65) dX7_set_64 rfl ?_
      refine j_iadd (q := 66) dX7_set_65 rfl ?_
      refine j_iload_n (q := 67) dX7_set_66 rfl (by rfl) ?_
      refine j_iadd (q := 68) dX7_set_67 rfl ?_
      refine j_iload_n (q := 69) dX7_set_68 rfl (by rfl) ?_
      refine j_iconst (q := 70) (v := 0) dX7_set_69 rfl (by decide) ?_
      refine o_callVi (q := 73) dX7_set_70 rfl lX7_183 mwX7_puts mvX7_puts cn7 (by assumption) (by rfl) rfl (Nat.le_of_ble_eq_true (by rfl)) (by first | decide | omega) (hP) ?_
      refine o_iret hF rfl dX7_set_73 ?_
      exact ⟨rfl, (gQ_pgR m t 0).symm⟩
    refine j_istore (q := 40) dX7_set_38 rfl (by decide) ?_
    refine j_aload_n (q := 41) dX7_set_40 rfl (by rfl) ?_
    refine j_aload_n (q := 42) dX7_set_41 rfl (by rfl) ?_
    refine j_iload_n (q := 43) dX7_set_42 rfl (by rfl) ?_
    refine o_callVi (q := 46) dX7_set_43 rfl lX7_166 mwX7_isRow mvX7_isRow cn7 (by assumption) (by rfl) rfl (Nat.le_of_ble_eq_true (by rfl)) (by first | decide | omega) (cM_isRow E σ m hi t r i hR e1 e2) ?_
    rcases ixV_or i e1 (by omega) with ⟨hs, hv⟩ | ⟨j, hj, ej, hs, hv⟩
    · rw [← e1, hs]
      refine j_if_eq (q := 49) (tgt := 58) dX7_set_46 rfl (by decide) (fun h46 => ?_) (fun h46 => ?_)
      · refine j_iconst (q := 59) (v := 0) dX7_set_58 rfl (by decide) ?_
        exact hbad (by unfold xSet; rw [hv])
      · exact absurd rfl h46
    rw [← e1, hs]
    subst ej
    refine j_if_eq (q := 49) (tgt := 58) dX7_set_46 rfl (by decide) (fun h46 => ?_) (fun h46 => ?_)
    · exact absurd h46 (by decide)
    refine j_iload (q := 51) dX7_set_49 rfl (by rfl) ?_
    by_cases hg : (k = 0 ∧ 0 ≤ v ∧ v ≤ 9) ∨ (k = 1 ∧ 0 ≤ v ∧ v ≤ 4)
    · rw [if_pos hg] at hgd
      subst hgd
      refine j_if_eq (q := 54) (tgt := 58) dX7_set_51 rfl (by decide) (fun h51 => ?_) (fun h51 => ?_)
      · exact absurd h51 (by decide)
      rcases hg with hg | hg
      · have he : xSet (pgR m t 0) (nI j) k v = (pgR m t 0 (25 + j), upd (pgR m t 0) (25 + j) v) := by
          unfold xSet
          rw [hv]
          exact if_pos hg
        rw [he] at hF
        have hP := cM_puts E σ m hi t (25 + j) 1 (25 + 12 * k + nI j) v 0 hR (fun _ => ⟨by rw [hg.1, show (25 : Int32) + 12 * 0 = nI 25 from rfl, nI_add], by omega, aj_lo (by omega)⟩)
        rw [if_neg (by decide), if_neg (by decide)] at hP
        refine j_iconst (q := 55) (v := 1) dX7_set_54 rfl (by decide) ?_
        refine j_goto (tgt := 59) dX7_set_55 (by decide) ?_
        refine j_bipush (q := 61) (v := 25) dX7_set_59 rfl (by decide) ?_
        refine j_bipush (q := 63) (v := 12) dX7_set_61 rfl (by decide) ?_
        refine j_iload_n (q := 64) dX7_set_63 rfl (by rfl) ?_
        refine j_imul (q := 65) dX7_set_64 rfl ?_
        refine j_iadd (q := 66) dX7_set_65 rfl ?_
        refine j_iload_n (q := 67) dX7_set_66 rfl (by rfl) ?_
        refine j_iadd (q := 68) dX7_set_67 rfl ?_
        refine j_iload_n (q := 69) dX7_set_68 rfl (by rfl) ?_
        refine j_iconst (q := 70) (v := 0) dX7_set_69 rfl (by decide) ?_
        refine o_callVi (q := 73) dX7_set_70 rfl lX7_183 mwX7_puts mvX7_puts cn7 (by assumption) (by rfl) rfl (Nat.le_of_ble_eq_true (by rfl)) (by first | decide | omega) (hP) ?_
        refine o_iret hF rfl dX7_set_73 ?_
        exact ⟨rfl, rfl⟩
      · have he : xSet (pgR m t 0) (nI j) k v = (pgR m t 0 (37 + j), upd (pgR m t 0) (37 + j) v) := by
          unfold xSet
          rw [hv]
          dsimp only
          rw [if_neg (fun q => by rw [hg.1] at q; exact absurd q.1 (by decide)), if_pos hg]
        rw [he] at hF
        have hP := cM_puts E σ m hi t (37 + j) 1 (25 + 12 * k + nI j) v 0 hR (fun _ => ⟨by rw [hg.1, show (25 : Int32) + 12 * 1 = nI 37 from rfl, nI_add], by omega, aj_lo (by omega)⟩)
        rw [if_neg (by decide), if_neg (by decide)] at hP
        refine j_iconst (q := 55) (v := 1) dX7_set_54 rfl (by decide) ?_
        refine j_goto (tgt := 59) dX7_set_55 (by decide) ?_
        refine j_bipush (q := 61) (v := 25) dX7_set_59 rfl (by decide) ?_
        refine j_bipush (q := 63) (v := 12) dX7_set_61 rfl (by decide) ?_
        refine j_iload_n (q := 64) dX7_set_63 rfl (by rfl) ?_
        refine j_imul (q := 65) dX7_set_64 rfl ?_
        refine j_iadd (q := 66) dX7_set_65 rfl ?_
        refine j_iload_n (q := 67) dX7_set_66 rfl (by rfl) ?_
        refine j_iadd (q := 68) dX7_set_67 rfl ?_
        refine j_iload_n (q := 69) dX7_set_68 rfl (by rfl) ?_
        refine j_iconst (q := 70) (v := 0) dX7_set_69 rfl (by decide) ?_
        refine o_callVi (q := 73) dX7_set_70 rfl lX7_183 mwX7_puts mvX7_puts cn7 (by assumption) (by rfl) rfl (Nat.le_of_ble_eq_true (by rfl)) (by first | decide | omega) (hP) ?_
        refine o_iret hF rfl dX7_set_73 ?_
        exact ⟨rfl, rfl⟩
    · rw [if_neg hg] at hgd
      subst hgd
      refine j_if_eq (q := 54) (tgt := 58) dX7_set_51 rfl (by decide) (fun h51 => ?_) (fun h51 => ?_)
      · refine j_iconst (q := 59) (v := 0) dX7_set_58 rfl (by decide) ?_
        refine hbad ?_
        unfold xSet
        rw [hv]
        dsimp only
        rw [if_neg (fun q => hg (Or.inl q)), if_neg (fun q => hg (Or.inr q))]
      · exact absurd rfl h51
  refine j_iload_n (q := 1) dX7_set_0 rfl (by rfl) ?_
  refine j_if_ne (q := 4) (tgt := 16) dX7_set_1 rfl (by decide) (fun h1 => ?_) (fun h1 => ?_)
  · refine j_iload_n (q := 17) dX7_set_16 rfl (by rfl) ?_
    refine j_iconst (q := 18) (v := 1) dX7_set_17 rfl (by decide) ?_
    refine j_icmp_ne (q := 21) (tgt := 37) dX7_set_18 rfl (by decide) (fun h18 => ?_) (fun h18 => ?_)
    · refine j_iconst (q := 38) (v := 0) dX7_set_37 rfl (by decide) ?_
      exact K38 0 (by rw [if_neg (fun q => q.elim (fun q => h1 q.1) (fun q => h18 q.1))])
    · have h18' : k = 1 := by first | exact h18 | exact Decidable.not_not.mp h18
      refine j_iload_n (q := 22) dX7_set_21 rfl (by rfl) ?_
      refine j_i2l (q := 23) dX7_set_22 rfl ?_
      refine j_lconst (q := 24) (v := 0) dX7_set_23 rfl (by decide) ?_
      refine j_ldc2 (q := 27) dX7_set_24 rfl kX7_189 ?_
      refine o_callSi (q := 30) dX7_set_27 rfl lX7_55 mwX7_in msX7_in (by rfl) rfl (Nat.le_of_ble_eq_true (by rfl)) (by first | decide | omega) (cM_inI E σ m hi v 0 4 (by decide) (by decide)) ?_
      refine j_if_eq (q := 33) (tgt := 37) dX7_set_30 rfl (by decide) (fun h30 => ?_) (fun h30 => ?_)
      · refine j_iconst (q := 38) (v := 0) dX7_set_37 rfl (by decide) ?_
        exact K38 0 (by rw [if_neg (fun q => q.elim (fun q => h1 q.1) (fun q => sWi_0 h30 q.2))])
      · refine j_iconst (q := 34) (v := 1) dX7_set_33 rfl (by decide) ?_
        refine j_goto (tgt := 38) dX7_set_34 (by decide) ?_
        exact K38 1 (by rw [if_pos (Or.inr ⟨h18', sWi_1 h30⟩)])
  · have h1' : k = 0 := by first | exact h1 | exact Decidable.not_not.mp h1
    refine j_iload_n (q := 5) dX7_set_4 rfl (by rfl) ?_
    refine j_i2l (q := 6) dX7_set_5 rfl ?_
    refine j_lconst (q := 7) (v := 0) dX7_set_6 rfl (by decide) ?_
    refine j_ldc2 (q := 10) dX7_set_7 rfl kX7_173 ?_
    refine o_callSi (q := 13) dX7_set_10 rfl lX7_55 mwX7_in msX7_in (by rfl) rfl (Nat.le_of_ble_eq_true (by rfl)) (by first | decide | omega) (cM_inI E σ m hi v 0 9 (by decide) (by decide)) ?_
    refine j_goto (tgt := 38) dX7_set_13 (by decide) ?_
    refine K38 _ ?_
    by_cases hg : sWi v 0 9 = 0
    · rw [hg, if_neg (fun q => q.elim (fun q => sWi_0 hg q.2) (fun q => by rw [h1'] at q; exact absurd q.1 (by decide)))]
    · rw [if_pos (Or.inl ⟨h1', sWi_1 hg⟩)]
      exact (sWi_z v 0 9).resolve_left hg
theorem cM_cut (E : gEv) (σ : gSg) (m : gMem) (hi t : Nat) (n : Int32) (hR : gR σ t) : gCo E yX7_cut cX7_cut 2 (some .int) 1 [.ref t, .int n] σ m hi (gX (some (.int (xCut (pgR m t 0) n).1)) (gQ m t 0 (xCut (pgR m t 0) n).2)) := by
  refine gCo.of mwX7_cut (Nat.le_of_ble_eq_true rfl) ?_
  intro F hF
  have h0 := hR.1
  have h1 := hR.2.1
  have i24 : gIdx 24 318 24 := gIdx.of rfl (by decide) (by decide)
  have hP := cM_puts E σ m hi t 24 (sWi n 0 (pgR m t 0 24)) 24 n 0 hR (fun _ => ⟨rfl, by decide, rfl⟩)
  refine j_aload_n (q := 1) dX7_cut_0 rfl (by rfl) ?_
  refine j_iload_n (q := 2) dX7_cut_1 rfl (by rfl) ?_
  refine j_i2l (q := 3) dX7_cut_2 rfl ?_
  refine j_lconst (q := 4) (v := 0) dX7_cut_3 rfl (by decide) ?_
  refine j_aload_n (q := 5) dX7_cut_4 rfl (by rfl) ?_
  refine j_getr (q := 8) dX7_cut_5 rfl fX7_7 (by first | with_reducible assumption | assumption) (by rfl) ?_
  refine j_bipush (q := 10) (v := 24) dX7_cut_8 rfl (by decide) ?_
  refine j_iaload (q := 11) dX7_cut_10 rfl (by first | with_reducible assumption | assumption) (by first | with_reducible assumption | assumption) ?_
  rw [r0_j m t (by omega)]
  refine j_i2l (q := 12) dX7_cut_11 rfl ?_
  refine o_callSi (q := 15) dX7_cut_12 rfl lX7_55 mwX7_in msX7_in (by rfl) rfl (Nat.le_of_ble_eq_true (by rfl)) (by first | decide | omega) (cM_inI E σ m hi n 0 (pgR m t 0 24) (by decide) rfl) ?_
  refine j_bipush (q := 17) (v := 24) dX7_cut_15 rfl (by decide) ?_
  refine j_iload_n (q := 18) dX7_cut_17 rfl (by rfl) ?_
  refine j_iconst (q := 19) (v := 0) dX7_cut_18 rfl (by decide) ?_
  refine o_callVi (q := 22) dX7_cut_19 rfl lX7_183 mwX7_puts mvX7_puts cn7 (by assumption) (by rfl) rfl (Nat.le_of_ble_eq_true (by rfl)) (by first | decide | omega) (hP) ?_
  refine o_iret hF rfl dX7_cut_22 ?_
  unfold xCut
  by_cases hg : sWi n 0 (pgR m t 0 24) = 0
  · rw [if_pos hg, if_pos hg, if_neg (sWi_0 hg)]
    exact ⟨rfl, (gQ_pgR m t 0).symm⟩
  · rw [if_neg hg, if_neg hg, if_pos (sWi_1 hg)]
    exact ⟨rfl, rfl⟩
theorem cM_drop (E : gEv) (σ : gSg) (m : gMem) (hi t : Nat) (n : Int32) (hR : gR σ t) : gCo E yX7_drop cX7_drop 2 (some .int) 1 [.ref t, .int n] σ m hi (gX (some (.int (xDrop (pgR m t 0) n).1)) (gQ m t 0 (xDrop (pgR m t 0) n).2)) := by
  refine gCo.of mwX7_drop (Nat.le_of_ble_eq_true rfl) ?_
  intro F hF
  have h0 := hR.1
  have h1 := hR.2.1
  have i49 : gIdx 49 318 49 := gIdx.of rfl (by decide) (by decide)
  have hP := cM_puts E σ m hi t 49 (sWi n 0 (pgR m t 0 49)) 49 n 0 hR (fun _ => ⟨rfl, by decide, rfl⟩)
  refine j_aload_n (q := 1) dX7_drop_0 rfl (by rfl) ?_
  refine j_iload_n (q := 2) dX7_drop_1 rfl (by rfl) ?_
  refine j_i2l (q := 3) dX7_drop_2 rfl ?_
  refine j_lconst (q := 4) (v := 0) dX7_drop_3 rfl (by decide) ?_
  refine j_aload_n (q := 5) dX7_drop_4 rfl (by rfl) ?_
  refine j_getr (q := 8) dX7_drop_5 rfl fX7_7 (by first | with_reducible assumption | assumption) (by rfl) ?_
  refine j_bipush (q := 10) (v := 49) dX7_drop_8 rfl (by decide) ?_
  refine j_iaload (q := 11) dX7_drop_10 rfl (by first | with_reducible assumption | assumption) (by first | with_reducible assumption | assumption) ?_
  rw [r0_j m t (by omega)]
  refine j_i2l (q := 12) dX7_drop_11 rfl ?_
  refine o_callSi (q := 15) dX7_drop_12 rfl lX7_55 mwX7_in msX7_in (by rfl) rfl (Nat.le_of_ble_eq_true (by rfl)) (by first | decide | omega) (cM_inI E σ m hi n 0 (pgR m t 0 49) (by decide) rfl) ?_
  refine j_bipush (q := 17) (v := 49) dX7_drop_15 rfl (by decide) ?_
  refine j_iload_n (q := 18) dX7_drop_17 rfl (by rfl) ?_
  refine j_iconst (q := 19) (v := 0) dX7_drop_18 rfl (by decide) ?_
  refine o_callVi (q := 22) dX7_drop_19 rfl lX7_183 mwX7_puts mvX7_puts cn7 (by assumption) (by rfl) rfl (Nat.le_of_ble_eq_true (by rfl)) (by first | decide | omega) (hP) ?_
  refine o_iret hF rfl dX7_drop_22 ?_
  unfold xDrop
  by_cases hg : sWi n 0 (pgR m t 0 49) = 0
  · rw [if_pos hg, if_pos hg, if_neg (sWi_0 hg)]
    exact ⟨rfl, (gQ_pgR m t 0).symm⟩
  · rw [if_neg hg, if_neg hg, if_pos (sWi_1 hg)]
    exact ⟨rfl, rfl⟩
theorem cM_open (E : gEv) (σ : gSg) (m : gMem) (hi t : Nat) (a b u : Int32) (hR : gR σ t) (ho : okM m t) : gCo E yX7_open cX7_open 5 (some .int) 1 [.ref t, .int a, .int b, .int u] σ m hi (gX (some (.int (xOpen (pgR m t 0) a b u).1)) (gQ m t 0 (xOpen (pgR m t 0) a b u).2)) := by
  refine gCo.of mwX7_open (Nat.le_of_ble_eq_true rfl) ?_
  intro F hF
  have h0 := hR.1
  have h1 := hR.2.1
  obtain ⟨c, hc, hc4⟩ := ho.1
  have hcn : cnt (pgR m t 0) = c := by unfold cnt; rw [hc]; exact nI_clamp (by omega)
  have i24 : gIdx 24 318 24 := gIdx.of rfl (by decide) (by decide)
  have K38 : (0 ≤ a ∧ a ≤ 3) ∧ (1 ≤ b ∧ b ≤ 60) ∧ (0 ≤ u ∧ u ≤ 9) → (gJ E yX7_open cX7_open 5 (some .int) (gRm 1 0 0) F 38 ([some (.ref t), some (.int a), some (.int b), some (.int u), none]) ([]) 0 0 σ (m) hi) := by
    intro hg
    unfold xOpen at hF
    rw [if_pos hg, hcn] at hF
    refine j_aload_n (q := 39) dX7_open_38 rfl (by rfl) ?_
    refine j_getr (q := 42) dX7_open_39 rfl fX7_7 (by first | with_reducible assumption | assumption) (by rfl) ?_
    refine j_bipush (q := 44) (v := 24) dX7_open_42 rfl (by decide) ?_
    refine j_iaload (q := 45) dX7_open_44 rfl (by first | with_reducible assumption | assumption) (by first | with_reducible assumption | assumption) ?_
    rw [r0_j m t (by omega), hc]
    refine j_istore (q := 47) dX7_open_45 rfl (by decide) ?_
    refine j_iload (q := 49) dX7_open_47 rfl (by rfl) ?_
    refine j_iconst (q := 50) (v := 4) dX7_open_49 rfl (by decide) ?_
    by_cases hl : c < 4
    · rw [if_pos hl] at hF
      have ic : gIdx (nI c) 318 c := gIdx.of rfl (by omega) (by decide)
      have i4 : gIdx (4 + nI c) 318 (4 + c) := gIdx.of (nI_add 4 c) (by omega) (by decide)
      have i8 : gIdx (8 + nI c) 318 (8 + c) := gIdx.of (nI_add 8 c) (by omega) (by decide)
      have i12 : gIdx (12 + nI c) 318 (12 + c) := gIdx.of (nI_add 12 c) (by omega) (by decide)
      have i16 : gIdx (16 + nI c) 318 (16 + c) := gIdx.of (nI_add 16 c) (by omega) (by decide)
      have i20 : gIdx (20 + nI c) 318 (20 + c) := gIdx.of (nI_add 20 c) (by omega) (by decide)
      refine j_icmp_ne (q := 53) (tgt := 56) dX7_open_50 rfl (by decide) (fun h50 => ?_) (fun h50 => ?_)
      · refine j_aload_n (q := 57) dX7_open_56 rfl (by rfl) ?_
        refine j_getr (q := 60) dX7_open_57 rfl fX7_7 (by first | with_reducible assumption | assumption) (by rfl) ?_
        refine j_iload (q := 62) dX7_open_60 rfl (by rfl) ?_
        refine j_iload_n (q := 63) dX7_open_62 rfl (by rfl) ?_
        refine j_iastore (q := 64) dX7_open_63 rfl (by first | with_reducible assumption | assumption) (by first | with_reducible assumption | assumption) ?_
        rw [gW_r0 (k := c) (by omega), ← aj_lo (by omega), i_a0]
        refine j_aload_n (q := 65) dX7_open_64 rfl (by rfl) ?_
        refine j_getr (q := 68) dX7_open_65 rfl fX7_7 (by first | with_reducible assumption | assumption) (by rfl) ?_
        refine j_iconst (q := 69) (v := 4) dX7_open_68 rfl (by decide) ?_
        refine j_iload (q := 71) dX7_open_69 rfl (by rfl) ?_
        refine j_iadd (q := 72) dX7_open_71 rfl ?_
        refine j_iload_n (q := 73) dX7_open_72 rfl (by rfl) ?_
        refine j_iastore (q := 74) dX7_open_73 rfl (by first | with_reducible assumption | assumption) (by first | with_reducible assumption | assumption) ?_
        rw [gW_q0 (by omega)]
        refine j_aload_n (q := 75) dX7_open_74 rfl (by rfl) ?_
        refine j_getr (q := 78) dX7_open_75 rfl fX7_7 (by first | with_reducible assumption | assumption) (by rfl) ?_
        refine j_bipush (q := 80) (v := 8) dX7_open_78 rfl (by decide) ?_
        refine j_iload (q := 82) dX7_open_80 rfl (by rfl) ?_
        refine j_iadd (q := 83) dX7_open_82 rfl ?_
        refine j_iload_n (q := 84) dX7_open_83 rfl (by rfl) ?_
        refine j_iastore (q := 85) dX7_open_84 rfl (by first | with_reducible assumption | assumption) (by first | with_reducible assumption | assumption) ?_
        rw [gW_q0 (by omega)]
        refine j_aload_n (q := 86) dX7_open_85 rfl (by rfl) ?_
        refine j_getr (q := 89) dX7_open_86 rfl fX7_7 (by first | with_reducible assumption | assumption) (by rfl) ?_
        refine j_bipush (q := 91) (v := 12) dX7_open_89 rfl (by decide) ?_
        refine j_iload (q := 93) dX7_open_91 rfl (by rfl) ?_
        refine j_iadd (q := 94) dX7_open_93 rfl ?_
        refine j_iconst (q := 95) (v := 0) dX7_open_94 rfl (by decide) ?_
        refine j_iastore (q := 96) dX7_open_95 rfl (by first | with_reducible assumption | assumption) (by first | with_reducible assumption | assumption) ?_
        rw [gW_q0 (by omega)]
        refine j_aload_n (q := 97) dX7_open_96 rfl (by rfl) ?_
        refine j_getr (q := 100) dX7_open_97 rfl fX7_7 (by first | with_reducible assumption | assumption) (by rfl) ?_
        refine j_bipush (q := 102) (v := 16) dX7_open_100 rfl (by decide) ?_
        refine j_iload (q := 104) dX7_open_102 rfl (by rfl) ?_
        refine j_iadd (q := 105) dX7_open_104 rfl ?_
        refine j_iconst (q := 106) (v := 0) dX7_open_105 rfl (by decide) ?_
        refine j_iastore (q := 107) dX7_open_106 rfl (by first | with_reducible assumption | assumption) (by first | with_reducible assumption | assumption) ?_
        rw [gW_q0 (by omega)]
        refine j_aload_n (q := 108) dX7_open_107 rfl (by rfl) ?_
        refine j_getr (q := 111) dX7_open_108 rfl fX7_7 (by first | with_reducible assumption | assumption) (by rfl) ?_
        refine j_bipush (q := 113) (v := 20) dX7_open_111 rfl (by decide) ?_
        refine j_iload (q := 115) dX7_open_113 rfl (by rfl) ?_
        refine j_iadd (q := 116) dX7_open_115 rfl ?_
        refine j_iconst (q := 117) (v := 0) dX7_open_116 rfl (by decide) ?_
        refine j_iastore (q := 118) dX7_open_117 rfl (by first | with_reducible assumption | assumption) (by first | with_reducible assumption | assumption) ?_
        rw [gW_q0 (by omega)]
        refine j_aload_n (q := 119) dX7_open_118 rfl (by rfl) ?_
        refine j_getr (q := 122) dX7_open_119 rfl fX7_7 (by first | with_reducible assumption | assumption) (by rfl) ?_
        refine j_bipush (q := 124) (v := 24) dX7_open_122 rfl (by decide) ?_
        refine j_dup2 (q := 125) dX7_open_124 rfl rfl rfl ?_
        refine j_iaload (q := 126) dX7_open_125 rfl (by first | with_reducible assumption | assumption) (by first | with_reducible assumption | assumption) ?_
        rw [q0_i (by omega), pk_un (by omega), pk_un (by omega), pk_un (by omega), pk_un (by omega), pk_un (by omega), pk_un (by omega)]
        refine j_iconst (q := 127) (v := 1) dX7_open_126 rfl (by decide) ?_
        refine j_iadd (q := 128) dX7_open_127 rfl ?_
        refine j_iastore (q := 129) dX7_open_128 rfl (by first | with_reducible assumption | assumption) (by first | with_reducible assumption | assumption) ?_
        rw [gW_q0 (by omega)]
        refine j_aload_n (q := 130) dX7_open_129 rfl (by rfl) ?_
        refine j_getr (q := 133) dX7_open_130 rfl fX7_7 (by first | with_reducible assumption | assumption) (by rfl) ?_
        refine j_bipush (q := 135) (v := 24) dX7_open_133 rfl (by decide) ?_
        refine j_iaload (q := 136) dX7_open_135 rfl (by first | with_reducible assumption | assumption) (by first | with_reducible assumption | assumption) ?_
        rw [q0_i (by omega), pk_us]
        refine o_iret hF rfl dX7_open_136 ?_
        refine ⟨rfl, ?_⟩
        unfold opn
        rw [show 4 * 0 + c = c by omega]
      · exact absurd (nI_inj (a := c) (b := 4) (by omega) (by omega) (by first | exact h50 | exact Decidable.not_not.mp h50)) (by omega)
    · rw [if_neg hl] at hF
      have : c = 4 := by omega
      subst this
      refine j_icmp_ne (q := 53) (tgt := 56) dX7_open_50 rfl (by decide) (fun h50 => ?_) (fun h50 => ?_)
      · exact absurd rfl h50
      · refine j_bipush (q := 55) (v := (-3)) dX7_open_53 rfl (by decide) ?_
        refine o_iret hF rfl dX7_open_55 ?_
        exact ⟨rfl, (gQ_pgR m t 0).symm⟩
  refine j_iload_n (q := 1) dX7_open_0 rfl (by rfl) ?_
  refine j_i2l (q := 2) dX7_open_1 rfl ?_
  refine j_lconst (q := 3) (v := 0) dX7_open_2 rfl (by decide) ?_
  refine j_ldc2 (q := 6) dX7_open_3 rfl kX7_169 ?_
  refine o_callSi (q := 9) dX7_open_6 rfl lX7_55 mwX7_in msX7_in (by rfl) rfl (Nat.le_of_ble_eq_true (by rfl)) (by first | decide | omega) (cM_inI E σ m hi a 0 3 (by decide) (by decide)) ?_
  refine j_if_eq (q := 12) (tgt := 36) dX7_open_9 rfl (by decide) (fun h9 => ?_) (fun h9 => ?_)
  · refine j_iconst (q := 37) (v := (-1)) dX7_open_36 rfl (by decide) ?_
    refine o_iret hF rfl dX7_open_37 ?_
    unfold xOpen
    rw [if_neg (fun h => by first | exact sWi_0 h9 h.1 | exact sWi_0 h21 h.2.1 | exact sWi_0 (by first | exact h33 | exact Decidable.not_not.mp h33) h.2.2)]
    exact ⟨rfl, (gQ_pgR m t 0).symm⟩
  · refine j_iload_n (q := 13) dX7_open_12 rfl (by rfl) ?_
    refine j_i2l (q := 14) dX7_open_13 rfl ?_
    refine j_lconst (q := 15) (v := 1) dX7_open_14 rfl (by decide) ?_
    refine j_ldc2 (q := 18) dX7_open_15 rfl kX7_171 ?_
    refine o_callSi (q := 21) dX7_open_18 rfl lX7_55 mwX7_in msX7_in (by rfl) rfl (Nat.le_of_ble_eq_true (by rfl)) (by first | decide | omega) (cM_inI E σ m hi b 1 60 (by decide) (by decide)) ?_
    refine j_if_eq (q := 24) (tgt := 36) dX7_open_21 rfl (by decide) (fun h21 => ?_) (fun h21 => ?_)
    · refine j_iconst (q := 37) (v := (-1)) dX7_open_36 rfl (by decide) ?_
      refine o_iret hF rfl dX7_open_37 ?_
      unfold xOpen
      rw [if_neg (fun h => by first | exact sWi_0 h9 h.1 | exact sWi_0 h21 h.2.1 | exact sWi_0 (by first | exact h33 | exact Decidable.not_not.mp h33) h.2.2)]
      exact ⟨rfl, (gQ_pgR m t 0).symm⟩
    · refine j_iload_n (q := 25) dX7_open_24 rfl (by rfl) ?_
      refine j_i2l (q := 26) dX7_open_25 rfl ?_
      refine j_lconst (q := 27) (v := 0) dX7_open_26 rfl (by decide) ?_
      refine j_ldc2 (q := 30) dX7_open_27 rfl kX7_173 ?_
      refine o_callSi (q := 33) dX7_open_30 rfl lX7_55 mwX7_in msX7_in (by rfl) rfl (Nat.le_of_ble_eq_true (by rfl)) (by first | decide | omega) (cM_inI E σ m hi u 0 9 (by decide) (by decide)) ?_
      refine j_if_ne (q := 36) (tgt := 38) dX7_open_33 rfl (by decide) (fun h33 => ?_) (fun h33 => ?_)
      · exact K38 (And.intro (sWi_1 h9) (And.intro (sWi_1 h21) (sWi_1 h33)))
      · refine j_iconst (q := 37) (v := (-1)) dX7_open_36 rfl (by decide) ?_
        refine o_iret hF rfl dX7_open_37 ?_
        unfold xOpen
        rw [if_neg (fun h => by first | exact sWi_0 h9 h.1 | exact sWi_0 h21 h.2.1 | exact sWi_0 (by first | exact h33 | exact Decidable.not_not.mp h33) h.2.2)]
        exact ⟨rfl, (gQ_pgR m t 0).symm⟩
theorem cM_adds (E : gEv) (σ : gSg) (m : gMem) (hi t : Nat) (w c : Int32) (hR : gR σ t) (hr : ∃ r, pgR m t 0 49 = nI r ∧ r ≤ 12) : gCo E yX7_adds cX7_adds 4 (some .int) 1 [.ref t, .int w, .int c] σ m hi (gX (some (.int (xAdd (pgR m t 0) w c).1)) (gQ m t 0 (xAdd (pgR m t 0) w c).2)) := by
  refine gCo.of mwX7_adds (Nat.le_of_ble_eq_true rfl) ?_
  intro F hF
  have h0 := hR.1
  have h1 := hR.2.1
  obtain ⟨r, e1, e2⟩ := hr
  have hrn : rws (pgR m t 0) = r := by unfold rws; rw [e1]; exact nI_clamp (by omega)
  have i49 : gIdx 49 318 49 := gIdx.of rfl (by decide) (by decide)
  have K26 : (0 ≤ w ∧ w ≤ 9) ∧ (0 ≤ c ∧ c ≤ 4) → (gJ E yX7_adds cX7_adds 4 (some .int) (gRm 1 0 0) F 26 ([some (.ref t), some (.int w), some (.int c), none]) ([]) 0 0 σ (m) hi) := by
    intro hg
    unfold xAdd at hF
    rw [if_pos hg, hrn] at hF
    refine j_aload_n (q := 27) dX7_adds_26 rfl (by rfl) ?_
    refine j_getr (q := 30) dX7_adds_27 rfl fX7_7 (by first | with_reducible assumption | assumption) (by rfl) ?_
    refine j_bipush (q := 32) (v := 49) dX7_adds_30 rfl (by decide) ?_
    refine j_iaload (q := 33) dX7_adds_32 rfl (by first | with_reducible assumption | assumption) (by first | with_reducible assumption | assumption) ?_
    rw [r0_j m t (by omega), e1]
    refine j_istore_n (q := 34) dX7_adds_33 rfl (by decide) ?_
    refine j_iload_n (q := 35) dX7_adds_34 rfl (by rfl) ?_
    refine j_bipush (q := 37) (v := 12) dX7_adds_35 rfl (by decide) ?_
    by_cases hl : r < 12
    · rw [if_pos hl] at hF
      have i25 : gIdx (25 + nI r) 318 (25 + r) := gIdx.of (nI_add 25 r) (by omega) (by decide)
      have i37 : gIdx (37 + nI r) 318 (37 + r) := gIdx.of (nI_add 37 r) (by omega) (by decide)
      refine j_icmp_ne (q := 40) (tgt := 43) dX7_adds_37 rfl (by decide) (fun h37 => ?_) (fun h37 => ?_)
      · refine j_aload_n (q := 44) dX7_adds_43 rfl (by rfl) ?_
        refine j_getr (q := 47) dX7_adds_44 rfl fX7_7 (by first | with_reducible assumption | assumption) (by rfl) ?_
        refine j_bipush (q := 49) (v := 25) dX7_adds_47 rfl (by decide) ?_
        refine j_iload_n (q := 50) dX7_adds_49 rfl (by rfl) ?_
        refine j_iadd (q := 51) dX7_adds_50 rfl ?_
        refine j_iload_n (q := 52) dX7_adds_51 rfl (by rfl) ?_
        refine j_iastore (q := 53) dX7_adds_52 rfl (by first | with_reducible assumption | assumption) (by first | with_reducible assumption | assumption) ?_
        rw [gW_r0 (k := 25 + r) (by omega), ← aj_lo (by omega), i_a0]
        refine j_aload_n (q := 54) dX7_adds_53 rfl (by rfl) ?_
        refine j_getr (q := 57) dX7_adds_54 rfl fX7_7 (by first | with_reducible assumption | assumption) (by rfl) ?_
        refine j_bipush (q := 59) (v := 37) dX7_adds_57 rfl (by decide) ?_
        refine j_iload_n (q := 60) dX7_adds_59 rfl (by rfl) ?_
        refine j_iadd (q := 61) dX7_adds_60 rfl ?_
        refine j_iload_n (q := 62) dX7_adds_61 rfl (by rfl) ?_
        refine j_iastore (q := 63) dX7_adds_62 rfl (by first | with_reducible assumption | assumption) (by first | with_reducible assumption | assumption) ?_
        rw [gW_q0 (by omega)]
        refine j_aload_n (q := 64) dX7_adds_63 rfl (by rfl) ?_
        refine j_getr (q := 67) dX7_adds_64 rfl fX7_7 (by first | with_reducible assumption | assumption) (by rfl) ?_
        refine j_bipush (q := 69) (v := 49) dX7_adds_67 rfl (by decide) ?_
        refine j_dup2 (q := 70) dX7_adds_69 rfl rfl rfl ?_
        refine j_iaload (q := 71) dX7_adds_70 rfl (by first | with_reducible assumption | assumption) (by first | with_reducible assumption | assumption) ?_
        rw [q0_i (by omega), pk_un (by omega), pk_un (by omega)]
        refine j_iconst (q := 72) (v := 1) dX7_adds_71 rfl (by decide) ?_
        refine j_iadd (q := 73) dX7_adds_72 rfl ?_
        refine j_iastore (q := 74) dX7_adds_73 rfl (by first | with_reducible assumption | assumption) (by first | with_reducible assumption | assumption) ?_
        rw [gW_q0 (by omega)]
        refine j_aload_n (q := 75) dX7_adds_74 rfl (by rfl) ?_
        refine j_getr (q := 78) dX7_adds_75 rfl fX7_7 (by first | with_reducible assumption | assumption) (by rfl) ?_
        refine j_bipush (q := 80) (v := 49) dX7_adds_78 rfl (by decide) ?_
        refine j_iaload (q := 81) dX7_adds_80 rfl (by first | with_reducible assumption | assumption) (by first | with_reducible assumption | assumption) ?_
        rw [q0_i (by omega), pk_us]
        refine o_iret hF rfl dX7_adds_81 ?_
        exact ⟨rfl, rfl⟩
      · exact absurd (nI_inj (a := r) (b := 12) (by omega) (by omega) (by first | exact h37 | exact Decidable.not_not.mp h37)) (by omega)
    · rw [if_neg hl] at hF
      have : r = 12 := by omega
      subst this
      refine j_icmp_ne (q := 40) (tgt := 43) dX7_adds_37 rfl (by decide) (fun h37 => ?_) (fun h37 => ?_)
      · exact absurd rfl h37
      · refine j_bipush (q := 42) (v := (-3)) dX7_adds_40 rfl (by decide) ?_
        refine o_iret hF rfl dX7_adds_42 ?_
        exact ⟨rfl, (gQ_pgR m t 0).symm⟩
  refine j_iload_n (q := 1) dX7_adds_0 rfl (by rfl) ?_
  refine j_i2l (q := 2) dX7_adds_1 rfl ?_
  refine j_lconst (q := 3) (v := 0) dX7_adds_2 rfl (by decide) ?_
  refine j_ldc2 (q := 6) dX7_adds_3 rfl kX7_173 ?_
  refine o_callSi (q := 9) dX7_adds_6 rfl lX7_55 mwX7_in msX7_in (by rfl) rfl (Nat.le_of_ble_eq_true (by rfl)) (by first | decide | omega) (cM_inI E σ m hi w 0 9 (by decide) (by decide)) ?_
  refine j_if_eq (q := 12) (tgt := 24) dX7_adds_9 rfl (by decide) (fun h9 => ?_) (fun h9 => ?_)
  · refine j_iconst (q := 25) (v := (-1)) dX7_adds_24 rfl (by decide) ?_
    refine o_iret hF rfl dX7_adds_25 ?_
    unfold xAdd
    rw [if_neg (fun h => by first | exact sWi_0 h9 h.1 | exact sWi_0 (by first | exact h21 | exact Decidable.not_not.mp h21) h.2)]
    exact ⟨rfl, (gQ_pgR m t 0).symm⟩
  · refine j_iload_n (q := 13) dX7_adds_12 rfl (by rfl) ?_
    refine j_i2l (q := 14) dX7_adds_13 rfl ?_
    refine j_lconst (q := 15) (v := 0) dX7_adds_14 rfl (by decide) ?_
    refine j_ldc2 (q := 18) dX7_adds_15 rfl kX7_189 ?_
    refine o_callSi (q := 21) dX7_adds_18 rfl lX7_55 mwX7_in msX7_in (by rfl) rfl (Nat.le_of_ble_eq_true (by rfl)) (by first | decide | omega) (cM_inI E σ m hi c 0 4 (by decide) (by decide)) ?_
    refine j_if_ne (q := 24) (tgt := 26) dX7_adds_21 rfl (by decide) (fun h21 => ?_) (fun h21 => ?_)
    · exact K26 (And.intro (sWi_1 h9) (sWi_1 h21))
    · refine j_iconst (q := 25) (v := (-1)) dX7_adds_24 rfl (by decide) ?_
      refine o_iret hF rfl dX7_adds_25 ?_
      unfold xAdd
      rw [if_neg (fun h => by first | exact sWi_0 h9 h.1 | exact sWi_0 (by first | exact h21 | exact Decidable.not_not.mp h21) h.2)]
      exact ⟨rfl, (gQ_pgR m t 0).symm⟩
theorem cM_add (E : gEv) (σ : gSg) (m : gMem) (hi t : Nat) (w c : Int32) (hR : gR σ t) (ho : okM m t) : gCo E yX7_add cX7_add 3 (some .int) 2 [.ref t, .int w, .int c] σ m hi (gX (some (.int (xAdd (pgR m t 0) w c).1)) (gQ m t 0 (xAdd (pgR m t 0) w c).2)) := by
  refine gCo.of mwX7_add (Nat.le_of_ble_eq_true rfl) ?_
  intro F hF
  have h0 := hR.1
  obtain ⟨r, hh, e1, e2, -, -⟩ := ho.2
  refine j_aload_n (q := 1) dX7_add_0 rfl (by rfl) ?_
  refine j_iload_n (q := 2) dX7_add_1 rfl (by rfl) ?_
  refine j_iload_n (q := 3) dX7_add_2 rfl (by rfl) ?_
  refine o_callVi (q := 6) dX7_add_3 rfl lX7_191 mwX7_adds mvX7_adds cn7 (by assumption) (by rfl) rfl (Nat.le_of_ble_eq_true (by rfl)) (by first | decide | omega) (cM_adds E σ m hi t w c hR ⟨r, e1, e2⟩) ?_
  refine o_iret hF rfl dX7_add_6 ?_
  exact ⟨rfl, rfl⟩
theorem cM_hours (E : gEv) (σ : gSg) (m : gMem) (hi t : Nat) (n : Int32) (hR : gR σ t) (ho : okM m t) : gCo E yX7_hours cX7_hours 4 (some .int) 4 [.ref t, .int n] σ m hi (gX (some (.int (xHours (pgR m t 0) n).1)) (gQ m t 0 (xHours (pgR m t 0) n).2)) := by
  refine gCo.of mwX7_hours (Nat.le_of_ble_eq_true rfl) ?_
  intro F hF
  have h0 := hR.1
  have h1 := hR.2.1
  have i52 : gIdx 52 318 52 := gIdx.of rfl (by decide) (by decide)
  obtain ⟨r, hh, e1, e2, e52, hh9⟩ := ho.2
  refine j_iload_n (q := 1) dX7_hours_0 rfl (by rfl) ?_
  refine j_i2l (q := 2) dX7_hours_1 rfl ?_
  refine j_lconst (q := 3) (v := 0) dX7_hours_2 rfl (by decide) ?_
  refine j_ldc2 (q := 6) dX7_hours_3 rfl kX7_194 ?_
  refine o_callSi (q := 9) dX7_hours_6 rfl lX7_55 mwX7_in msX7_in (by rfl) rfl (Nat.le_of_ble_eq_true (by rfl)) (by first | decide | omega) (cM_inI E σ m hi n 0 100 (by decide) (by decide)) ?_
  refine j_if_ne (q := 12) (tgt := 14) dX7_hours_9 rfl (by decide) (fun h9 => ?_) (fun h9 => ?_)
  · have hg := sWi_1 h9
    obtain ⟨j, hj, ej⟩ := swN_wi (n := 100) (by decide) h9
    unfold xHours at hF
    rw [if_pos hg] at hF
    refine j_aload_n (q := 15) dX7_hours_14 rfl (by rfl) ?_
    refine j_getr (q := 18) dX7_hours_15 rfl fX7_7 (by first | with_reducible assumption | assumption) (by rfl) ?_
    refine j_bipush (q := 20) (v := 52) dX7_hours_18 rfl (by decide) ?_
    refine j_iaload (q := 21) dX7_hours_20 rfl (by first | with_reducible assumption | assumption) (by first | with_reducible assumption | assumption) ?_
    rw [r0_j m t (by omega)]
    refine j_iload_n (q := 22) dX7_hours_21 rfl (by rfl) ?_
    refine j_iadd (q := 23) dX7_hours_22 rfl ?_
    refine j_sipush (q := 26) (v := 9999) dX7_hours_23 rfl (by decide) ?_
    subst ej
    have hs : pgR m t 0 52 + nI j = nI (hh + j) := by rw [e52, nI_add]
    refine j_icmp_le (q := 29) (tgt := 32) dX7_hours_26 rfl (by decide) (fun h26 => ?_) (fun h26 => ?_)
    · have hlt : pgR m t 0 52 + nI j < 10000 := by
        rw [hs] at h26 ⊢
        have := (nI_leI (b := 9999) (by omega) (by omega)).mp h26
        exact nI_lt (b := 10000) (by omega) (by omega)
      rw [if_pos hlt, nI_clamp (by omega)] at hF
      have K36 : ∀ k i : Nat, i + k = j → (gJ E yX7_hours cX7_hours 4 (some .int) (gRm 4 0 0) F 36 ([some (.ref t), some (.int (nI j)), some (.int (upsN (pgR m t 0) i)), some (.int (nI i))]) ([]) 0 0 σ (gQ m t 0 (plN (pgR m t 0) i)) hi) := by
        intro k
        induction k with
        | zero =>
          intro i hi'
          have : i = j := by omega
          subst this
          refine j_iload_n (q := 37) dX7_hours_36 rfl (by rfl) ?_
          refine j_iload_n (q := 38) dX7_hours_37 rfl (by rfl) ?_
          refine j_icmp_ge (q := 41) (tgt := 58) dX7_hours_38 rfl (by decide) (fun h38 => ?_) (fun h38 => ?_)
          · refine j_iload_n (q := 59) dX7_hours_58 rfl (by rfl) ?_
            refine o_iret hF rfl dX7_hours_59 ?_
            exact ⟨rfl, rfl⟩
          · exact absurd (Int32.le_refl _) h38
        | succ k ih =>
          intro i hi'
          refine j_iload_n (q := 37) dX7_hours_36 rfl (by rfl) ?_
          refine j_iload_n (q := 38) dX7_hours_37 rfl (by rfl) ?_
          refine j_icmp_ge (q := 41) (tgt := 58) dX7_hours_38 rfl (by decide) (fun h38 => ?_) (fun h38 => ?_)
          · exact absurd h38 (nI_ge (by omega) (by omega))
          · refine j_iload_n (q := 42) dX7_hours_41 rfl (by rfl) ?_
            refine j_aload_n (q := 43) dX7_hours_42 rfl (by rfl) ?_
            refine j_iconst (q := 44) (v := 0) dX7_hours_43 rfl (by decide) ?_
            refine o_callVi (q := 47) dX7_hours_44 rfl lX7_196 mwX7_planOn mvX7_planOn cn7 (by assumption) (by rfl) rfl (Nat.le_of_ble_eq_true (by rfl)) (by first | decide | omega) (cM_plan E σ m hi t 0 i 9999 (pgR m t 0) hR (by decide) (pgR_0 m t 0) ho.1 ho.2 (by omega)) ?_
            refine o_callSi (q := 50) dX7_hours_47 rfl lX7_199 mwX7_bitsOf msX7_bitsOf (by rfl) rfl (Nat.le_of_ble_eq_true (by rfl)) (by first | decide | omega) (cM_bits E σ _ hi (plU_n (plN_C ho.1 i))) ?_
            refine j_iadd (q := 51) dX7_hours_50 rfl ?_
            refine j_istore_n (q := 52) dX7_hours_51 rfl (by decide) ?_
            refine j_iinc (q := 55) dX7_hours_52 rfl (by rfl) (by first | exact nI_inc _ | rfl) (by decide) ?_
            refine j_goto (tgt := 36) dX7_hours_55 (by decide) ?_
            exact ih (i + 1) (by omega)
      refine j_iconst (q := 33) (v := 0) dX7_hours_32 rfl (by decide) ?_
      refine j_istore_n (q := 34) dX7_hours_33 rfl (by decide) ?_
      refine j_iconst (q := 35) (v := 0) dX7_hours_34 rfl (by decide) ?_
      refine j_istore_n (q := 36) dX7_hours_35 rfl (by decide) ?_
      refine gJ.mm ?_ (K36 j 0 (by omega))
      exact (gQ_pgR m t 0).symm
    · have hlt : ¬ pgR m t 0 52 + nI j < 10000 := by
        rw [hs] at h26 ⊢
        intro q
        have := (nI_ltI (b := 10000) (by omega) (by omega)).mp q
        exact h26 (nI_le (b := 9999) (by omega) (by omega))
      rw [if_neg hlt] at hF
      refine j_bipush (q := 31) (v := (-3)) dX7_hours_29 rfl (by decide) ?_
      refine o_iret hF rfl dX7_hours_31 ?_
      exact ⟨rfl, (gQ_pgR m t 0).symm⟩
  · have h9' : sWi n 0 100 = 0 := by first | exact h9 | exact Decidable.not_not.mp h9
    refine j_iconst (q := 13) (v := (-1)) dX7_hours_12 rfl (by decide) ?_
    refine o_iret hF rfl dX7_hours_13 ?_
    unfold xHours
    rw [if_neg (sWi_0 h9')]
    exact ⟨rfl, (gQ_pgR m t 0).symm⟩
