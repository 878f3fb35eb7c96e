/-- what is told stays: the trials' cells alone may change -/
def scr (x : Nat) (m m' : gMem) : Prop := ∀ q : Nat, ¬ ((x + 9 ≤ q ∧ q < x + 17) ∨ q = x + 20 ∨ q = x + 27 ∨ (x + 30 ≤ q ∧ q < x + 70)) → m'.1 q = m.1 q
theorem scr.rf (x : Nat) (m : gMem) : scr x m m := fun _ _ => rfl
theorem scr.tr {x : Nat} {m m' m'' : gMem} (h : scr x m m') (h' : scr x m' m'') : scr x m m'' := fun q hq => (h' q hq).trans (h q hq)
theorem gP_row {m : gMem} {a : Nat} {g : Nat → Int32} {q : Nat} (h : q < a ∨ a + 8 ≤ q) : (gP m a g).1 q = m.1 q := funext fun r => gP_none (gIxP_out h)
theorem scr.t {x : Nat} {m m' : gMem} (h : scr x m m') (g : Nat → Int32) : scr x m (gP m' (x + 9) g) := fun q hq => (gP_row (by omega)).trans (h q hq)
theorem scr.l {x : Nat} {m m' : gMem} (h : scr x m m') {j : Nat} (hj : j < 5) (g : Nat → Int32) : scr x m (gP m' (x + 30 + 8 * j) g) := fun q hq => (gP_row (by omega)).trans (h q hq)
theorem scr.pg {x : Nat} {m m' : gMem} (h : scr x m m') {a : Nat} (ha : a + 8 ≤ x + 9 ∨ x + 70 ≤ a) : pgC m' a = pgC m a := by
  funext i
  by_cases hi : i < 53
  · have := cq_in a i
    rw [pgC_lt hi, pgC_lt hi, h (cq a i) (by omega)]
  · rw [pgC_0 _ _ i (by omega), pgC_0 _ _ i (by omega)]
theorem scr.n {x : Nat} {m m' : gMem} (h : scr x m m') : pgC m' (x + 1) = pgC m (x + 1) := h.pg (by omega)
theorem scr.ok {x : Nat} {m m' : gMem} (h : scr x m m') (ho : okN m x) : okN m' x := by
  unfold okN
  rw [h.n]
  exact ho
/-- the trial's page behind afresh() -/
theorem frM_pg (m : gMem) (x : Nat) : pgC (frM m x) (x + 9) = bec (pgC m (x + 1)) (pgC m (x + 9)) := pgC_gP (bec_0 (pgC_0 m (x + 9))) m (x + 9)
def xHours (g : Nat → Int32) (n : Int32) : xP := if 0 ≤ n ∧ n ≤ 100 then (if (g 52 + n) < 10000 then (upsN g n.toNatClampNeg, plN g n.toNatClampNeg) else (-3, g)) else (-1, g)
theorem cX_hours (E : gEv) (σ : gSg) (m : gMem) (hi x : Nat) (n : Int32) (hN : gN σ x) (ho : okN m x) : gCo E yX6_hours cX6_hours 2 (some .int) 5 [.ref x, .int n] σ m hi (gX (some (.int (xHours (pgC m (x + 1)) n).1)) (gP m (x + 1) (xHours (pgC m (x + 1)) n).2)) := by
  refine gCo.of mwX6_hours (Nat.le_of_ble_eq_true rfl) ?_
  intro F hF
  have hx := hN.1
  have h0 := hN.2.1.1
  refine j_iload_n (q := 1) dX6_hours_0 rfl (by rfl) ?_
  refine j_iconst (q := 2) (v := 0) dX6_hours_1 rfl (by decide) ?_
  refine j_bipush (q := 4) (v := 100) dX6_hours_2 rfl (by decide) ?_
  refine o_callSi (q := 7) dX6_hours_4 rfl lX6_66 mwX6_within msX6_within (by rfl) rfl (Nat.le_of_ble_eq_true (by rfl)) (by decide) (cX_within E σ m hi _ _ _) ?_
  refine j_if_ne (q := 10) (tgt := 12) dX6_hours_7 rfl (by decide) (fun h7 => ?_) (fun h7 => ?_)
  · have hg := sWi_1 h7
    obtain ⟨j, hj, ej⟩ := swN_wi (n := 100) (by decide) h7
    unfold xHours at hF
    rw [if_pos hg] at hF
    refine j_aload_n (q := 13) dX6_hours_12 rfl (by rfl) ?_
    refine j_getr (q := 16) dX6_hours_13 rfl fX6_10 (by assumption) (by rfl) ?_
    refine j_geti (q := 19) dX6_hours_16 rfl fX6_106 (by assumption) (by rfl) ?_
    refine j_iload_n (q := 20) dX6_hours_19 rfl (by rfl) ?_
    refine j_iadd (q := 21) dX6_hours_20 rfl ?_
    refine j_sipush (q := 24) (v := 10000) dX6_hours_21 rfl (by decide) ?_
    rw [pg_5]
    refine j_icmp_lt (q := 27) (tgt := 32) dX6_hours_24 rfl (by decide) (fun h24 => ?_) (fun h24 => ?_)
    · rw [if_pos h24] at hF
      subst ej
      rw [nI_clamp (by omega)] at hF
      refine j_aload_n (q := 33) dX6_hours_32 rfl (by rfl) ?_
      refine j_getr (q := 36) dX6_hours_33 rfl fX6_10 (by assumption) (by rfl) ?_
      refine j_iload_n (q := 37) dX6_hours_36 rfl (by rfl) ?_
      refine o_callVi (q := 40) dX6_hours_37 rfl lX6_171 mwX0_upsOfAll mvX0_upsOfAll cn0 (by assumption) (by rfl) rfl (Nat.le_of_ble_eq_true (by rfl)) (by decide) (cG_upsOfAll E σ m hi (x + 1) j 9999 hN.2.1 ho.1 ho.2 (by omega)) ?_
      refine o_iret hF rfl dX6_hours_40 ?_
      exact ⟨rfl, rfl⟩
    · rw [if_neg h24] at hF
      refine j_bipush (q := 29) (v := (-3)) dX6_hours_27 rfl (by decide) ?_
      refine j_goto (tgt := 40) dX6_hours_29 (by decide) ?_
      refine o_iret hF rfl dX6_hours_40 ?_
      exact ⟨rfl, (gP_pgC m (x + 1)).symm⟩
  · refine j_iconst (q := 11) (v := (-1)) dX6_hours_10 rfl (by decide) ?_
    refine o_iret hF rfl dX6_hours_11 ?_
    unfold xHours
    rw [if_neg (sWi_0 h7)]
    exact ⟨rfl, (gP_pgC m (x + 1)).symm⟩
def xRuns (g : Nat → Int32) (n k : Int32) : Int32 := if (0 ≤ n ∧ n ≤ 200) ∧ (0 ≤ k ∧ k ≤ 4) then talN g n.toNatClampNeg k.toNatClampNeg else -1
theorem cX_runs (E : gEv) (σ : gSg) (m : gMem) (hi x : Nat) (n k : Int32) (hN : gN σ x) (ho : okN m x) : gCo E yX6_runs cX6_runs 3 (some .int) 5 [.ref x, .int n, .int k] σ m hi (fun v m' => v = some (.int (xRuns (pgC m (x + 1)) n k)) ∧ scr x m m') := by
  refine gCo.of mwX6_runs (Nat.le_of_ble_eq_true rfl) ?_
  intro F hF
  have hx := hN.1
  have h9 := hN.2.2.1.1
  have hv := bec_veq (pgC m (x + 1)) (pgC m (x + 9))
  refine j_iload_n (q := 1) dX6_runs_0 rfl (by rfl) ?_
  refine o_callSi (q := 4) dX6_runs_1 rfl lX6_174 mwX6_isAhead msX6_isAhead (by rfl) rfl (Nat.le_of_ble_eq_true (by rfl)) (by decide) (cX_isAhead E σ m hi _) ?_
  refine j_if_eq (q := 7) (tgt := 16) dX6_runs_4 rfl (by decide) (fun h4 => ?_) (fun h4 => ?_)
  · refine j_iconst (q := 17) (v := (-1)) dX6_runs_16 rfl (by decide) ?_
    refine o_iret hF rfl dX6_runs_17 ?_
    unfold xRuns
    rw [if_neg (fun h => sWi_0 h4 h.1)]
    exact ⟨rfl, scr.rf x m⟩
  refine j_iload_n (q := 8) dX6_runs_7 rfl (by rfl) ?_
  refine j_iconst (q := 9) (v := 0) dX6_runs_8 rfl (by decide) ?_
  refine j_iconst (q := 10) (v := 4) dX6_runs_9 rfl (by decide) ?_
  refine o_callSi (q := 13) dX6_runs_10 rfl lX6_66 mwX6_within msX6_within (by rfl) rfl (Nat.le_of_ble_eq_true (by rfl)) (by decide) (cX_within E σ m hi _ _ _) ?_
  refine j_if_ne (q := 16) (tgt := 18) dX6_runs_13 rfl (by decide) (fun h13 => ?_) (fun h13 => ?_)
  · unfold xRuns at hF
    rw [if_pos ⟨sWi_1 h4, sWi_1 h13⟩] at hF
    obtain ⟨j, hj, ej⟩ := swN_wi (n := 200) (by decide) h4
    obtain ⟨t, ht, et⟩ := swN_wi (n := 4) (by decide) h13
    subst ej
    subst et
    rw [nI_clamp (by omega), nI_clamp (by omega)] at hF
    refine j_aload_n (q := 19) dX6_runs_18 rfl (by rfl) ?_
    refine o_callVa (q := 22) dX6_runs_19 rfl lX6_177 mwX6_afresh mvX6_afresh cn6 (by assumption) (by rfl) rfl (Nat.le_of_ble_eq_true (by rfl)) (by decide) (cX_afresh E σ m hi x hN ho) ?_
    refine j_iload_n (q := 23) dX6_runs_22 rfl (by rfl) ?_
    refine j_iload_n (q := 24) dX6_runs_23 rfl (by rfl) ?_
    refine o_callVi (q := 27) dX6_runs_24 rfl lX6_181 mwX0_tally mvX0_tally cn0 (by assumption) (by rfl) rfl (Nat.le_of_ble_eq_true (by rfl)) (by decide) (cG_tally E σ (frM m x) hi (x + 9) j 9999 t (by omega) hN.2.2.1 (by rw [frM_pg]; exact ho.1.v hv) (by rw [frM_pg]; exact ho.2.v hv) (by omega)) ?_
    refine o_iret hF rfl dX6_runs_27 ?_
    rw [frM_pg]
    exact ⟨by rw [talN_veq hv ho.1 ho.2], ((scr.rf x m).t _).t _⟩
  · refine j_iconst (q := 17) (v := (-1)) dX6_runs_16 rfl (by decide) ?_
    refine o_iret hF rfl dX6_runs_17 ?_
    unfold xRuns
    rw [if_neg (fun h => sWi_0 h13 h.2)]
    exact ⟨rfl, scr.rf x m⟩
def xAhead (g : Nat → Int32) (v n k : Int32) : Int32 := match ixV (g 24) v with
  | none => -1
  | some j => if (0 ≤ n ∧ n ≤ 200) ∧ (0 ≤ k ∧ k ≤ 2) then (if k = 0 then plN g n.toNatClampNeg (4 * 3 + j) else if k = 1 then plN g n.toNatClampNeg (4 * 4 + j) else upsV g v n.toNatClampNeg) else -1
theorem plN_cnt (g : Nat → Int32) : ∀ n, cnt (plN g n) = cnt g
  | 0 => rfl
  | n + 1 => by rw [plN]; unfold pl; rw [hr_cnt, plN_cnt g n]
theorem cX_ahead (E : gEv) (σ : gSg) (m : gMem) (hi x : Nat) (v n k : Int32) (hN : gN σ x) (ho : okN m x) : gCo E yX6_ahead cX6_ahead 7 (some .int) 5 [.ref x, .int v, .int n, .int k] σ m hi (fun v' m' => v' = some (.int (xAhead (pgC m (x + 1)) v n k)) ∧ scr x m m') := by
  refine gCo.of mwX6_ahead (Nat.le_of_ble_eq_true rfl) ?_
  intro F hF
  have hx := hN.1
  have h1 := hN.2.1.1
  obtain ⟨h9, ⟨fv, h9v, hfv⟩, h92, h93, hvv⟩ := hN.2.2.1
  have hv := bec_veq (pgC m (x + 1)) (pgC m (x + 9))
  obtain ⟨c, hc, hc4⟩ := ho.1
  have hcn : cnt (pgC m (x + 1)) = c := by unfold cnt; rw [hc]; exact nI_clamp (by omega)
  unfold xAhead at hF
  refine j_aload_n (q := 1) dX6_ahead_0 rfl (by rfl) ?_
  refine j_getr (q := 4) dX6_ahead_1 rfl fX6_10 (by assumption) (by rfl) ?_
  refine j_iload_n (q := 5) dX6_ahead_4 rfl (by rfl) ?_
  refine o_callVi (q := 8) dX6_ahead_5 rfl lX6_126 mwX0_hasVent mvX0_hasVent cn0 (by assumption) (by rfl) rfl (Nat.le_of_ble_eq_true (by rfl)) (by decide) (cG_hasVent E σ m hi (x + 1) v hN.2.1) ?_
  rcases ixV_or v hc (by omega) with ⟨hs, hv2⟩ | ⟨j, hj, ej, hs, hv2⟩
  · rw [hs]
    rw [hv2] at hF
    refine j_if_eq (q := 11) (tgt := 27) dX6_ahead_8 rfl (by decide) (fun h8 => ?_) (fun h8 => ?_)
    · refine j_iconst (q := 28) (v := (-1)) dX6_ahead_27 rfl (by decide) ?_
      refine o_iret hF rfl dX6_ahead_28 ?_
      exact ⟨rfl, scr.rf x m⟩
    · exact absurd rfl h8
  rw [hs]
  rw [hv2] at hF
  dsimp only at hF
  subst ej
  have hj4 : j < 4 := by omega
  have hix : gIdx (nI j) 4 j := gIdx.of rfl hj4 (by decide)
  have hfj := hfv j hj4
  have hvj := hvv j hj4
  refine j_if_eq (q := 11) (tgt := 27) dX6_ahead_8 rfl (by decide) (fun h8 => ?_) (fun h8 => ?_)
  · exact absurd h8 (by decide)
  refine j_iload_n (q := 12) dX6_ahead_11 rfl (by rfl) ?_
  refine o_callSi (q := 15) dX6_ahead_12 rfl lX6_174 mwX6_isAhead msX6_isAhead (by rfl) rfl (Nat.le_of_ble_eq_true (by rfl)) (by decide) (cX_isAhead E σ m hi _) ?_
  refine j_if_eq (q := 18) (tgt := 27) dX6_ahead_15 rfl (by decide) (fun h15 => ?_) (fun h15 => ?_)
  · refine j_iconst (q := 28) (v := (-1)) dX6_ahead_27 rfl (by decide) ?_
    refine o_iret hF rfl dX6_ahead_28 ?_
    rw [if_neg (fun h => sWi_0 h15 h.1)]
    exact ⟨rfl, scr.rf x m⟩
  refine j_iload_n (q := 19) dX6_ahead_18 rfl (by rfl) ?_
  refine j_iconst (q := 20) (v := 0) dX6_ahead_19 rfl (by decide) ?_
  refine j_iconst (q := 21) (v := 2) dX6_ahead_20 rfl (by decide) ?_
  refine o_callSi (q := 24) dX6_ahead_21 rfl lX6_66 mwX6_within msX6_within (by rfl) rfl (Nat.le_of_ble_eq_true (by rfl)) (by decide) (cX_within E σ m hi _ _ _) ?_
  refine j_if_ne (q := 27) (tgt := 29) dX6_ahead_24 rfl (by decide) (fun h24 => ?_) (fun h24 => ?_)
  · rw [if_pos ⟨sWi_1 h15, sWi_1 h24⟩] at hF
    obtain ⟨t, ht, et⟩ := swN_wi (n := 200) (by decide) h15
    subst et
    rw [nI_clamp (by omega)] at hF
    refine j_aload_n (q := 30) dX6_ahead_29 rfl (by rfl) ?_
    refine o_callVa (q := 33) dX6_ahead_30 rfl lX6_177 mwX6_afresh mvX6_afresh cn6 (by assumption) (by rfl) rfl (Nat.le_of_ble_eq_true (by rfl)) (by decide) (cX_afresh E σ m hi x hN ho) ?_
    refine j_astore (q := 35) dX6_ahead_33 rfl (by decide) ?_
    refine j_aload (q := 37) dX6_ahead_35 rfl (by rfl) ?_
    refine j_iload_n (q := 38) dX6_ahead_37 rfl (by rfl) ?_
    refine j_iload_n (q := 39) dX6_ahead_38 rfl (by rfl) ?_
    refine o_callVi (q := 42) dX6_ahead_39 rfl lX6_185 mwX0_upsOf mvX0_upsOf cn0 (by assumption) (by rfl) rfl (Nat.le_of_ble_eq_true (by rfl)) (by decide) (cG_upsOf E σ (frM m x) hi (x + 9) t 9999 (nI j) hN.2.2.1 (by rw [frM_pg]; exact ho.1.v hv) (by rw [frM_pg]; exact ho.2.v hv) (by omega)) ?_
    rw [frM_pg]
    have hpn := plN_veq hv ho.1 ho.2 t
    have e3 : ∀ k', k' < 6 → (gP (frM m x) (x + 9) (plN (bec (pgC m (x + 1)) (pgC m (x + 9))) t)).1 (x + 9 + 4 + j) k' = plN (pgC m (x + 1)) t (4 * k' + j) := fun k' hk' => by
      rw [gP_some (gIxP_v (x + 9) hj4 hk')]
      exact hpn.v (by rw [plN_cnt]; omega) hk' hj4
    refine j_istore (q := 44) dX6_ahead_42 rfl (by decide) ?_
    refine j_aload (q := 46) dX6_ahead_44 rfl (by rfl) ?_
    refine j_getr (q := 49) dX6_ahead_46 rfl fX6_132 (by assumption) (by rfl) ?_
    refine j_iload_n (q := 50) dX6_ahead_49 rfl (by rfl) ?_
    refine j_aaload (q := 51) dX6_ahead_50 rfl (by assumption) (by decide) (by assumption) (by assumption) ?_
    refine j_astore (q := 53) dX6_ahead_51 rfl (by decide) ?_
    refine j_iload_n (q := 54) dX6_ahead_53 rfl (by rfl) ?_
    refine j_if_ne (q := 57) (tgt := 65) dX6_ahead_54 rfl (by decide) (fun h54 => ?_) (fun h54 => ?_)
    · refine j_iload_n (q := 66) dX6_ahead_65 rfl (by rfl) ?_
      refine j_iconst (q := 67) (v := 1) dX6_ahead_66 rfl (by decide) ?_
      refine j_icmp_ne (q := 70) (tgt := 78) dX6_ahead_67 rfl (by decide) (fun h67 => ?_) (fun h67 => ?_)
      · refine j_iload (q := 80) dX6_ahead_78 rfl (by rfl) ?_
        refine o_iret hF rfl dX6_ahead_80 ?_
        rw [if_neg h54, if_neg h67, upsV_veq hv ho.1 ho.2]
        exact ⟨rfl, ((scr.rf x m).t _).t _⟩
      · refine j_aload (q := 72) dX6_ahead_70 rfl (by rfl) ?_
        refine j_geti (q := 75) dX6_ahead_72 rfl fX6_191 (by assumption) (by rfl) ?_
        refine j_goto (tgt := 80) dX6_ahead_75 (by decide) ?_
        refine o_iret hF rfl dX6_ahead_80 ?_
        rw [if_neg h54, if_pos (by first | exact h67 | exact Decidable.not_not.mp h67), e3 4 (by decide)]
        exact ⟨rfl, ((scr.rf x m).t _).t _⟩
    · refine j_aload (q := 59) dX6_ahead_57 rfl (by rfl) ?_
      refine j_geti (q := 62) dX6_ahead_59 rfl fX6_188 (by assumption) (by rfl) ?_
      refine j_goto (tgt := 80) dX6_ahead_62 (by decide) ?_
      refine o_iret hF rfl dX6_ahead_80 ?_
      rw [if_pos (by first | exact h54 | exact Decidable.not_not.mp h54), e3 3 (by decide)]
      exact ⟨rfl, ((scr.rf x m).t _).t _⟩
  · refine j_iconst (q := 28) (v := (-1)) dX6_ahead_27 rfl (by decide) ?_
    refine o_iret hF rfl dX6_ahead_28 ?_
    rw [if_neg (fun h => sWi_0 h24 h.2)]
    exact ⟨rfl, scr.rf x m⟩
def xUps (g : Nat → Int32) (n : Int32) : Int32 := if 0 ≤ n ∧ n ≤ 200 then plU (plN g n.toNatClampNeg) else -1
theorem cX_ups (E : gEv) (σ : gSg) (m : gMem) (hi x : Nat) (n : Int32) (hN : gN σ x) (ho : okN m x) : gCo E yX6_ups cX6_ups 3 (some .int) 5 [.ref x, .int n] σ m hi (fun v' m' => v' = some (.int (xUps (pgC m (x + 1)) n)) ∧ scr x m m') := by
  refine gCo.of mwX6_ups (Nat.le_of_ble_eq_true rfl) ?_
  intro F hF
  have hx := hN.1
  have h9 := hN.2.2.1.1
  have hv := bec_veq (pgC m (x + 1)) (pgC m (x + 9))
  unfold xUps at hF
  refine j_iload_n (q := 1) dX6_ups_0 rfl (by rfl) ?_
  refine o_callSi (q := 4) dX6_ups_1 rfl lX6_174 mwX6_isAhead msX6_isAhead (by rfl) rfl (Nat.le_of_ble_eq_true (by rfl)) (by decide) (cX_isAhead E σ m hi _) ?_
  refine j_if_ne (q := 7) (tgt := 9) dX6_ups_4 rfl (by decide) (fun h4 => ?_) (fun h4 => ?_)
  · rw [if_pos (sWi_1 h4)] at hF
    obtain ⟨t, ht, et⟩ := swN_wi (n := 200) (by decide) h4
    subst et
    rw [nI_clamp (by omega)] at hF
    refine j_aload_n (q := 10) dX6_ups_9 rfl (by rfl) ?_
    refine o_callVa (q := 13) dX6_ups_10 rfl lX6_177 mwX6_afresh mvX6_afresh cn6 (by assumption) (by rfl) rfl (Nat.le_of_ble_eq_true (by rfl)) (by decide) (cX_afresh E σ m hi x hN ho) ?_
    refine j_astore_n (q := 14) dX6_ups_13 rfl (by decide) ?_
    refine j_aload_n (q := 15) dX6_ups_14 rfl (by rfl) ?_
    refine j_iload_n (q := 16) dX6_ups_15 rfl (by rfl) ?_
    refine o_callVi (q := 19) dX6_ups_16 rfl lX6_171 mwX0_upsOfAll mvX0_upsOfAll cn0 (by assumption) (by rfl) rfl (Nat.le_of_ble_eq_true (by rfl)) (by decide) (cG_upsOfAll E σ (frM m x) hi (x + 9) t 9999 hN.2.2.1 (by rw [frM_pg]; exact ho.1.v hv) (by rw [frM_pg]; exact ho.2.v hv) (by omega)) ?_
    rw [frM_pg]
    refine j_pop (q := 20) dX6_ups_19 rfl rfl ?_
    refine j_aload_n (q := 21) dX6_ups_20 rfl (by rfl) ?_
    refine o_callVi (q := 24) dX6_ups_21 rfl lX6_194 mwX0_passByPlan mvX0_passByPlan cn0 (by assumption) (by rfl) rfl (Nat.le_of_ble_eq_true (by rfl)) (by decide) (cG_plan E σ (frM m x) hi (x + 9) t 9999 _ hN.2.2.1 (bec_0 (pgC_0 m (x + 9))) (ho.1.v hv) (ho.2.v hv) (by omega)) ?_
    refine o_iret hF rfl dX6_ups_24 ?_
    rw [plUN_veq hv ho.1 ho.2]
    exact ⟨rfl, ((scr.rf x m).t _).t _⟩
  · rw [if_neg (sWi_0 h4)] at hF
    refine j_iconst (q := 8) (v := (-1)) dX6_ups_7 rfl (by decide) ?_
    refine o_iret hF rfl dX6_ups_8 ?_
    exact ⟨rfl, scr.rf x m⟩
def whenJ (g : Nat → Int32) (v : Int32) : Nat → Nat → Int32
  | 0, _ => -4
  | k + 1, n => if sBit (plU (plN g n)) v = 1 then nI n else whenJ g v k (n + 1)
def xWhen (g : Nat → Int32) (v : Int32) : Int32 := match ixV (g 24) v with
  | none => -1
  | some _ => whenJ g v 201 0
theorem cX_when (E : gEv) (σ : gSg) (m : gMem) (hi x : Nat) (v : Int32) (hN : gN σ x) (ho : okN m x) : gCo E yX6_when cX6_when 4 (some .int) 4 [.ref x, .int v] σ m hi (fun v' m' => v' = some (.int (xWhen (pgC m (x + 1)) v)) ∧ scr x m m') := by
  refine gCo.of mwX6_when (Nat.le_of_ble_eq_true rfl) ?_
  intro F hF
  have hx := hN.1
  have h1 := hN.2.1.1
  have h9 := hN.2.2.1.1
  have hv := bec_veq (pgC m (x + 1)) (pgC m (x + 9))
  obtain ⟨c, hc, hc4⟩ := ho.1
  unfold xWhen at hF
  refine j_aload_n (q := 1) dX6_when_0 rfl (by rfl) ?_
  refine j_getr (q := 4) dX6_when_1 rfl fX6_10 (by assumption) (by rfl) ?_
  refine j_iload_n (q := 5) dX6_when_4 rfl (by rfl) ?_
  refine o_callVi (q := 8) dX6_when_5 rfl lX6_126 mwX0_hasVent mvX0_hasVent cn0 (by assumption) (by rfl) rfl (Nat.le_of_ble_eq_true (by rfl)) (by decide) (cG_hasVent E σ m hi (x + 1) v hN.2.1) ?_
  rcases ixV_or v hc (by omega) with ⟨hs, hv2⟩ | ⟨j, hj, ej, hs, hv2⟩
  · rw [hs]
    rw [hv2] at hF
    refine j_if_ne (q := 11) (tgt := 13) dX6_when_8 rfl (by decide) (fun h8 => ?_) (fun h8 => ?_)
    · exact absurd rfl h8
    · refine j_iconst (q := 12) (v := (-1)) dX6_when_11 rfl (by decide) ?_
      refine o_iret hF rfl dX6_when_12 ?_
      exact ⟨rfl, scr.rf x m⟩
  rw [hs]
  rw [hv2] at hF
  dsimp only at hF
  refine j_if_ne (q := 11) (tgt := 13) dX6_when_8 rfl (by decide) (fun h8 => ?_) (fun h8 => ?_)
  · have K20 : ∀ k n : Nat, n + k = 201 → whenJ (pgC m (x + 1)) v 201 0 = whenJ (pgC m (x + 1)) v k n → (gJ E yX6_when cX6_when 4 (some .int) (gRm 4 0 0) F 20 ([some (.ref x), some (.int v), some (.ref (x + 9)), some (.int (nI n))]) ([]) 0 0 σ (gP (frM m x) (x + 9) (plN (bec (pgC m (x + 1)) (pgC m (x + 9))) n)) hi) := by
      intro k
      induction k with
      | zero =>
        intro n hn he
        have : n = 201 := by omega
        subst this
        refine j_iload_n (q := 21) dX6_when_20 rfl (by rfl) ?_
        refine j_sipush (q := 24) (v := 200) dX6_when_21 rfl (by decide) ?_
        refine j_icmp_gt (q := 27) (tgt := 47) dX6_when_24 rfl (by decide) (fun h24 => ?_) (fun h24 => ?_)
        · refine j_bipush (q := 49) (v := (-4)) dX6_when_47 rfl (by decide) ?_
          refine o_iret hF rfl dX6_when_49 ?_
          rw [he]
          exact ⟨rfl, ((scr.rf x m).t _).t _⟩
        · exact absurd (nI_lt (a := 200) (b := 201) (by decide) (by decide)) h24
      | succ k ih =>
        intro n hn he
        refine j_iload_n (q := 21) dX6_when_20 rfl (by rfl) ?_
        refine j_sipush (q := 24) (v := 200) dX6_when_21 rfl (by decide) ?_
        refine j_icmp_gt (q := 27) (tgt := 47) dX6_when_24 rfl (by decide) (fun h24 => ?_) (fun h24 => ?_)
        · exact absurd h24 (nI_nlt (a := 200) (b := n) (by omega) (by decide))
        · refine j_aload_n (q := 28) dX6_when_27 rfl (by rfl) ?_
          refine o_callVi (q := 31) dX6_when_28 rfl lX6_194 mwX0_passByPlan mvX0_passByPlan cn0 (by assumption) (by rfl) rfl (Nat.le_of_ble_eq_true (by rfl)) (by decide) (cG_plan E σ (frM m x) hi (x + 9) n 9999 _ hN.2.2.1 (bec_0 (pgC_0 m (x + 9))) (ho.1.v hv) (ho.2.v hv) (by omega)) ?_
          refine j_iload_n (q := 32) dX6_when_31 rfl (by rfl) ?_
          refine o_callSi (q := 35) dX6_when_32 rfl lX6_197 mwX6_bit msX6_bit (by rfl) rfl (Nat.le_of_ble_eq_true (by rfl)) (by decide) (cX_bit E σ _ hi _ _) ?_
          rw [plUN_veq hv ho.1 ho.2]
          refine j_iconst (q := 36) (v := 1) dX6_when_35 rfl (by decide) ?_
          refine j_icmp_ne (q := 39) (tgt := 41) dX6_when_36 rfl (by decide) (fun h36 => ?_) (fun h36 => ?_)
          · refine j_iinc (q := 44) dX6_when_41 rfl (by rfl) (by first | exact nI_inc _ | rfl) (by decide) ?_
            refine j_goto (tgt := 20) dX6_when_44 (by decide) ?_
            refine ih (n + 1) (by omega) ?_
            rw [he, whenJ, if_neg h36]
          · refine j_iload_n (q := 40) dX6_when_39 rfl (by rfl) ?_
            refine o_iret hF rfl dX6_when_40 ?_
            rw [he, whenJ, if_pos (by first | exact h36 | exact Decidable.not_not.mp h36)]
            exact ⟨rfl, ((scr.rf x m).t _).t _⟩
    refine j_aload_n (q := 14) dX6_when_13 rfl (by rfl) ?_
    refine o_callVa (q := 17) dX6_when_14 rfl lX6_177 mwX6_afresh mvX6_afresh cn6 (by assumption) (by rfl) rfl (Nat.le_of_ble_eq_true (by rfl)) (by decide) (cX_afresh E σ m hi x hN ho) ?_
    refine j_astore_n (q := 18) dX6_when_17 rfl (by decide) ?_
    refine j_iconst (q := 19) (v := 0) dX6_when_18 rfl (by decide) ?_
    refine j_istore_n (q := 20) dX6_when_19 rfl (by decide) ?_
    refine gJ.mm ?_ (K20 201 0 (by omega) rfl)
    rw [plN, ← frM_pg, gP_pgC]
  · exact absurd h8 (by decide)
def agJ (g : Nat → Int32) : Nat → Nat → Int32
  | 0, _ => -4
  | k + 1, n => if asNow (plN g n) g then nI n else agJ g k (n + 1)
theorem cX_again (E : gEv) (σ : gSg) (m : gMem) (hi x : Nat) (hN : gN σ x) (ho : okN m x) : gCo E yX6_again cX6_again 3 (some .int) 4 [.ref x] σ m hi (fun v' m' => v' = some (.int (agJ (pgC m (x + 1)) 200 1)) ∧ scr x m m') := by
  refine gCo.of mwX6_again (Nat.le_of_ble_eq_true rfl) ?_
  intro F hF
  have hx := hN.1
  have h1 := hN.2.1.1
  have h9 := hN.2.2.1.1
  have hv := bec_veq (pgC m (x + 1)) (pgC m (x + 9))
  have K7 : ∀ k n : Nat, n + k = 200 → agJ (pgC m (x + 1)) 200 1 = agJ (pgC m (x + 1)) k (n + 1) → (gJ E yX6_again cX6_again 3 (some .int) (gRm 4 0 0) F 7 ([some (.ref x), some (.ref (x + 9)), some (.int (nI (n + 1)))]) ([]) 0 0 σ (gP (frM m x) (x + 9) (plN (bec (pgC m (x + 1)) (pgC m (x + 9))) n)) hi) := by
    intro k
    induction k with
    | zero =>
      intro n hn he
      have : n = 200 := by omega
      subst this
      refine j_iload_n (q := 8) dX6_again_7 rfl (by rfl) ?_
      refine j_sipush (q := 11) (v := 200) dX6_again_8 rfl (by decide) ?_
      refine j_icmp_gt (q := 14) (tgt := 38) dX6_again_11 rfl (by decide) (fun h11 => ?_) (fun h11 => ?_)
      · refine j_bipush (q := 40) (v := (-4)) dX6_again_38 rfl (by decide) ?_
        refine o_iret hF rfl dX6_again_40 ?_
        rw [he]
        exact ⟨rfl, ((scr.rf x m).t _).t _⟩
      · exact absurd (nI_lt (a := 200) (b := 201) (by decide) (by decide)) h11
    | succ k ih =>
      intro n hn he
      refine j_iload_n (q := 8) dX6_again_7 rfl (by rfl) ?_
      refine j_sipush (q := 11) (v := 200) dX6_again_8 rfl (by decide) ?_
      refine j_icmp_gt (q := 14) (tgt := 38) dX6_again_11 rfl (by decide) (fun h11 => ?_) (fun h11 => ?_)
      · exact absurd h11 (nI_nlt (a := 200) (b := n + 1) (by omega) (by decide))
      · refine j_aload_n (q := 15) dX6_again_14 rfl (by rfl) ?_
        refine o_callVi (q := 18) dX6_again_15 rfl lX6_194 mwX0_passByPlan mvX0_passByPlan cn0 (by assumption) (by rfl) rfl (Nat.le_of_ble_eq_true (by rfl)) (by decide) (cG_plan E σ (frM m x) hi (x + 9) n 9999 _ hN.2.2.1 (bec_0 (pgC_0 m (x + 9))) (ho.1.v hv) (ho.2.v hv) (by omega)) ?_
        refine j_pop (q := 19) dX6_again_18 rfl rfl ?_
        refine j_aload_n (q := 20) dX6_again_19 rfl (by rfl) ?_
        refine j_aload_n (q := 21) dX6_again_20 rfl (by rfl) ?_
        refine j_getr (q := 24) dX6_again_21 rfl fX6_10 (by assumption) (by rfl) ?_
        have e9 : pgC (gP (frM m x) (x + 9) (plN (bec (pgC m (x + 1)) (pgC m (x + 9))) (n + 1))) (x + 9) = plN (bec (pgC m (x + 1)) (pgC m (x + 9))) (n + 1) := pgC_gP (plN_0 (bec_0 (pgC_0 m (x + 9))) _) _ _
        have e1 : pgC (gP (frM m x) (x + 9) (plN (bec (pgC m (x + 1)) (pgC m (x + 9))) (n + 1))) (x + 1) = pgC m (x + 1) := scr.n (((scr.rf x m).t _).t _)
        have hS := cG_standsAs E σ (gP (frM m x) (x + 9) (plN (bec (pgC m (x + 1)) (pgC m (x + 9))) (n + 1))) hi (x + 9) (x + 1) hN.2.2.1 hN.2.1 (by rw [e9]; exact plN_C (ho.1.v hv) _) (by rw [e1]; exact ho.1)
        rw [e9, e1] at hS
        refine o_callVi (q := 27) dX6_again_24 rfl lX6_200 mwX0_standsAs mvX0_standsAs cn0 (by assumption) (by rfl) rfl (Nat.le_of_ble_eq_true (by rfl)) (by decide) (hS) ?_
        have hiff := asNow_veq (plN_veq hv ho.1 ho.2 (n + 1)) (veq.rf (pgC m (x + 1))) (plN_C ho.1 (n + 1)) ho.1
        by_cases ha : asNow (plN (pgC m (x + 1)) (n + 1)) (pgC m (x + 1))
        · rw [if_pos (hiff.mpr ha)]
          refine j_if_eq (q := 30) (tgt := 32) dX6_again_27 rfl (by decide) (fun h27 => ?_) (fun h27 => ?_)
          · exact absurd h27 (by decide)
          · refine j_iload_n (q := 31) dX6_again_30 rfl (by rfl) ?_
            refine o_iret hF rfl dX6_again_31 ?_
            rw [he, agJ, if_pos ha]
            exact ⟨rfl, ((scr.rf x m).t _).t _⟩
        · rw [if_neg (fun h => ha (hiff.mp h))]
          refine j_if_eq (q := 30) (tgt := 32) dX6_again_27 rfl (by decide) (fun h27 => ?_) (fun h27 => ?_)
          · refine j_iinc (q := 35) dX6_again_32 rfl (by rfl) (by first | exact nI_inc _ | rfl) (by decide) ?_
            refine j_goto (tgt := 7) dX6_again_35 (by decide) ?_
            refine ih (n + 1) (by omega) ?_
            rw [he, agJ, if_neg ha]
          · exact absurd rfl h27
  refine j_aload_n (q := 1) dX6_again_0 rfl (by rfl) ?_
  refine o_callVa (q := 4) dX6_again_1 rfl lX6_177 mwX6_afresh mvX6_afresh cn6 (by assumption) (by rfl) rfl (Nat.le_of_ble_eq_true (by rfl)) (by decide) (cX_afresh E σ m hi x hN ho) ?_
  refine j_astore_n (q := 5) dX6_again_4 rfl (by decide) ?_
  refine j_iconst (q := 6) (v := 1) dX6_again_5 rfl (by decide) ?_
  refine j_istore_n (q := 7) dX6_again_6 rfl (by decide) ?_
  refine gJ.mm ?_ (K7 200 0 (by omega) rfl)
  rw [plN, ← frM_pg, gP_pgC]
