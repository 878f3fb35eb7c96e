/-! from when it went -/
abbrev agS (H V W U : Nat → Int32) (s : Nat) : Prop := ∀ i, i < s → sBit (U (H i).toNatClampNeg) (V i) = W i
/-- what is seen, in its bounds -/
def okS (m : gMem) (x s : Nat) : Prop := m.1 (x + 23) 3 = nI s ∧ s ≤ 6 ∧ ∀ i, i < s → ∃ h, h ≤ 40 ∧ m.1 (x + 24) i = nI h
theorem cS_agrees (E : gEv) (σ : gSg) (m : gMem) (hi x s : Nat) (hN : gN σ x) (hS : okS m x s) : gCo E yX2_agrees cX2_agrees 4 (some .boolean) 1 [.ref (x + 23), .ref (x + 27)] σ m hi (gX (some (.int (if agS (m.1 (x + 24)) (m.1 (x + 25)) (m.1 (x + 26)) (m.1 (x + 27)) s then 1 else 0))) m) := by
  refine gCo.of mwX2_agrees (Nat.le_of_ble_eq_true rfl) ?_
  intro F hF
  obtain ⟨-, -, -, -, -, -, -, -, -, h23, h24, h25, h26, h27, -⟩ := hN
  obtain ⟨es, hs6, hh⟩ := hS
  have K2 : ∀ (w i : Nat) (o3 : Option Value), i + w = s → (∀ j, j < i → sBit (m.1 (x + 27) (m.1 (x + 24) j).toNatClampNeg) (m.1 (x + 25) j) = m.1 (x + 26) j) → (gJ E yX2_agrees cX2_agrees 4 (some .boolean) (gRm 1 0 0) F 2 ([some (.ref (x + 23)), some (.ref (x + 27)), some (.int (nI i)), o3]) ([]) 0 0 σ (m) hi) := by
    intro w
    induction w with
    | zero =>
      intro i o3 hi' hall
      have : i = s := by omega
      subst this
      refine j_iload_n (q := 3) dX2_agrees_2 rfl (by rfl) ?_
      refine j_aload_n (q := 4) dX2_agrees_3 rfl (by rfl) ?_
      refine j_geti (q := 7) dX2_agrees_4 rfl fX2_21 (by assumption) (by rfl) ?_
      rw [es]
      refine j_icmp_ge (q := 10) (tgt := 56) dX2_agrees_7 rfl (by decide) (fun h7 => ?_) (fun h7 => ?_)
      · refine j_iconst (q := 57) (v := 1) dX2_agrees_56 rfl (by decide) ?_
        refine o_zret hF rfl dX2_agrees_57 (by first | assumption | exact Or.inl rfl | exact Or.inr rfl) ?_
        exact ⟨by rw [if_pos hall], rfl⟩
      · exact absurd (Int32.le_refl _) h7
    | succ w ih =>
      intro i o3 hi' hall
      have hix : gIdx (nI i) 6 i := gIdx.of rfl (by omega) (by decide)
      obtain ⟨h, hh40, eh⟩ := hh i (by omega)
      have hix2 : gIdx (nI h) 41 h := gIdx.of rfl (by omega) (by decide)
      refine j_iload_n (q := 3) dX2_agrees_2 rfl (by rfl) ?_
      refine j_aload_n (q := 4) dX2_agrees_3 rfl (by rfl) ?_
      refine j_geti (q := 7) dX2_agrees_4 rfl fX2_21 (by assumption) (by rfl) ?_
      rw [es]
      refine j_icmp_ge (q := 10) (tgt := 56) dX2_agrees_7 rfl (by decide) (fun h7 => ?_) (fun h7 => ?_)
      · exact absurd h7 (nI_ge (by omega) (by omega))
      refine j_aload_n (q := 11) dX2_agrees_10 rfl (by rfl) ?_
      refine j_getr (q := 14) dX2_agrees_11 rfl fX2_9 (by assumption) (by rfl) ?_
      refine j_iload_n (q := 15) dX2_agrees_14 rfl (by rfl) ?_
      refine j_iaload (q := 16) dX2_agrees_15 rfl (by assumption) (by assumption) ?_
      rw [eh]
      refine j_istore_n (q := 17) dX2_agrees_16 rfl (by decide) ?_
      refine j_iload_n (q := 18) dX2_agrees_17 rfl (by rfl) ?_
      refine j_if_lt (q := 21) (tgt := 48) dX2_agrees_18 rfl (by decide) (fun h18 => ?_) (fun h18 => ?_)
      · exact absurd h18 (nI_pos (by omega))
      refine j_iload_n (q := 22) dX2_agrees_21 rfl (by rfl) ?_
      refine j_aload_n (q := 23) dX2_agrees_22 rfl (by rfl) ?_
      refine j_alen (q := 24) dX2_agrees_23 rfl (by assumption) (by decide) (by rfl) ?_
      refine j_icmp_ge (q := 27) (tgt := 48) dX2_agrees_24 rfl (by decide) (fun h24 => ?_) (fun h24 => ?_)
      · exact absurd h24 (nI_ge (a := h) (b := 41) (by omega) (by omega))
      refine j_aload_n (q := 28) dX2_agrees_27 rfl (by rfl) ?_
      refine j_iload_n (q := 29) dX2_agrees_28 rfl (by rfl) ?_
      refine j_iaload (q := 30) dX2_agrees_29 rfl (by assumption) (by assumption) ?_
      refine j_aload_n (q := 31) dX2_agrees_30 rfl (by rfl) ?_
      refine j_getr (q := 34) dX2_agrees_31 rfl fX2_15 (by assumption) (by rfl) ?_
      refine j_iload_n (q := 35) dX2_agrees_34 rfl (by rfl) ?_
      refine j_iaload (q := 36) dX2_agrees_35 rfl (by assumption) (by assumption) ?_
      refine o_callSNi (q := 39) dX2_agrees_36 rfl lX2_25 mwX6_bit msX6_bit (by rfl) rfl (Nat.le_of_ble_eq_true (by rfl)) (by decide) (cX_bit E σ m hi _ _) ?_
      refine j_aload_n (q := 40) dX2_agrees_39 rfl (by rfl) ?_
      refine j_getr (q := 43) dX2_agrees_40 rfl fX2_18 (by assumption) (by rfl) ?_
      refine j_iload_n (q := 44) dX2_agrees_43 rfl (by rfl) ?_
      refine j_iaload (q := 45) dX2_agrees_44 rfl (by assumption) (by assumption) ?_
      refine j_icmp_eq (q := 48) (tgt := 50) dX2_agrees_45 rfl (by decide) (fun h45 => ?_) (fun h45 => ?_)
      · refine j_iinc (q := 53) dX2_agrees_50 rfl (by rfl) (by first | exact nI_inc _ | rfl) (by decide) ?_
        refine j_goto (tgt := 2) dX2_agrees_53 (by decide) ?_
        refine ih (i + 1) _ (by omega) (fun j hj => ?_)
        by_cases hji : j = i
        · subst hji; rw [eh, nI_clamp (by omega)]; exact h45
        · exact hall j (by omega)
      · refine j_iconst (q := 49) (v := 0) dX2_agrees_48 rfl (by decide) ?_
        refine o_zret hF rfl dX2_agrees_49 (by first | assumption | exact Or.inl rfl | exact Or.inr rfl) ?_
        have hno : ¬ agS (m.1 (x + 24)) (m.1 (x + 25)) (m.1 (x + 26)) (m.1 (x + 27)) s := by
          intro q
          have := q i (by omega)
          rw [eh, nI_clamp (by omega)] at this
          exact h45 this
        exact ⟨by rw [if_neg hno], rfl⟩
  refine j_iconst (q := 1) (v := 0) dX2_agrees_0 rfl (by decide) ?_
  refine j_istore_n (q := 2) dX2_agrees_1 rfl (by decide) ?_
  exact K2 s 0 _ (by omega) (fun j hj => absurd hj (by omega))
/-- the trial runs 41 hours: who went up, told by hours; whether all is as seen -/
theorem cX_goesAsSeen (E : gEv) (σ : gSg) (m : gMem) (hi x s : Nat) (g : Nat → Int32) (hN : gN σ x) (hS : okS m x s) (h0 : pg0 g) (hc : okC g) (hb : okB g 9999) : gCo E yX6_goesAsSeen cX6_goesAsSeen 3 (some .boolean) 4 [.ref x, .ref (x + 9)] σ (gP m (x + 9) g) hi (fun v' m' => v' = some (.int (if agS (m.1 (x + 24)) (m.1 (x + 25)) (m.1 (x + 26)) (fun n => plU (plN g n)) s then 1 else 0)) ∧ scr x m m' ∧ (∀ n, n < 41 → m'.1 (x + 27) n = plU (plN g n)) ∧ m'.2 = m.2) := by
  refine gCo.of mwX6_goesAsSeen (Nat.le_of_ble_eq_true rfl) ?_
  intro F hF
  have hN0 := hN
  have hx := hN.1
  have h9 := hN.2.2.1.1
  obtain ⟨-, -, hG9, -, -, -, -, -, -, h23, -, -, -, h27, -⟩ := hN
  have K2 : ∀ (w i : Nat) (mi : gMem), i + w = 41 → scr x m mi → (∀ n, n < i → mi.1 (x + 27) n = plU (plN g n)) → mi.2 = m.2 → mi = gP mi (x + 9) (plN g i) → (gJ E yX6_goesAsSeen cX6_goesAsSeen 3 (some .boolean) (gRm 4 0 0) F 2 ([some (.ref x), some (.ref (x + 9)), some (.int (nI i))]) ([]) 0 0 σ (mi) hi) := by
    intro w
    induction w with
    | zero =>
      intro i mi hi' hsc hU h2 hm
      have : i = 41 := by omega
      subst this
      have hq : ∀ q, q = x + 23 ∨ q = x + 24 ∨ q = x + 25 ∨ q = x + 26 → mi.1 q = m.1 q := fun q hq => hsc q (by omega)
      refine j_iload_n (q := 3) dX6_goesAsSeen_2 rfl (by rfl) ?_
      refine j_aload_n (q := 4) dX6_goesAsSeen_3 rfl (by rfl) ?_
      refine j_getr (q := 7) dX6_goesAsSeen_4 rfl fX6_51 (by assumption) (by rfl) ?_
      refine j_alen (q := 8) dX6_goesAsSeen_7 rfl (by assumption) (by decide) (by rfl) ?_
      refine j_icmp_ge (q := 11) (tgt := 27) dX6_goesAsSeen_8 rfl (by decide) (fun h8 => ?_) (fun h8 => ?_)
      · refine j_aload_n (q := 28) dX6_goesAsSeen_27 rfl (by rfl) ?_
        refine j_getr (q := 31) dX6_goesAsSeen_28 rfl fX6_47 (by assumption) (by rfl) ?_
        refine j_aload_n (q := 32) dX6_goesAsSeen_31 rfl (by rfl) ?_
        refine j_getr (q := 35) dX6_goesAsSeen_32 rfl fX6_51 (by assumption) (by rfl) ?_
        have hA := cS_agrees E σ mi hi x s hN0 (by
          obtain ⟨a, b, c⟩ := hS
          exact ⟨by rw [hq _ (Or.inl rfl)]; exact a, b, fun i hi => by rw [hq _ (Or.inr (Or.inl rfl))]; exact c i hi⟩)
        rw [hq _ (Or.inr (Or.inl rfl)), hq _ (Or.inr (Or.inr (Or.inl rfl))), hq _ (Or.inr (Or.inr (Or.inr rfl)))] at hA
        refine o_callVi (q := 38) dX6_goesAsSeen_35 rfl lX6_280 mwX2_agrees mvX2_agrees cn2 (by assumption) (by rfl) rfl (Nat.le_of_ble_eq_true (by rfl)) (by decide) (hA) ?_
        have hiff : agS (m.1 (x + 24)) (m.1 (x + 25)) (m.1 (x + 26)) (mi.1 (x + 27)) s ↔ agS (m.1 (x + 24)) (m.1 (x + 25)) (m.1 (x + 26)) (fun n => plU (plN g n)) s := by
          constructor
          · intro h i hi
            obtain ⟨hh, h40, eh⟩ := hS.2.2 i hi
            have := h i hi
            rw [eh, nI_clamp (by omega)] at this ⊢
            rw [hU hh (by omega)] at this
            exact this
          · intro h i hi
            obtain ⟨hh, h40, eh⟩ := hS.2.2 i hi
            have := h i hi
            rw [eh, nI_clamp (by omega)] at this ⊢
            rw [hU hh (by omega)]
            exact this
        by_cases hag : agS (m.1 (x + 24)) (m.1 (x + 25)) (m.1 (x + 26)) (fun n => plU (plN g n)) s
        · rw [if_pos hag] at hF
          rw [if_pos (hiff.mpr hag)]
          refine o_zret hF rfl dX6_goesAsSeen_38 (by first | assumption | exact Or.inl rfl | exact Or.inr rfl) ?_
          exact ⟨rfl, hsc, hU, h2⟩
        · rw [if_neg hag] at hF
          rw [if_neg (fun q => hag (hiff.mp q))]
          refine o_zret hF rfl dX6_goesAsSeen_38 (by first | assumption | exact Or.inl rfl | exact Or.inr rfl) ?_
          exact ⟨rfl, hsc, hU, h2⟩
      · exact absurd (show (41 : Int32) ≤ nI 41 by decide) h8
    | succ w ih =>
      intro i mi hi' hsc hU h2 hm
      have hix : gIdx (nI i) 41 i := gIdx.of rfl (by omega) (by decide)
      refine j_iload_n (q := 3) dX6_goesAsSeen_2 rfl (by rfl) ?_
      refine j_aload_n (q := 4) dX6_goesAsSeen_3 rfl (by rfl) ?_
      refine j_getr (q := 7) dX6_goesAsSeen_4 rfl fX6_51 (by assumption) (by rfl) ?_
      refine j_alen (q := 8) dX6_goesAsSeen_7 rfl (by assumption) (by decide) (by rfl) ?_
      refine j_icmp_ge (q := 11) (tgt := 27) dX6_goesAsSeen_8 rfl (by decide) (fun h8 => ?_) (fun h8 => ?_)
      · exact absurd h8 (nI_ge (a := i) (b := 41) (by omega) (by omega))
      · have hP := cG_plan E σ mi hi (x + 9) i 9999 g hG9 h0 hc hb (by omega)
        rw [← hm] at hP
        refine j_aload_n (q := 12) dX6_goesAsSeen_11 rfl (by rfl) ?_
        refine j_getr (q := 15) dX6_goesAsSeen_12 rfl fX6_51 (by assumption) (by rfl) ?_
        refine j_iload_n (q := 16) dX6_goesAsSeen_15 rfl (by rfl) ?_
        refine j_aload_n (q := 17) dX6_goesAsSeen_16 rfl (by rfl) ?_
        refine o_callVi (q := 20) dX6_goesAsSeen_17 rfl lX6_194 mwX0_passByPlan mvX0_passByPlan cn0 (by assumption) (by rfl) rfl (Nat.le_of_ble_eq_true (by rfl)) (by decide) (hP) ?_
        refine j_iastore (q := 21) dX6_goesAsSeen_20 rfl (by assumption) (by assumption) ?_
        refine j_iinc (q := 24) dX6_goesAsSeen_21 rfl (by rfl) (by first | exact nI_inc _ | rfl) (by decide) ?_
        refine j_goto (tgt := 2) dX6_goesAsSeen_24 (by decide) ?_
        have hne : ¬ (x + 27 < x + 9) := by omega
        refine ih (i + 1) _ (by omega) ?_ ?_ h2 ?_
        · intro q hq
          funext r
          rw [gW_n (fun h => by omega)]
          exact congrFun ((gP_row (by omega)).trans (hsc q hq)) r
        · intro n hn
          by_cases hni : n = i
          · subst hni; rw [gW_s]
          · rw [gW_n (fun h => hni h.2), gP_none (gIxP_out (by omega))]
            exact hU n (by omega)
        · apply gMem_ext
          · intro q r
            cases hq : gIxP (x + 9) q r with
            | none => rw [gP_none hq]
            | some k =>
              obtain ⟨q1, q2, q3⟩ := gIxP_of hq
              have := cq_in (x + 9) k
              rw [gP_some hq, gW_n (fun h => by omega), gP_some hq]
          · rfl
  refine j_iconst (q := 1) (v := 0) dX6_goesAsSeen_0 rfl (by decide) ?_
  refine j_istore_n (q := 2) dX6_goesAsSeen_1 rfl (by decide) ?_
  exact K2 41 0 _ (by omega) ((scr.rf x m).t _) (fun n hn => absurd hn (by omega)) rfl (by rw [gP_gP]; rfl)

/-- is all as seen, if place k of the page holds b -/
abbrev agB (m : gMem) (x s k b : Nat) : Prop := agS (m.1 (x + 24)) (m.1 (x + 25)) (m.1 (x + 26)) (fun n => plU (plN (upd (pgC m (x + 1)) k (nI b)) n)) s
theorem agS_U {H V W U U' : Nat → Int32} {s : Nat} (h : ∀ n, U' n = U n) : agS H V W U' s ↔ agS H V W U s := by
  have : U' = U := funext h
  rw [this]
theorem agB_scr {m mi : gMem} {x : Nat} (h : scr x m mi) (s k b : Nat) : agB mi x s k b ↔ agB m x s k b := by
  unfold agB
  rw [h.n, h (x + 24) (by omega), h (x + 25) (by omega), h (x + 26) (by omega)]
theorem okS.scr {m mi : gMem} {x s : Nat} (h : scr x m mi) (hS : okS m x s) : okS mi x s := by
  unfold okS
  rw [h (x + 23) (by omega), h (x + 24) (by omega)]
  exact hS
/-- the trial as now, but for one place: then 41 hours -/
theorem cX_seenAt (E : gEv) (σ : gSg) (m mi : gMem) (hi x s k b : Nat) (hN : gN σ x) (ho : okN m x) (hS : okS m x s) (hsc : scr x m mi) (hk : k < 24) : gCo E yX6_goesAsSeen cX6_goesAsSeen 3 (some .boolean) 4 [.ref x, .ref (x + 9)] σ (gP mi (x + 9) (upd (bec (pgC m (x + 1)) (pgC mi (x + 9))) k (nI b))) hi (fun v' m' => v' = some (.int (if agB m x s k b then 1 else 0)) ∧ scr x m m' ∧ (∀ n, n < 41 → m'.1 (x + 27) n = plU (plN (upd (pgC m (x + 1)) k (nI b)) n)) ∧ m'.2 = mi.2) := by
  have hv := bec_veq (pgC m (x + 1)) (pgC mi (x + 9))
  have hvu := hv.up (k := k) (by omega) (by omega) (nI b)
  have hcu := ho.1.up (k := k) (by omega) (nI b)
  have hbu := ho.2.up (k := k) (by omega) (by omega) (nI b)
  have hU : ∀ n, plU (plN (upd (bec (pgC m (x + 1)) (pgC mi (x + 9))) k (nI b)) n) = plU (plN (upd (pgC m (x + 1)) k (nI b)) n) := fun n => plUN_veq hvu hcu hbu n
  have h := cX_goesAsSeen E σ mi hi x s (upd (bec (pgC m (x + 1)) (pgC mi (x + 9))) k (nI b)) hN (hS.scr hsc) (upd_0 (bec_0 (pgC_0 mi (x + 9))) (by omega) _) (hcu.v hvu) (hbu.v hvu)
  refine gCo.wk h ?_
  rintro v' m' ⟨e1, e2, e3, e4⟩
  refine ⟨?_, hsc.tr e2, fun n hn => by rw [e3 n hn, hU n], e4⟩
  rw [e1]
  have hiff : agS (mi.1 (x + 24)) (mi.1 (x + 25)) (mi.1 (x + 26)) (fun n => plU (plN (upd (bec (pgC m (x + 1)) (pgC mi (x + 9))) k (nI b)) n)) s ↔ agB m x s k b := by
    rw [hsc (x + 24) (by omega), hsc (x + 25) (by omega), hsc (x + 26) (by omega)]
    exact agS_U hU
  by_cases hag : agB m x s k b
  · rw [if_pos hag, if_pos (hiff.mpr hag)]
  · rw [if_neg hag, if_neg (fun q => hag (hiff.mp q))]
theorem cX_byNerve (E : gEv) (σ : gSg) (m mi : gMem) (hi x s j b : Nat) (hN : gN σ x) (ho : okN m x) (hS : okS m x s) (hsc : scr x m mi) (hj : j < cnt (pgC m (x + 1))) : gCo E yX6_goesAsSeenByNerve cX6_goesAsSeenByNerve 4 (some .boolean) 5 [.ref x, .int (nI j), .int (nI b)] σ mi hi (fun v' m' => v' = some (.int (if agB m x s (4 * 2 + j) b then 1 else 0)) ∧ scr x m m' ∧ (∀ n, n < 41 → m'.1 (x + 27) n = plU (plN (upd (pgC m (x + 1)) (4 * 2 + j) (nI b)) n)) ∧ m'.2 = mi.2) := by
  refine gCo.of mwX6_goesAsSeenByNerve (Nat.le_of_ble_eq_true rfl) ?_
  intro F hF
  have hx := hN.1
  obtain ⟨h9, ⟨fv, h9v, hfv⟩, h92, h93, hvv⟩ := hN.2.2.1
  have hj4 : j < 4 := by have := cnt_le ho.1; omega
  have hix : gIdx (nI j) 4 j := gIdx.of rfl hj4 (by decide)
  have hfj := hfv j hj4
  have hvj := hvv j hj4
  have hv := bec_veq (pgC m (x + 1)) (pgC mi (x + 9))
  obtain ⟨c, hc, hc4⟩ := ho.1
  have hcn : cnt (pgC m (x + 1)) = c := by unfold cnt; rw [hc]; exact nI_clamp (by omega)
  refine j_aload_n (q := 1) dX6_goesAsSeenByNerve_0 rfl (by rfl) ?_
  refine o_callVa (q := 4) dX6_goesAsSeenByNerve_1 rfl lX6_177 mwX6_afresh mvX6_afresh cn6 (by assumption) (by rfl) rfl (Nat.le_of_ble_eq_true (by rfl)) (by decide) (cX_afresh E σ mi hi x hN (hsc.ok ho)) ?_
  refine j_astore_n (q := 5) dX6_goesAsSeenByNerve_4 rfl (by decide) ?_
  refine j_aload_n (q := 6) dX6_goesAsSeenByNerve_5 rfl (by rfl) ?_
  refine j_iload_n (q := 7) dX6_goesAsSeenByNerve_6 rfl (by rfl) ?_
  refine o_callVi (q := 10) dX6_goesAsSeenByNerve_7 rfl lX6_126 mwX0_hasVent mvX0_hasVent cn0 (by assumption) (by rfl) rfl (Nat.le_of_ble_eq_true (by rfl)) (by decide) (cG_hasVent E σ (frM mi x) hi (x + 9) (nI j) hN.2.2.1) ?_
  rw [frM_pg, sHas_in (n := c) (by rw [hsc.n, hv.a24]; exact hc) (by omega) (by omega)]
  refine j_if_eq (q := 13) (tgt := 23) dX6_goesAsSeenByNerve_10 rfl (by decide) (fun h10 => ?_) (fun h10 => ?_)
  · exact absurd h10 (by decide)
  · refine j_aload_n (q := 14) dX6_goesAsSeenByNerve_13 rfl (by rfl) ?_
    refine j_getr (q := 17) dX6_goesAsSeenByNerve_14 rfl fX6_132 (by assumption) (by rfl) ?_
    refine j_iload_n (q := 18) dX6_goesAsSeenByNerve_17 rfl (by rfl) ?_
    refine j_aaload (q := 19) dX6_goesAsSeenByNerve_18 rfl (by assumption) (by decide) (by assumption) (by assumption) ?_
    refine j_iload_n (q := 20) dX6_goesAsSeenByNerve_19 rfl (by rfl) ?_
    refine j_puti (q := 23) dX6_goesAsSeenByNerve_20 rfl fX6_277 p5_2 (by assumption) (by rfl) ?_
    refine j_aload_n (q := 24) dX6_goesAsSeenByNerve_23 rfl (by rfl) ?_
    refine j_aload_n (q := 25) dX6_goesAsSeenByNerve_24 rfl (by rfl) ?_
    have ew : gW (frM mi x) (x + 9 + 4 + j) 2 (nI b) = gP mi (x + 9) (upd (bec (pgC m (x + 1)) (pgC mi (x + 9))) (4 * 2 + j) (nI b)) := by
      unfold frM
      rw [gW_gP (gIxP_v (x + 9) hj4 (by decide)), hsc.n]
    rw [ew]
    refine o_callVx (q := 28) dX6_goesAsSeenByNerve_25 rfl lX6_271 mwX6_goesAsSeen mvX6_goesAsSeen cn6 (by assumption) (by rfl) rfl (Nat.le_of_ble_eq_true (by rfl)) (by decide) (cX_seenAt E σ m mi hi x s (4 * 2 + j) b hN ho hS hsc (by omega)) ?_
    rintro v m1 ⟨rfl, e2, e3, e4⟩
    by_cases hag : agB m x s (4 * 2 + j) b
    · rw [if_pos hag] at hF ⊢
      refine o_zret hF rfl dX6_goesAsSeenByNerve_28 (by first | assumption | exact Or.inl rfl | exact Or.inr rfl) ?_
      exact ⟨rfl, e2, e3, e4⟩
    · rw [if_neg hag] at hF ⊢
      refine o_zret hF rfl dX6_goesAsSeenByNerve_28 (by first | assumption | exact Or.inl rfl | exact Or.inr rfl) ?_
      exact ⟨rfl, e2, e3, e4⟩
/-- the bits of those that agree -/
def agBits (m : gMem) (x s k : Nat) : Nat → Int32
  | 0 => 0
  | b + 1 => if agB m x s k b then agBits m x s k b ||| ((1 : Int32) <<< (nI b &&& 31)) else agBits m x s k b
def xNerves (m : gMem) (x s : Nat) (v : Int32) (off n : Nat) : Int32 := match ixV (pgC m (x + 1) 24) v with
  | none => -1
  | some j => agBits m x s (4 * off + j) n
theorem cX_nerves (E : gEv) (σ : gSg) (m : gMem) (hi x s : Nat) (v : Int32) (hN : gN σ x) (ho : okN m x) (hS : okS m x s) : gCo E yX6_nerves cX6_nerves 4 (some .int) 6 [.ref x, .int v] σ m hi (fun v' m' => v' = some (.int (xNerves m x s v 2 10)) ∧ scr x m m') := by
  refine gCo.of mwX6_nerves (Nat.le_of_ble_eq_true rfl) ?_
  intro F hF
  have hx := hN.1
  have h1 := hN.2.1.1
  obtain ⟨c, hc, hc4⟩ := ho.1
  have hcn : cnt (pgC m (x + 1)) = c := by unfold cnt; rw [hc]; exact nI_clamp (by omega)
  unfold xNerves at hF
  refine j_aload_n (q := 1) dX6_nerves_0 rfl (by rfl) ?_
  refine j_getr (q := 4) dX6_nerves_1 rfl fX6_10 (by assumption) (by rfl) ?_
  refine j_iload_n (q := 5) dX6_nerves_4 rfl (by rfl) ?_
  refine o_callVi (q := 8) dX6_nerves_5 rfl lX6_126 mwX0_hasVent mvX0_hasVent cn0 (by assumption) (by rfl) rfl (Nat.le_of_ble_eq_true (by rfl)) (by decide) (cG_hasVent E σ m hi (x + 1) v hN.2.1) ?_
  rcases ixV_or v hc (by omega) with ⟨hs, hv2⟩ | ⟨j, hj, ej, hs, hv2⟩
  · rw [hs]
    rw [hv2] at hF
    refine j_if_ne (q := 11) (tgt := 13) dX6_nerves_8 rfl (by decide) (fun h8 => ?_) (fun h8 => ?_)
    · exact absurd rfl h8
    · refine j_iconst (q := 12) (v := (-1)) dX6_nerves_11 rfl (by decide) ?_
      refine o_iret hF rfl dX6_nerves_12 ?_
      exact ⟨rfl, scr.rf x m⟩
  rw [hs]
  rw [hv2] at hF
  dsimp only at hF
  subst ej
  refine j_if_ne (q := 11) (tgt := 13) dX6_nerves_8 rfl (by decide) (fun h8 => ?_) (fun h8 => ?_)
  · have K17 : ∀ (w b : Nat) (mi : gMem), b + w = 10 → scr x m mi → (gJ E yX6_nerves cX6_nerves 4 (some .int) (gRm 6 0 0) F 17 ([some (.ref x), some (.int (nI j)), some (.int (agBits m x s (4 * 2 + j) b)), some (.int (nI b))]) ([]) 0 0 σ (mi) hi) := by
      intro w
      induction w with
      | zero =>
        intro b mi hb hsc
        have : b = 10 := by omega
        subst this
        refine j_iload_n (q := 18) dX6_nerves_17 rfl (by rfl) ?_
        refine j_bipush (q := 20) (v := 9) dX6_nerves_18 rfl (by decide) ?_
        refine j_icmp_gt (q := 23) (tgt := 44) dX6_nerves_20 rfl (by decide) (fun h20 => ?_) (fun h20 => ?_)
        · refine j_iload_n (q := 45) dX6_nerves_44 rfl (by rfl) ?_
          refine o_iret hF rfl dX6_nerves_45 ?_
          exact ⟨rfl, hsc⟩
        · exact absurd (show (9 : Int32) < nI 10 by decide) h20
      | succ w ih =>
        intro b mi hb hsc
        refine j_iload_n (q := 18) dX6_nerves_17 rfl (by rfl) ?_
        refine j_bipush (q := 20) (v := 9) dX6_nerves_18 rfl (by decide) ?_
        refine j_icmp_gt (q := 23) (tgt := 44) dX6_nerves_20 rfl (by decide) (fun h20 => ?_) (fun h20 => ?_)
        · exact absurd h20 (nI_nlt (a := 9) (b := b) (by omega) (by omega))
        · refine j_aload_n (q := 24) dX6_nerves_23 rfl (by rfl) ?_
          refine j_iload_n (q := 25) dX6_nerves_24 rfl (by rfl) ?_
          refine j_iload_n (q := 26) dX6_nerves_25 rfl (by rfl) ?_
          refine o_callVx (q := 29) dX6_nerves_26 rfl lX6_274 mwX6_goesAsSeenByNerve mvX6_goesAsSeenByNerve cn6 (by assumption) (by rfl) rfl (Nat.le_of_ble_eq_true (by rfl)) (by decide) (cX_byNerve E σ m mi hi x s j b hN ho hS hsc (by omega)) ?_
          rintro v m1 ⟨rfl, e2, e3, e4⟩
          by_cases hag : agB m x s (4 * 2 + j) b
          · rw [if_pos hag]
            refine j_if_eq (q := 32) (tgt := 38) dX6_nerves_29 rfl (by decide) (fun h29 => ?_) (fun h29 => ?_)
            · exact absurd h29 (by decide)
            · refine j_iload_n (q := 33) dX6_nerves_32 rfl (by rfl) ?_
              refine j_iconst (q := 34) (v := 1) dX6_nerves_33 rfl (by decide) ?_
              refine j_iload_n (q := 35) dX6_nerves_34 rfl (by rfl) ?_
              refine j_ishl (q := 36) dX6_nerves_35 rfl ?_
              refine j_ior (q := 37) dX6_nerves_36 rfl ?_
              refine j_istore_n (q := 38) dX6_nerves_37 rfl (by decide) ?_
              refine j_iinc (q := 41) dX6_nerves_38 rfl (by rfl) (by first | exact nI_inc _ | rfl) (by decide) ?_
              refine j_goto (tgt := 17) dX6_nerves_41 (by decide) ?_
              have := ih (b + 1) m1 (by omega) e2
              rw [agBits, if_pos hag] at this
              exact this
          · rw [if_neg hag]
            refine j_if_eq (q := 32) (tgt := 38) dX6_nerves_29 rfl (by decide) (fun h29 => ?_) (fun h29 => ?_)
            · refine j_iinc (q := 41) dX6_nerves_38 rfl (by rfl) (by first | exact nI_inc _ | rfl) (by decide) ?_
              refine j_goto (tgt := 17) dX6_nerves_41 (by decide) ?_
              have := ih (b + 1) m1 (by omega) e2
              rw [agBits, if_neg hag] at this
              exact this
            · exact absurd rfl h29
    refine j_iconst (q := 14) (v := 0) dX6_nerves_13 rfl (by decide) ?_
    refine j_istore_n (q := 15) dX6_nerves_14 rfl (by decide) ?_
    refine j_iconst (q := 16) (v := 0) dX6_nerves_15 rfl (by decide) ?_
    refine j_istore_n (q := 17) dX6_nerves_16 rfl (by decide) ?_
    exact K17 10 0 m (by omega) (scr.rf x m)
  · exact absurd h8 (by decide)
theorem cX_kinds (E : gEv) (σ : gSg) (m : gMem) (hi x s : Nat) (v : Int32) (hN : gN σ x) (ho : okN m x) (hS : okS m x s) : gCo E yX6_kinds cX6_kinds 5 (some .int) 5 [.ref x, .int v] σ m hi (fun v' m' => v' = some (.int (xNerves m x s v 0 4)) ∧ scr x m m') := by
  refine gCo.of mwX6_kinds (Nat.le_of_ble_eq_true rfl) ?_
  intro F hF
  have hx := hN.1
  have h1 := hN.2.1.1
  obtain ⟨h9, ⟨fv, h9v, hfv⟩, h92, h93, hvv⟩ := hN.2.2.1
  obtain ⟨c, hc, hc4⟩ := ho.1
  unfold xNerves at hF
  refine j_aload_n (q := 1) dX6_kinds_0 rfl (by rfl) ?_
  refine j_getr (q := 4) dX6_kinds_1 rfl fX6_10 (by assumption) (by rfl) ?_
  refine j_iload_n (q := 5) dX6_kinds_4 rfl (by rfl) ?_
  refine o_callVi (q := 8) dX6_kinds_5 rfl lX6_126 mwX0_hasVent mvX0_hasVent cn0 (by assumption) (by rfl) rfl (Nat.le_of_ble_eq_true (by rfl)) (by decide) (cG_hasVent E σ m hi (x + 1) v hN.2.1) ?_
  rcases ixV_or v hc (by omega) with ⟨hs, hv2⟩ | ⟨j, hj, ej, hs, hv2⟩
  · rw [hs]
    rw [hv2] at hF
    refine j_if_ne (q := 11) (tgt := 13) dX6_kinds_8 rfl (by decide) (fun h8 => ?_) (fun h8 => ?_)
    · exact absurd rfl h8
    · refine j_iconst (q := 12) (v := (-1)) dX6_kinds_11 rfl (by decide) ?_
      refine o_iret hF rfl dX6_kinds_12 ?_
      exact ⟨rfl, scr.rf x m⟩
  rw [hs]
  rw [hv2] at hF
  dsimp only at hF
  subst ej
  have hj4 : j < 4 := by omega
  have hix : gIdx (nI j) 4 j := gIdx.of rfl hj4 (by decide)
  have hfj := hfv j hj4
  have hvj := hvv j hj4
  refine j_if_ne (q := 11) (tgt := 13) dX6_kinds_8 rfl (by decide) (fun h8 => ?_) (fun h8 => ?_)
  · have K17 : ∀ (w b : Nat) (mi : gMem) (o4 : Option Value), b + w = 4 → scr x m mi → (gJ E yX6_kinds cX6_kinds 5 (some .int) (gRm 5 0 0) F 17 ([some (.ref x), some (.int (nI j)), some (.int (agBits m x s (4 * 0 + j) b)), some (.int (nI b)), o4]) ([]) 0 0 σ (mi) hi) := by
      intro w
      induction w with
      | zero =>
        intro b mi o4 hb hsc
        have : b = 4 := by omega
        subst this
        refine j_iload_n (q := 18) dX6_kinds_17 rfl (by rfl) ?_
        refine j_iconst (q := 19) (v := 3) dX6_kinds_18 rfl (by decide) ?_
        refine j_icmp_gt (q := 22) (tgt := 60) dX6_kinds_19 rfl (by decide) (fun h19 => ?_) (fun h19 => ?_)
        · refine j_iload_n (q := 61) dX6_kinds_60 rfl (by rfl) ?_
          refine o_iret hF rfl dX6_kinds_61 ?_
          exact ⟨rfl, hsc⟩
        · exact absurd (show (3 : Int32) < nI 4 by decide) h19
      | succ w ih =>
        intro b mi o4 hb hsc
        refine j_iload_n (q := 18) dX6_kinds_17 rfl (by rfl) ?_
        refine j_iconst (q := 19) (v := 3) dX6_kinds_18 rfl (by decide) ?_
        refine j_icmp_gt (q := 22) (tgt := 60) dX6_kinds_19 rfl (by decide) (fun h19 => ?_) (fun h19 => ?_)
        · exact absurd h19 (nI_nlt (a := 3) (b := b) (by omega) (by omega))
        · refine j_aload_n (q := 23) dX6_kinds_22 rfl (by rfl) ?_
          refine o_callVa (q := 26) dX6_kinds_23 rfl lX6_177 mwX6_afresh mvX6_afresh cn6 (by assumption) (by rfl) rfl (Nat.le_of_ble_eq_true (by rfl)) (by decide) (cX_afresh E σ mi hi x hN (hsc.ok ho)) ?_
          refine j_astore (q := 28) dX6_kinds_26 rfl (by decide) ?_
          refine j_aload (q := 30) dX6_kinds_28 rfl (by rfl) ?_
          refine j_getr (q := 33) dX6_kinds_30 rfl fX6_132 (by assumption) (by rfl) ?_
          refine j_iload_n (q := 34) dX6_kinds_33 rfl (by rfl) ?_
          refine j_aaload (q := 35) dX6_kinds_34 rfl (by assumption) (by decide) (by assumption) (by assumption) ?_
          refine j_iload_n (q := 36) dX6_kinds_35 rfl (by rfl) ?_
          refine j_puti (q := 39) dX6_kinds_36 rfl fX6_233 p5_0 (by assumption) (by rfl) ?_
          refine j_aload_n (q := 40) dX6_kinds_39 rfl (by rfl) ?_
          refine j_aload (q := 42) dX6_kinds_40 rfl (by rfl) ?_
          have ew : gW (frM mi x) (x + 9 + 4 + j) 0 (nI b) = gP mi (x + 9) (upd (bec (pgC m (x + 1)) (pgC mi (x + 9))) (4 * 0 + j) (nI b)) := by
            unfold frM
            rw [gW_gP (gIxP_v (x + 9) hj4 (by decide)), hsc.n]
          rw [ew]
          refine o_callVx (q := 45) dX6_kinds_42 rfl lX6_271 mwX6_goesAsSeen mvX6_goesAsSeen cn6 (by assumption) (by rfl) rfl (Nat.le_of_ble_eq_true (by rfl)) (by decide) (cX_seenAt E σ m mi hi x s (4 * 0 + j) b hN ho hS hsc (by omega)) ?_
          rintro v m1 ⟨rfl, e2, e3, e4⟩
          by_cases hag : agB m x s (4 * 0 + j) b
          · rw [if_pos hag]
            refine j_if_eq (q := 48) (tgt := 54) dX6_kinds_45 rfl (by decide) (fun h45 => ?_) (fun h45 => ?_)
            · exact absurd h45 (by decide)
            · refine j_iload_n (q := 49) dX6_kinds_48 rfl (by rfl) ?_
              refine j_iconst (q := 50) (v := 1) dX6_kinds_49 rfl (by decide) ?_
              refine j_iload_n (q := 51) dX6_kinds_50 rfl (by rfl) ?_
              refine j_ishl (q := 52) dX6_kinds_51 rfl ?_
              refine j_ior (q := 53) dX6_kinds_52 rfl ?_
              refine j_istore_n (q := 54) dX6_kinds_53 rfl (by decide) ?_
              refine j_iinc (q := 57) dX6_kinds_54 rfl (by rfl) (by first | exact nI_inc _ | rfl) (by decide) ?_
              refine j_goto (tgt := 17) dX6_kinds_57 (by decide) ?_
              have := ih (b + 1) m1 (some (.ref (x + 9))) (by omega) e2
              rw [agBits, if_pos hag] at this
              exact this
          · rw [if_neg hag]
            refine j_if_eq (q := 48) (tgt := 54) dX6_kinds_45 rfl (by decide) (fun h45 => ?_) (fun h45 => ?_)
            · refine j_iinc (q := 57) dX6_kinds_54 rfl (by rfl) (by first | exact nI_inc _ | rfl) (by decide) ?_
              refine j_goto (tgt := 17) dX6_kinds_57 (by decide) ?_
              have := ih (b + 1) m1 (some (.ref (x + 9))) (by omega) e2
              rw [agBits, if_neg hag] at this
              exact this
            · exact absurd rfl h45
    refine j_iconst (q := 14) (v := 0) dX6_kinds_13 rfl (by decide) ?_
    refine j_istore_n (q := 15) dX6_kinds_14 rfl (by decide) ?_
    refine j_iconst (q := 16) (v := 0) dX6_kinds_15 rfl (by decide) ?_
    refine j_istore_n (q := 17) dX6_kinds_16 rfl (by decide) ?_
    exact K17 4 0 m _ (by omega) (scr.rf x m)
  · exact absurd h8 (by decide)
/-- the hours, as bits, in which geyser v goes up -/
def hB (U : Nat → Int32) (v : Int32) : Nat → Int64
  | 0 => 0
  | k + 1 => hB U v k ||| ((sBit (U k) v).toInt64 <<< ((nI k).toInt64 &&& 63))
theorem hB_U {U U' : Nat → Int32} (v : Int32) : ∀ n, (∀ k, k < n → U' k = U k) → hB U' v n = hB U v n
  | 0, _ => rfl
  | n + 1, h => by rw [hB, hB, hB_U v n (fun k hk => h k (by omega)), h n (by omega)]
theorem cX_hoursOf (E : gEv) (σ : gSg) (m : gMem) (hi x : Nat) (v : Int32) (hN : gN σ x) : gCo E yX6_hoursOf cX6_hoursOf 5 (some .long) 1 [.ref x, .int v] σ m hi (gX (some (.long (hB (m.1 (x + 27)) v 41))) m) := by
  refine gCo.of mwX6_hoursOf (Nat.le_of_ble_eq_true rfl) ?_
  intro F hF
  have hx := hN.1
  obtain ⟨-, -, -, -, -, -, -, -, -, -, -, -, -, h27, -⟩ := hN
  have K5 : ∀ w i : Nat, i + w = 41 → (gJ E yX6_hoursOf cX6_hoursOf 5 (some .long) (gRm 1 0 0) F 5 ([some (.ref x), some (.int v), some (.long (hB (m.1 (x + 27)) v i)), none, some (.int (nI i))]) ([]) 0 0 σ (m) hi) := by
    intro w
    induction w with
    | zero =>
      intro i hi'
      have : i = 41 := by omega
      subst this
      refine j_iload (q := 7) dX6_hoursOf_5 rfl (by rfl) ?_
      refine j_aload_n (q := 8) dX6_hoursOf_7 rfl (by rfl) ?_
      refine j_getr (q := 11) dX6_hoursOf_8 rfl fX6_51 (by assumption) (by rfl) ?_
      refine j_alen (q := 12) dX6_hoursOf_11 rfl (by assumption) (by decide) (by rfl) ?_
      refine j_icmp_ge (q := 15) (tgt := 39) dX6_hoursOf_12 rfl (by decide) (fun h12 => ?_) (fun h12 => ?_)
      · refine j_lload_n (q := 40) dX6_hoursOf_39 rfl (by rfl) ?_
        refine o_lret hF rfl dX6_hoursOf_40 ?_
        exact ⟨rfl, rfl⟩
      · exact absurd (show (41 : Int32) ≤ nI 41 by decide) h12
    | succ w ih =>
      intro i hi'
      have hix : gIdx (nI i) 41 i := gIdx.of rfl (by omega) (by decide)
      refine j_iload (q := 7) dX6_hoursOf_5 rfl (by rfl) ?_
      refine j_aload_n (q := 8) dX6_hoursOf_7 rfl (by rfl) ?_
      refine j_getr (q := 11) dX6_hoursOf_8 rfl fX6_51 (by assumption) (by rfl) ?_
      refine j_alen (q := 12) dX6_hoursOf_11 rfl (by assumption) (by decide) (by rfl) ?_
      refine j_icmp_ge (q := 15) (tgt := 39) dX6_hoursOf_12 rfl (by decide) (fun h12 => ?_) (fun h12 => ?_)
      · exact absurd h12 (nI_ge (a := i) (b := 41) (by omega) (by omega))
      · refine j_lload_n (q := 16) dX6_hoursOf_15 rfl (by rfl) ?_
        refine j_aload_n (q := 17) dX6_hoursOf_16 rfl (by rfl) ?_
        refine j_getr (q := 20) dX6_hoursOf_17 rfl fX6_51 (by assumption) (by rfl) ?_
        refine j_iload (q := 22) dX6_hoursOf_20 rfl (by rfl) ?_
        refine j_iaload (q := 23) dX6_hoursOf_22 rfl (by assumption) (by assumption) ?_
        refine j_iload_n (q := 24) dX6_hoursOf_23 rfl (by rfl) ?_
        refine o_callSi (q := 27) dX6_hoursOf_24 rfl lX6_197 mwX6_bit msX6_bit (by rfl) rfl (Nat.le_of_ble_eq_true (by rfl)) (by decide) (cX_bit E σ m hi _ _) ?_
        refine j_i2l (q := 28) dX6_hoursOf_27 rfl ?_
        refine j_iload (q := 30) dX6_hoursOf_28 rfl (by rfl) ?_
        refine j_lshl (q := 31) dX6_hoursOf_30 rfl ?_
        refine j_lor (q := 32) dX6_hoursOf_31 rfl ?_
        refine j_lstore_n (q := 33) dX6_hoursOf_32 rfl (by decide) ?_
        refine j_iinc (q := 36) dX6_hoursOf_33 rfl (by rfl) (by first | exact nI_inc _ | rfl) (by decide) ?_
        refine j_goto (tgt := 5) dX6_hoursOf_36 (by decide) ?_
        exact ih (i + 1) (by omega)
  refine j_lconst (q := 1) (v := 0) dX6_hoursOf_0 rfl (by decide) ?_
  refine j_lstore_n (q := 2) dX6_hoursOf_1 rfl (by decide) ?_
  refine j_iconst (q := 3) (v := 0) dX6_hoursOf_2 rfl (by decide) ?_
  refine j_istore (q := 5) dX6_hoursOf_3 rfl (by decide) ?_
  exact K5 41 0 (by omega)
def lwS (L : Nat → Int64) (n : Int32) : Nat → Int32
  | 0 => 0
  | k + 1 => lwS L n k + (((L k).toUInt64 >>> (n.toInt64.toUInt64 &&& Int64.toUInt64 63)).toInt64 &&& 1).toInt32
theorem cX_leftAtWorst (E : gEv) (σ : gSg) (m : gMem) (hi x t : Nat) (n : Int32) (hN : gN σ x) (ht : t ≤ 10) : gCo E yX6_leftAtWorst cX6_leftAtWorst 5 (some .int) 1 [.ref x, .int n, .int (nI t)] σ m hi (gX (some (.int (sMax (lwS (m.2 (x + 28)) n t) (nI t - lwS (m.2 (x + 28)) n t)))) m) := by
  refine gCo.of mwX6_leftAtWorst (Nat.le_of_ble_eq_true rfl) ?_
  intro F hF
  have hx := hN.1
  obtain ⟨-, -, -, -, -, -, -, -, -, -, -, -, -, -, h28, -⟩ := hN
  have K5 : ∀ w i : Nat, i + w = t → (gJ E yX6_leftAtWorst cX6_leftAtWorst 5 (some .int) (gRm 1 0 0) F 5 ([some (.ref x), some (.int n), some (.int (nI t)), some (.int (lwS (m.2 (x + 28)) n i)), some (.int (nI i))]) ([]) 0 0 σ (m) hi) := by
    intro w
    induction w with
    | zero =>
      intro i hi'
      have : i = t := by omega
      subst this
      refine j_iload (q := 7) dX6_leftAtWorst_5 rfl (by rfl) ?_
      refine j_iload_n (q := 8) dX6_leftAtWorst_7 rfl (by rfl) ?_
      refine j_icmp_ge (q := 11) (tgt := 42) dX6_leftAtWorst_8 rfl (by decide) (fun h8 => ?_) (fun h8 => ?_)
      · refine j_iload_n (q := 43) dX6_leftAtWorst_42 rfl (by rfl) ?_
        refine j_iload_n (q := 44) dX6_leftAtWorst_43 rfl (by rfl) ?_
        refine j_iload_n (q := 45) dX6_leftAtWorst_44 rfl (by rfl) ?_
        refine j_isub (q := 46) dX6_leftAtWorst_45 rfl ?_
        refine j_mmax (q := 49) dX6_leftAtWorst_46 rfl lX6_222 ⟨⟨by decide, Nat.le_of_ble_eq_true (by rfl)⟩, by decide, by decide⟩ ?_
        refine o_iret hF rfl dX6_leftAtWorst_49 ?_
        exact ⟨rfl, rfl⟩
      · exact absurd (Int32.le_refl _) h8
    | succ w ih =>
      intro i hi'
      have hix : gIdx (nI i) 10 i := gIdx.of rfl (by omega) (by decide)
      refine j_iload (q := 7) dX6_leftAtWorst_5 rfl (by rfl) ?_
      refine j_iload_n (q := 8) dX6_leftAtWorst_7 rfl (by rfl) ?_
      refine j_icmp_ge (q := 11) (tgt := 42) dX6_leftAtWorst_8 rfl (by decide) (fun h8 => ?_) (fun h8 => ?_)
      · exact absurd h8 (nI_ge (by omega) (by omega))
      refine j_iload (q := 13) dX6_leftAtWorst_11 rfl (by rfl) ?_
      refine j_aload_n (q := 14) dX6_leftAtWorst_13 rfl (by rfl) ?_
      refine j_getr (q := 17) dX6_leftAtWorst_14 rfl fX6_55 (by assumption) (by rfl) ?_
      refine j_alen (q := 18) dX6_leftAtWorst_17 rfl (by assumption) (by decide) (by rfl) ?_
      refine j_icmp_ge (q := 21) (tgt := 42) dX6_leftAtWorst_18 rfl (by decide) (fun h18 => ?_) (fun h18 => ?_)
      · exact absurd h18 (nI_ge (a := i) (b := 10) (by omega) (by omega))
      · refine j_iload_n (q := 22) dX6_leftAtWorst_21 rfl (by rfl) ?_
        refine j_aload_n (q := 23) dX6_leftAtWorst_22 rfl (by rfl) ?_
        refine j_getr (q := 26) dX6_leftAtWorst_23 rfl fX6_55 (by assumption) (by rfl) ?_
        refine j_iload (q := 28) dX6_leftAtWorst_26 rfl (by rfl) ?_
        refine j_laload (q := 29) dX6_leftAtWorst_28 rfl (by assumption) (by assumption) ?_
        refine j_iload_n (q := 30) dX6_leftAtWorst_29 rfl (by rfl) ?_
        refine j_lushr (q := 31) dX6_leftAtWorst_30 rfl ?_
        refine j_lconst (q := 32) (v := 1) dX6_leftAtWorst_31 rfl (by decide) ?_
        refine j_land (q := 33) dX6_leftAtWorst_32 rfl ?_
        refine j_l2i (q := 34) dX6_leftAtWorst_33 rfl ?_
        refine j_iadd (q := 35) dX6_leftAtWorst_34 rfl ?_
        refine j_istore_n (q := 36) dX6_leftAtWorst_35 rfl (by decide) ?_
        refine j_iinc (q := 39) dX6_leftAtWorst_36 rfl (by rfl) (by first | exact nI_inc _ | rfl) (by decide) ?_
        refine j_goto (tgt := 5) dX6_leftAtWorst_39 (by decide) ?_
        exact ih (i + 1) (by omega)
  refine j_iconst (q := 1) (v := 0) dX6_leftAtWorst_0 rfl (by decide) ?_
  refine j_istore_n (q := 2) dX6_leftAtWorst_1 rfl (by decide) ?_
  refine j_iconst (q := 3) (v := 0) dX6_leftAtWorst_2 rfl (by decide) ?_
  refine j_istore (q := 5) dX6_leftAtWorst_3 rfl (by decide) ?_
  exact K5 t 0 (by omega)
