/-! the reference: hours that are tried; what is changed -/
def g3 (m : gMem) (t : Nat) (a b c : Int32) : gMem := gW (gW (gW m t 15 a) t 16 b) t 17 c
theorem g3_15 (m : gMem) (t : Nat) (a b c v : Int32) : gW (g3 m t a b c) t 15 v = g3 m t v b c := by
  unfold g3
  rw [gW_swap (k := 17) (k' := 15) (by omega), gW_swap (k := 16) (k' := 15) (by omega), gW_W]
theorem g3_16 (m : gMem) (t : Nat) (a b c v : Int32) : gW (g3 m t a b c) t 16 v = g3 m t a v c := by
  unfold g3
  rw [gW_swap (k := 17) (k' := 16) (by omega), gW_W]
theorem g3_17 (m : gMem) (t : Nat) (a b c v : Int32) : gW (g3 m t a b c) t 17 v = g3 m t a b v := by
  unfold g3
  rw [gW_W]
theorem g3_r15 (m : gMem) (t : Nat) (a b c : Int32) : (g3 m t a b c).1 t 15 = a := by unfold g3; rw [gW_n (by omega), gW_n (by omega), gW_s]
theorem g3_r16 (m : gMem) (t : Nat) (a b c : Int32) : (g3 m t a b c).1 t 16 = b := by unfold g3; rw [gW_n (by omega), gW_s]
theorem g3_r17 (m : gMem) (t : Nat) (a b c : Int32) : (g3 m t a b c).1 t 17 = c := by unfold g3; rw [gW_s]
theorem g3_pg (m : gMem) (t p : Nat) (a b c : Int32) : pgR (g3 m t a b c) t p = pgR m t p := by unfold g3; rw [pgR_t, pgR_t, pgR_t]
theorem sMax_assoc (a b c : Int32) : sMax (sMax a b) c = sMax a (sMax b c) := by
  unfold sMax
  by_cases h1 : a < b
  · rw [if_pos h1]
    by_cases h2 : b < c
    · rw [if_pos h2, if_pos (Int32.lt_trans h1 h2)]
    · rw [if_neg h2, if_pos h1]
  · rw [if_neg h1]
    by_cases h2 : b < c
    · rw [if_pos h2]
    · rw [if_neg h2, if_neg h1, if_neg (fun q => h2 (Int32.lt_of_le_of_lt (Int32.not_lt.mp h1) q))]
theorem sMax_ge (a b : Int32) : a ≤ sMax a b := by
  unfold sMax
  by_cases h : a < b
  · rw [if_pos h]; exact Int32.le_of_lt h
  · rw [if_neg h]; exact Int32.le_refl a
theorem feJ_0 (g : Nat → Int32) : ∀ j, feJ g 0 j = gHj g j
  | 0 => rfl
  | j + 1 => by rw [feJ, gHj, feJ_0 g j]
theorem feJ_mx (g : Nat → Int32) {c : Int32} (hc : 0 ≤ c) : ∀ j, feJ g c j = sMax c (gHj g j)
  | 0 => by
    show c = sMax c 0
    unfold sMax
    rw [if_neg (Int32.not_lt.mpr hc)]
  | j + 1 => by rw [feJ, gHj, feJ_mx g hc j, sMax_assoc]
theorem gHj_ge (g : Nat → Int32) : ∀ j, 0 ≤ gHj g j
  | 0 => Int32.le_refl 0
  | j + 1 => Int32.le_trans (gHj_ge g j) (sMax_ge _ _)
theorem hotN_ge (g : Nat → Int32) : ∀ n, 0 ≤ hotN g n
  | 0 => gHj_ge g _
  | n + 1 => Int32.le_trans (hotN_ge g n) (sMax_ge _ _)
def hgM (m : gMem) (t : Nat) (g : Nat → Int32) (n : Nat) : gMem := gQ (g3 m t (pleN g n) (vaiN g n) (hotN g n)) t 212 (plN g n)
theorem cM_hoursGo (E : gEv) (σ : gSg) (m : gMem) (hi t p n : Nat) (g : Nat → Int32) (hg : pgR m t p = g) (hR : gR σ t) (hp : p = 0 ∨ p = 265) (hc : okC g) (hr : okB g 9999) (hn : n ≤ 200) : gCo E yX7_hoursGo cX7_hoursGo 7 (some .int) 4 [.ref t, .int (nI p), .int (nI n)] σ m hi (gX (some (.int (upsN g n))) (hgM m t g n)) := by
  refine gCo.of mwX7_hoursGo (Nat.le_of_ble_eq_true rfl) ?_
  intro F hF
  have h0 := hR.1
  have hg0 : pg0 g := by rw [← hg]; exact pgR_0 m t p
  have ep : ∀ (a b c : Int32) (i : Nat), pgR (gQ (g3 m t a b c) t 212 (plN g i)) t 212 = plN g i := fun a b c i => pgR_gQ (plN_0 hg0 i) _ _ _
  have er17 : ∀ (a b c : Int32) (i : Nat), (gQ (g3 m t a b c) t 212 (plN g i)).1 t 17 = c := fun a b c i => by rw [gQ_out (by omega), g3_r17]
  have hFe : ∀ (a b c : Int32) (i : Nat), gCo E yX7_feels cX7_feels 3 (none) 0 [.ref t, .int (nI 212)] σ (gQ (g3 m t a b c) t 212 (plN g i)) hi (gX none (gQ (g3 m t a b (feJ (plN g i) c (cnt (plN g i)))) t 212 (plN g i))) := by
    intro a b c i
    have := cM_feels E σ (gQ (g3 m t a b c) t 212 (plN g i)) hi t 212 hR (by decide) (by rw [ep]; exact plN_C hc i)
    rw [ep, er17, gQ_t, g3_17] at this
    exact this
  have K35 : ∀ (k i : Nat) (o5 o6 : Option Value), i + k = n → (gJ E yX7_hoursGo cX7_hoursGo 7 (some .int) (gRm 4 0 0) F 35 ([some (.ref t), some (.int (nI p)), some (.int (nI n)), some (.int (upsN g i)), some (.int (nI i)), o5, o6]) ([]) 0 0 σ (hgM m t g i) hi) := by
    intro k
    induction k with
    | zero =>
      intro i o5 o6 hi'
      have : i = n := by omega
      subst this
      refine j_iload (q := 37) dX7_hoursGo_35 rfl (by rfl) ?_
      refine j_iload_n (q := 38) dX7_hoursGo_37 rfl (by rfl) ?_
      refine j_icmp_ge (q := 41) (tgt := 120) dX7_hoursGo_38 rfl (by decide) (fun h38 => ?_) (fun h38 => ?_)
      · refine j_iload_n (q := 121) dX7_hoursGo_120 rfl (by rfl) ?_
        refine o_iret hF rfl dX7_hoursGo_121 ?_
        exact ⟨rfl, rfl⟩
      · exact absurd (Int32.le_refl _) h38
    | succ k ih =>
      intro i o5 o6 hi'
      have hWa := cM_watchersOn E σ (hgM m t g i) hi t 212 hR (by decide) (by unfold hgM; rw [ep]; exact (plN_B hr i).r (by omega))
      unfold hgM at hWa
      rw [ep] at hWa
      have hPl := cM_plan E σ (g3 m t (pleN g i) (vaiN g i) (hotN g i)) hi t 212 i 9999 g hR (by decide) hg0 hc hr (by omega)
      obtain ⟨u, hu16, hu⟩ := plU_n (plN_C hc i)
      have K107 : ∀ a b : Int32, a = pleN g (i + 1) → b = vaiN g (i + 1) → (gJ E yX7_hoursGo cX7_hoursGo 7 (some .int) (gRm 4 0 0) F 107 ([some (.ref t), some (.int (nI p)), some (.int (nI n)), some (.int (upsN g (i + 1))), some (.int (nI i)), some (.int (sWat (plN g i))), some (.int (plU (plN g i)))]) ([]) 0 0 σ (gQ (g3 m t a b (hotN g i)) t 212 (plN g (i + 1))) hi) := by
        intro a b ha hb
        subst ha
        subst hb
        refine j_aload_n (q := 108) dX7_hoursGo_107 rfl (by rfl) ?_
        refine j_sipush (q := 111) (v := 212) dX7_hoursGo_108 rfl (by decide) ?_
        refine o_callVv (q := 114) dX7_hoursGo_111 rfl lX7_215 mwX7_feels mvX7_feels cn7 (by assumption) (by rfl) rfl (Nat.le_of_ble_eq_true (by rfl)) (by first | decide | omega) (hFe _ _ _ (i + 1)) ?_
        refine j_iinc (q := 117) dX7_hoursGo_114 rfl (by rfl) (by first | exact nI_inc _ | rfl) (by decide) ?_
        refine j_goto (tgt := 35) dX7_hoursGo_117 (by decide) ?_
        have := ih (i + 1) (some (.int (sWat (plN g i)))) (some (.int (plU (plN g i)))) (by omega)
        unfold hgM at this
        rw [feJ_mx _ (hotN_ge g i)]
        exact this
      unfold hgM
      refine j_iload (q := 37) dX7_hoursGo_35 rfl (by rfl) ?_
      refine j_iload_n (q := 38) dX7_hoursGo_37 rfl (by rfl) ?_
      refine j_icmp_ge (q := 41) (tgt := 120) dX7_hoursGo_38 rfl (by decide) (fun h38 => ?_) (fun h38 => ?_)
      · exact absurd h38 (nI_ge (by omega) (by omega))
      refine j_aload_n (q := 42) dX7_hoursGo_41 rfl (by rfl) ?_
      refine j_sipush (q := 45) (v := 212) dX7_hoursGo_42 rfl (by decide) ?_
      refine o_callVi (q := 48) dX7_hoursGo_45 rfl lX7_148 mwX7_watchersOn mvX7_watchersOn cn7 (by assumption) (by rfl) rfl (Nat.le_of_ble_eq_true (by rfl)) (by first | decide | omega) (hWa) ?_
      refine j_istore (q := 50) dX7_hoursGo_48 rfl (by decide) ?_
      refine j_aload_n (q := 51) dX7_hoursGo_50 rfl (by rfl) ?_
      refine j_sipush (q := 54) (v := 212) dX7_hoursGo_51 rfl (by decide) ?_
      refine o_callVi (q := 57) dX7_hoursGo_54 rfl lX7_196 mwX7_planOn mvX7_planOn cn7 (by assumption) (by rfl) rfl (Nat.le_of_ble_eq_true (by rfl)) (by first | decide | omega) (hPl) ?_
      refine j_istore (q := 59) dX7_hoursGo_57 rfl (by decide) ?_
      refine j_iload_n (q := 60) dX7_hoursGo_59 rfl (by rfl) ?_
      refine j_iload (q := 62) dX7_hoursGo_60 rfl (by rfl) ?_
      refine o_callSi (q := 65) dX7_hoursGo_62 rfl lX7_199 mwX7_bitsOf msX7_bitsOf (by rfl) rfl (Nat.le_of_ble_eq_true (by rfl)) (by first | decide | omega) (cM_bits E σ _ hi ⟨u, hu16, hu⟩) ?_
      refine j_iadd (q := 66) dX7_hoursGo_65 rfl ?_
      refine j_istore_n (q := 67) dX7_hoursGo_66 rfl (by decide) ?_
      refine j_aload_n (q := 68) dX7_hoursGo_67 rfl (by rfl) ?_
      refine j_dup (q := 69) dX7_hoursGo_68 rfl rfl ?_
      refine j_geti (q := 72) dX7_hoursGo_69 rfl fX7_209 (by first | with_reducible assumption | assumption) (by rfl) ?_
      refine j_iload (q := 74) dX7_hoursGo_72 rfl (by rfl) ?_
      rw [gQ_out (by omega), g3_r15]
      by_cases h0' : plU (plN g i) = 0
      · have hle : plU (plN g i) ≤ 0 := by rw [h0']; exact Int32.le_refl 0
        have ea : pleN g (i + 1) = pleN g i := by rw [pleN, if_pos h0']
        have eb : vaiN g (i + 1) = vaiN g i + sWat (plN g i) := by rw [vaiN, if_pos h0']
        refine j_if_le (q := 77) (tgt := 82) dX7_hoursGo_74 rfl (by decide) (fun h74 => ?_) (fun h74 => ?_)
        case refine_2 => exact absurd hle h74
        refine j_iconst (q := 83) (v := 0) dX7_hoursGo_82 rfl (by decide) ?_
        refine j_iadd (q := 84) dX7_hoursGo_83 rfl ?_
        refine j_puti (q := 87) dX7_hoursGo_84 rfl fX7_209 p7_15 (by first | with_reducible assumption | assumption) (by rfl) ?_
        rw [i_a0, gQ_t, g3_15]
        refine j_aload_n (q := 88) dX7_hoursGo_87 rfl (by rfl) ?_
        refine j_dup (q := 89) dX7_hoursGo_88 rfl rfl ?_
        refine j_geti (q := 92) dX7_hoursGo_89 rfl fX7_212 (by first | with_reducible assumption | assumption) (by rfl) ?_
        refine j_iload (q := 94) dX7_hoursGo_92 rfl (by rfl) ?_
        rw [gQ_out (by omega), g3_r16]
        refine j_if_le (q := 97) (tgt := 101) dX7_hoursGo_94 rfl (by decide) (fun h94 => ?_) (fun h94 => ?_)
        case refine_2 => exact absurd hle h94
        refine j_iload (q := 103) dX7_hoursGo_101 rfl (by rfl) ?_
        refine j_iadd (q := 104) dX7_hoursGo_103 rfl ?_
        refine j_puti (q := 107) dX7_hoursGo_104 rfl fX7_212 p7_16 (by first | with_reducible assumption | assumption) (by rfl) ?_
        rw [gQ_t, g3_16]
        exact K107 _ _ ea.symm eb.symm
      · have hnle : ¬ plU (plN g i) ≤ 0 := by
          rw [hu] at h0' ⊢
          exact nI_nle (Nat.pos_of_ne_zero (fun q => h0' (by rw [q]; rfl))) (by omega)
        have ea : pleN g (i + 1) = pleN g i + sWat (plN g i) := by rw [pleN, if_neg h0']
        have eb : vaiN g (i + 1) = vaiN g i := by rw [vaiN, if_neg h0']
        refine j_if_le (q := 77) (tgt := 82) dX7_hoursGo_74 rfl (by decide) (fun h74 => ?_) (fun h74 => ?_)
        · exact absurd h74 hnle
        refine j_iload (q := 79) dX7_hoursGo_77 rfl (by rfl) ?_
        refine j_goto (tgt := 83) dX7_hoursGo_79 (by decide) ?_
        refine j_iadd (q := 84) dX7_hoursGo_83 rfl ?_
        refine j_puti (q := 87) dX7_hoursGo_84 rfl fX7_209 p7_15 (by first | with_reducible assumption | assumption) (by rfl) ?_
        rw [gQ_t, g3_15]
        refine j_aload_n (q := 88) dX7_hoursGo_87 rfl (by rfl) ?_
        refine j_dup (q := 89) dX7_hoursGo_88 rfl rfl ?_
        refine j_geti (q := 92) dX7_hoursGo_89 rfl fX7_212 (by first | with_reducible assumption | assumption) (by rfl) ?_
        refine j_iload (q := 94) dX7_hoursGo_92 rfl (by rfl) ?_
        rw [gQ_out (by omega), g3_r16]
        refine j_if_le (q := 97) (tgt := 101) dX7_hoursGo_94 rfl (by decide) (fun h94 => ?_) (fun h94 => ?_)
        · exact absurd h94 hnle
        refine j_iconst (q := 98) (v := 0) dX7_hoursGo_97 rfl (by decide) ?_
        refine j_goto (tgt := 103) dX7_hoursGo_98 (by decide) ?_
        refine j_iadd (q := 104) dX7_hoursGo_103 rfl ?_
        refine j_puti (q := 107) dX7_hoursGo_104 rfl fX7_212 p7_16 (by first | with_reducible assumption | assumption) (by rfl) ?_
        rw [i_a0, gQ_t, g3_16]
        exact K107 _ _ ea.symm eb.symm
  have hCp := cM_copies E σ m hi t p 212 hR (by omega) (by decide) (by omega)
  rw [hg] at hCp
  have hFe0 := hFe 0 0 0 0
  rw [feJ_0] at hFe0
  refine j_aload_n (q := 1) dX7_hoursGo_0 rfl (by rfl) ?_
  refine j_iload_n (q := 2) dX7_hoursGo_1 rfl (by rfl) ?_
  refine j_sipush (q := 5) (v := 212) dX7_hoursGo_2 rfl (by decide) ?_
  refine o_callVv (q := 8) dX7_hoursGo_5 rfl lX7_205 mwX7_copies mvX7_copies cn7 (by assumption) (by rfl) rfl (Nat.le_of_ble_eq_true (by rfl)) (by first | decide | omega) (hCp) ?_
  refine j_iconst (q := 9) (v := 0) dX7_hoursGo_8 rfl (by decide) ?_
  refine j_istore_n (q := 10) dX7_hoursGo_9 rfl (by decide) ?_
  refine j_aload_n (q := 11) dX7_hoursGo_10 rfl (by rfl) ?_
  refine j_iconst (q := 12) (v := 0) dX7_hoursGo_11 rfl (by decide) ?_
  refine j_puti (q := 15) dX7_hoursGo_12 rfl fX7_209 p7_15 (by first | with_reducible assumption | assumption) (by rfl) ?_
  refine j_aload_n (q := 16) dX7_hoursGo_15 rfl (by rfl) ?_
  refine j_iconst (q := 17) (v := 0) dX7_hoursGo_16 rfl (by decide) ?_
  refine j_puti (q := 20) dX7_hoursGo_17 rfl fX7_212 p7_16 (by first | with_reducible assumption | assumption) (by rfl) ?_
  refine j_aload_n (q := 21) dX7_hoursGo_20 rfl (by rfl) ?_
  refine j_iconst (q := 22) (v := 0) dX7_hoursGo_21 rfl (by decide) ?_
  refine j_puti (q := 25) dX7_hoursGo_22 rfl fX7_202 p7_17 (by first | with_reducible assumption | assumption) (by rfl) ?_
  refine j_aload_n (q := 26) dX7_hoursGo_25 rfl (by rfl) ?_
  refine j_sipush (q := 29) (v := 212) dX7_hoursGo_26 rfl (by decide) ?_
  rw [gQ_t, gQ_t, gQ_t]
  refine o_callVv (q := 32) dX7_hoursGo_29 rfl lX7_215 mwX7_feels mvX7_feels cn7 (by assumption) (by rfl) rfl (Nat.le_of_ble_eq_true (by rfl)) (by first | decide | omega) (hFe0) ?_
  refine j_iconst (q := 33) (v := 0) dX7_hoursGo_32 rfl (by decide) ?_
  refine j_istore (q := 35) dX7_hoursGo_33 rfl (by decide) ?_
  exact K35 n 0 _ _ (by omega)
/-! what is told, what is changed -/
def okM (m : gMem) (t : Nat) : Prop := okC (pgR m t 0) ∧ okB (pgR m t 0) 9999
theorem cM_rule (E : gEv) (σ : gSg) (m : gMem) (hi t : Nat) (k : Int32) (hR : gR σ t) (ho : okM m t) : gCo E yX7_rule cX7_rule 2 (some .int) 2 [.ref t, .int k] σ m hi (gX (some (.int (xRule (pgR m t 0) k))) m) := by
  refine gCo.of mwX7_rule (Nat.le_of_ble_eq_true rfl) ?_
  intro F hF
  have h0 := hR.1
  have h1 := hR.2.1
  have hb := ho.2.r (by decide)
  have i24 : gIdx 24 318 24 := gIdx.of rfl (by decide) (by decide)
  have i49 : gIdx 49 318 49 := gIdx.of rfl (by decide) (by decide)
  have i50 : gIdx 50 318 50 := gIdx.of rfl (by decide) (by decide)
  have i51 : gIdx 51 318 51 := gIdx.of rfl (by decide) (by decide)
  have i52 : gIdx 52 318 52 := gIdx.of rfl (by decide) (by decide)
  have e50 : m.1 (t + 1) 50 + 8 = pgR m t 0 50 := r0_i m t (k := 50) (by decide)
  have e51 : m.1 (t + 1) 51 + 4 = pgR m t 0 51 := r0_i m t (k := 51) (by decide)
  refine j_iload_n (q := 1) dX7_rule_0 rfl (by rfl) ?_
  rcases gSw k 8 (by decide) with hsw | ⟨ksw, hksw, hkse⟩
  · refine j_tableOut (tgt := 139) dX7_rule_1 hsw (by decide) ?_
    refine j_iconst (q := 140) (v := (-1)) dX7_rule_139 rfl (by decide) ?_
    refine o_iret hF rfl dX7_rule_140 ?_
    exact ⟨by unfold xRule; rw [swN_out hsw], rfl⟩
  · match ksw, hksw, hkse with
    | 0, _, hkse =>
      subst hkse
      refine j_tableIn (off := 51) (tgt := 52) dX7_rule_1 (by decide) (by decide) (by rfl) (by decide) ?_
      refine j_aload_n (q := 53) dX7_rule_52 rfl (by rfl) ?_
      refine j_getr (q := 56) dX7_rule_53 rfl fX7_7 (by first | with_reducible assumption | assumption) (by rfl) ?_
      refine j_bipush (q := 58) (v := 24) dX7_rule_56 rfl (by decide) ?_
      refine j_iaload (q := 59) dX7_rule_58 rfl (by first | with_reducible assumption | assumption) (by first | with_reducible assumption | assumption) ?_
      refine o_iret hF rfl dX7_rule_59 ?_
      exact ⟨by unfold xRule; rw [swN_in (by decide) (by decide), r0_j m t (by omega)]; try rfl, rfl⟩
    | 1, _, hkse =>
      subst hkse
      refine j_tableIn (off := 59) (tgt := 60) dX7_rule_1 (by decide) (by decide) (by rfl) (by decide) ?_
      refine j_aload_n (q := 61) dX7_rule_60 rfl (by rfl) ?_
      refine j_getr (q := 64) dX7_rule_61 rfl fX7_7 (by first | with_reducible assumption | assumption) (by rfl) ?_
      refine j_bipush (q := 66) (v := 49) dX7_rule_64 rfl (by decide) ?_
      refine j_iaload (q := 67) dX7_rule_66 rfl (by first | with_reducible assumption | assumption) (by first | with_reducible assumption | assumption) ?_
      refine o_iret hF rfl dX7_rule_67 ?_
      exact ⟨by unfold xRule; rw [swN_in (by decide) (by decide), r0_j m t (by omega)]; try rfl, rfl⟩
    | 2, _, hkse =>
      subst hkse
      refine j_tableIn (off := 67) (tgt := 68) dX7_rule_1 (by decide) (by decide) (by rfl) (by decide) ?_
      refine j_aload_n (q := 69) dX7_rule_68 rfl (by rfl) ?_
      refine j_getr (q := 72) dX7_rule_69 rfl fX7_7 (by first | with_reducible assumption | assumption) (by rfl) ?_
      refine j_bipush (q := 74) (v := 52) dX7_rule_72 rfl (by decide) ?_
      refine j_iaload (q := 75) dX7_rule_74 rfl (by first | with_reducible assumption | assumption) (by first | with_reducible assumption | assumption) ?_
      refine o_iret hF rfl dX7_rule_75 ?_
      exact ⟨by unfold xRule; rw [swN_in (by decide) (by decide), r0_j m t (by omega)]; try rfl, rfl⟩
    | 3, _, hkse =>
      subst hkse
      refine j_tableIn (off := 75) (tgt := 76) dX7_rule_1 (by decide) (by decide) (by rfl) (by decide) ?_
      refine j_aload_n (q := 77) dX7_rule_76 rfl (by rfl) ?_
      refine j_getr (q := 80) dX7_rule_77 rfl fX7_7 (by first | with_reducible assumption | assumption) (by rfl) ?_
      refine j_bipush (q := 82) (v := 50) dX7_rule_80 rfl (by decide) ?_
      refine j_iaload (q := 83) dX7_rule_82 rfl (by first | with_reducible assumption | assumption) (by first | with_reducible assumption | assumption) ?_
      refine j_bipush (q := 85) (v := 8) dX7_rule_83 rfl (by decide) ?_
      refine j_iadd (q := 86) dX7_rule_85 rfl ?_
      refine o_iret hF rfl dX7_rule_86 ?_
      exact ⟨by unfold xRule; rw [swN_in (by decide) (by decide), e50]; try rfl, rfl⟩
    | 4, _, hkse =>
      subst hkse
      refine j_tableIn (off := 86) (tgt := 87) dX7_rule_1 (by decide) (by decide) (by rfl) (by decide) ?_
      refine j_aload_n (q := 88) dX7_rule_87 rfl (by rfl) ?_
      refine j_getr (q := 91) dX7_rule_88 rfl fX7_7 (by first | with_reducible assumption | assumption) (by rfl) ?_
      refine j_bipush (q := 93) (v := 51) dX7_rule_91 rfl (by decide) ?_
      refine j_iaload (q := 94) dX7_rule_93 rfl (by first | with_reducible assumption | assumption) (by first | with_reducible assumption | assumption) ?_
      refine j_iconst (q := 95) (v := 4) dX7_rule_94 rfl (by decide) ?_
      refine j_iadd (q := 96) dX7_rule_95 rfl ?_
      refine o_iret hF rfl dX7_rule_96 ?_
      exact ⟨by unfold xRule; rw [swN_in (by decide) (by decide), e51]; try rfl, rfl⟩
    | 5, _, hkse =>
      subst hkse
      refine j_tableIn (off := 96) (tgt := 97) dX7_rule_1 (by decide) (by decide) (by rfl) (by decide) ?_
      refine j_aload_n (q := 98) dX7_rule_97 rfl (by rfl) ?_
      refine j_iconst (q := 99) (v := 0) dX7_rule_98 rfl (by decide) ?_
      refine j_bipush (q := 101) (v := 20) dX7_rule_99 rfl (by decide) ?_
      refine o_callVi (q := 104) dX7_rule_101 rfl lX7_157 mwX7_sumOn mvX7_sumOn cn7 (by assumption) (by rfl) rfl (Nat.le_of_ble_eq_true (by rfl)) (by first | decide | omega) (cM_sumOn E σ m hi t 0 5 (by decide) hR (by decide) ho.1) ?_
      refine o_iret hF rfl dX7_rule_104 ?_
      exact ⟨by unfold xRule; rw [swN_in (by decide) (by decide)]; try rfl, rfl⟩
    | 6, _, hkse =>
      subst hkse
      refine j_tableIn (off := 104) (tgt := 105) dX7_rule_1 (by decide) (by decide) (by rfl) (by decide) ?_
      refine j_aload_n (q := 106) dX7_rule_105 rfl (by rfl) ?_
      refine j_iconst (q := 107) (v := 0) dX7_rule_106 rfl (by decide) ?_
      refine o_callVi (q := 110) dX7_rule_107 rfl lX7_148 mwX7_watchersOn mvX7_watchersOn cn7 (by assumption) (by rfl) rfl (Nat.le_of_ble_eq_true (by rfl)) (by first | decide | omega) (cM_watchersOn E σ m hi t 0 hR (by decide) hb) ?_
      refine o_iret hF rfl dX7_rule_110 ?_
      exact ⟨by unfold xRule; rw [swN_in (by decide) (by decide)]; try rfl, rfl⟩
    | 7, _, hkse =>
      subst hkse
      refine j_tableIn (off := 110) (tgt := 111) dX7_rule_1 (by decide) (by decide) (by rfl) (by decide) ?_
      refine j_aload_n (q := 112) dX7_rule_111 rfl (by rfl) ?_
      refine j_iconst (q := 113) (v := 0) dX7_rule_112 rfl (by decide) ?_
      refine o_callVi (q := 116) dX7_rule_113 rfl lX7_151 mwX7_whomOn mvX7_whomOn cn7 (by assumption) (by rfl) rfl (Nat.le_of_ble_eq_true (by rfl)) (by first | decide | omega) (cM_whomOn E σ m hi t 0 hR (by decide) hb) ?_
      refine j_iconst (q := 117) (v := 4) dX7_rule_116 rfl (by decide) ?_
      refine j_icmp_ne (q := 120) (tgt := 125) dX7_rule_117 rfl (by decide) (fun h117 => ?_) (fun h117 => ?_)
      · refine j_aload_n (q := 126) dX7_rule_125 rfl (by rfl) ?_
        refine j_iconst (q := 127) (v := 0) dX7_rule_126 rfl (by decide) ?_
        refine o_callVi (q := 130) dX7_rule_127 rfl lX7_151 mwX7_whomOn mvX7_whomOn cn7 (by assumption) (by rfl) rfl (Nat.le_of_ble_eq_true (by rfl)) (by first | decide | omega) (cM_whomOn E σ m hi t 0 hR (by decide) hb) ?_
        refine o_iret hF rfl dX7_rule_130 ?_
        exact ⟨by unfold xRule; rw [swN_in (by decide) (by decide)]; simp [*], rfl⟩
      · refine j_bipush (q := 122) (v := (-4)) dX7_rule_120 rfl (by decide) ?_
        refine j_goto (tgt := 130) dX7_rule_122 (by decide) ?_
        refine o_iret hF rfl dX7_rule_130 ?_
        exact ⟨by unfold xRule; rw [swN_in (by decide) (by decide)]; simp [*], rfl⟩
    | 8, _, hkse =>
      subst hkse
      refine j_tableIn (off := 130) (tgt := 131) dX7_rule_1 (by decide) (by decide) (by rfl) (by decide) ?_
      refine j_aload_n (q := 132) dX7_rule_131 rfl (by rfl) ?_
      refine j_iconst (q := 133) (v := 0) dX7_rule_132 rfl (by decide) ?_
      refine j_bipush (q := 135) (v := 12) dX7_rule_133 rfl (by decide) ?_
      refine o_callVi (q := 138) dX7_rule_135 rfl lX7_157 mwX7_sumOn mvX7_sumOn cn7 (by assumption) (by rfl) rfl (Nat.le_of_ble_eq_true (by rfl)) (by first | decide | omega) (cM_sumOn E σ m hi t 0 3 (by decide) hR (by decide) ho.1) ?_
      refine o_iret hF rfl dX7_rule_138 ?_
      exact ⟨by unfold xRule; rw [swN_in (by decide) (by decide)]; try rfl, rfl⟩
    | k + 9, h, _ => exact absurd h (by omega)
theorem cM_geyser (E : gEv) (σ : gSg) (m : gMem) (hi t : Nat) (v k : Int32) (hR : gR σ t) (ho : okM m t) : gCo E yX7_geyser cX7_geyser 3 (some .int) 2 [.ref t, .int v, .int k] σ m hi (gX (some (.int (xGeyser (pgR m t 0) v k))) m) := by
  refine gCo.of mwX7_geyser (Nat.le_of_ble_eq_true rfl) ?_
  intro F hF
  have h0 := hR.1
  have h1 := hR.2.1
  have hb := ho.2.r (by decide)
  obtain ⟨c, hc, hc4⟩ := ho.1
  unfold xGeyser at hF
  refine j_aload_n (q := 1) dX7_geyser_0 rfl (by rfl) ?_
  refine j_iload_n (q := 2) dX7_geyser_1 rfl (by rfl) ?_
  refine o_callVi (q := 5) dX7_geyser_2 rfl lX7_160 mwX7_isGeyser mvX7_isGeyser cn7 (by assumption) (by rfl) rfl (Nat.le_of_ble_eq_true (by rfl)) (by first | decide | omega) (cM_isGeyser E σ m hi t c v hR hc hc4) ?_
  rcases ixV_or v hc (by omega) with ⟨hs, hv⟩ | ⟨j, hj, ej, hs, hv⟩
  · rw [← hc, hs]
    rw [hv] at hF
    refine j_if_eq (q := 8) (tgt := 20) dX7_geyser_5 rfl (by decide) (fun h5 => ?_) (fun h5 => ?_)
    · refine j_iconst (q := 21) (v := (-1)) dX7_geyser_20 rfl (by decide) ?_
      refine o_iret hF rfl dX7_geyser_21 ?_
      exact ⟨rfl, rfl⟩
    · exact absurd rfl h5
  rw [← hc, hs]
  rw [hv] at hF
  dsimp only at hF
  subst ej
  have hj4 : j < 4 := by omega
  refine j_if_eq (q := 8) (tgt := 20) dX7_geyser_5 rfl (by decide) (fun h5 => ?_) (fun h5 => ?_)
  · exact absurd h5 (by decide)
  refine j_iload_n (q := 9) dX7_geyser_8 rfl (by rfl) ?_
  refine j_i2l (q := 10) dX7_geyser_9 rfl ?_
  refine j_lconst (q := 11) (v := 0) dX7_geyser_10 rfl (by decide) ?_
  refine j_ldc2 (q := 14) dX7_geyser_11 rfl kX7_164 ?_
  refine o_callSi (q := 17) dX7_geyser_14 rfl lX7_55 mwX7_in msX7_in (by rfl) rfl (Nat.le_of_ble_eq_true (by rfl)) (by first | decide | omega) (cM_inI E σ m hi k 0 7 (by decide) (by decide)) ?_
  refine j_if_ne (q := 20) (tgt := 22) dX7_geyser_17 rfl (by decide) (fun h17 => ?_) (fun h17 => ?_)
  · obtain ⟨q, hq, eq⟩ := swN_wi (n := 7) (by decide) h17
    subst eq
    rw [swN_in hq (by decide)] at hF
    refine j_iload_n (q := 23) dX7_geyser_22 rfl (by rfl) ?_
    refine j_bipush (q := 25) (v := 6) dX7_geyser_23 rfl (by decide) ?_
    by_cases h6 : q < 6
    · have ix : gIdx (4 * nI q + nI j) 318 (4 * q + j) := gIdx.of (by rw [show (4 : Int32) = nI 4 from rfl, pk_mul, nI_add]) (by omega) (by decide)
      refine j_icmp_ge (q := 28) (tgt := 41) dX7_geyser_25 rfl (by decide) (fun h25 => ?_) (fun h25 => ?_)
      · exact absurd h25 (nI_ge (a := q) (b := 6) h6 (by decide))
      refine j_aload_n (q := 29) dX7_geyser_28 rfl (by rfl) ?_
      refine j_getr (q := 32) dX7_geyser_29 rfl fX7_7 (by first | with_reducible assumption | assumption) (by rfl) ?_
      refine j_iconst (q := 33) (v := 4) dX7_geyser_32 rfl (by decide) ?_
      refine j_iload_n (q := 34) dX7_geyser_33 rfl (by rfl) ?_
      refine j_imul (q := 35) dX7_geyser_34 rfl ?_
      refine j_iload_n (q := 36) dX7_geyser_35 rfl (by rfl) ?_
      refine j_iadd (q := 37) dX7_geyser_36 rfl ?_
      refine j_iaload (q := 38) dX7_geyser_37 rfl (by first | with_reducible assumption | assumption) (by first | with_reducible assumption | assumption) ?_
      refine j_goto (tgt := 67) dX7_geyser_38 (by decide) ?_
      refine o_iret hF rfl dX7_geyser_67 ?_
      rw [r0_j m t (by omega)]
      match q, h6 with
      | 0, _ => exact ⟨rfl, rfl⟩
      | 1, _ => exact ⟨rfl, rfl⟩
      | 2, _ => exact ⟨rfl, rfl⟩
      | 3, _ => exact ⟨rfl, rfl⟩
      | 4, _ => exact ⟨rfl, rfl⟩
      | 5, _ => exact ⟨rfl, rfl⟩
      | q + 6, h => exact absurd h (by omega)
    · have hq2 : q = 6 ∨ q = 7 := by omega
      rcases hq2 with rfl | rfl
      · refine j_icmp_ge (q := 28) (tgt := 41) dX7_geyser_25 rfl (by decide) (fun h25 => ?_) (fun h25 => ?_)
        case refine_2 => exact absurd (show (6 : Int32) ≤ nI 6 by decide) h25
        refine j_iload_n (q := 42) dX7_geyser_41 rfl (by rfl) ?_
        refine j_bipush (q := 44) (v := 6) dX7_geyser_42 rfl (by decide) ?_
        refine j_icmp_ne (q := 47) (tgt := 56) dX7_geyser_44 rfl (by decide) (fun h44 => ?_) (fun h44 => ?_)
        · exact absurd rfl h44
        refine j_aload_n (q := 48) dX7_geyser_47 rfl (by rfl) ?_
        refine j_iconst (q := 49) (v := 0) dX7_geyser_48 rfl (by decide) ?_
        refine j_iload_n (q := 50) dX7_geyser_49 rfl (by rfl) ?_
        refine o_callVi (q := 53) dX7_geyser_50 rfl lX7_134 mwX7_shareOn mvX7_shareOn cn7 (by assumption) (by rfl) rfl (Nat.le_of_ble_eq_true (by rfl)) (by first | decide | omega) (cM_shareOn E σ m hi t 0 j hR (by decide) (by rw [hc]; exact nI_nle (by omega) (by omega))) ?_
        refine j_goto (tgt := 67) dX7_geyser_53 (by decide) ?_
        refine o_iret hF rfl dX7_geyser_67 ?_
        exact ⟨rfl, rfl⟩
      · refine j_icmp_ge (q := 28) (tgt := 41) dX7_geyser_25 rfl (by decide) (fun h25 => ?_) (fun h25 => ?_)
        case refine_2 => exact absurd (show (6 : Int32) ≤ nI 7 by decide) h25
        refine j_iload_n (q := 42) dX7_geyser_41 rfl (by rfl) ?_
        refine j_bipush (q := 44) (v := 6) dX7_geyser_42 rfl (by decide) ?_
        refine j_icmp_ne (q := 47) (tgt := 56) dX7_geyser_44 rfl (by decide) (fun h44 => ?_) (fun h44 => ?_)
        case refine_2 => exact absurd (by first | exact h44 | exact Decidable.not_not.mp h44) (show ¬ nI 7 = 6 by decide)
        refine j_aload_n (q := 57) dX7_geyser_56 rfl (by rfl) ?_
        refine j_iconst (q := 58) (v := 0) dX7_geyser_57 rfl (by decide) ?_
        refine j_iload_n (q := 59) dX7_geyser_58 rfl (by rfl) ?_
        refine j_aload_n (q := 60) dX7_geyser_59 rfl (by rfl) ?_
        refine j_iconst (q := 61) (v := 0) dX7_geyser_60 rfl (by decide) ?_
        refine o_callVi (q := 64) dX7_geyser_61 rfl lX7_148 mwX7_watchersOn mvX7_watchersOn cn7 (by assumption) (by rfl) rfl (Nat.le_of_ble_eq_true (by rfl)) (by first | decide | omega) (cM_watchersOn E σ m hi t 0 hR (by decide) hb) ?_
        refine o_callVi (q := 67) dX7_geyser_64 rfl lX7_137 mwX7_mindsOn mvX7_mindsOn cn7 (by assumption) (by rfl) rfl (Nat.le_of_ble_eq_true (by rfl)) (by first | decide | omega) (cM_mindsOn E σ m hi t 0 j _ hR (by decide) hj4) ?_
        refine o_iret hF rfl dX7_geyser_67 ?_
        exact ⟨by rw [show 4 * 0 + j = j by omega, show 4 * 2 + j = 8 + j by omega]; rfl, rfl⟩
  · rw [swN_wo (n := 7) (by decide) (by first | exact h17 | exact Decidable.not_not.mp h17)] at hF
    refine j_iconst (q := 21) (v := (-1)) dX7_geyser_20 rfl (by decide) ?_
    refine o_iret hF rfl dX7_geyser_21 ?_
    exact ⟨rfl, rfl⟩
theorem cM_row (E : gEv) (σ : gSg) (m : gMem) (hi t : Nat) (i k : Int32) (hR : gR σ t) (ho : okM m t) : gCo E yX7_row cX7_row 3 (some .int) 2 [.ref t, .int i, .int k] σ m hi (gX (some (.int (xRow (pgR m t 0) i k))) m) := by
  refine gCo.of mwX7_row (Nat.le_of_ble_eq_true rfl) ?_
  intro F hF
  have h0 := hR.1
  have h1 := hR.2.1
  obtain ⟨r, hh, e1, e2, -, -⟩ := ho.2
  unfold xRow at hF
  refine j_aload_n (q := 1) dX7_row_0 rfl (by rfl) ?_
  refine j_iload_n (q := 2) dX7_row_1 rfl (by rfl) ?_
  refine o_callVi (q := 5) dX7_row_2 rfl lX7_166 mwX7_isRow mvX7_isRow cn7 (by assumption) (by rfl) rfl (Nat.le_of_ble_eq_true (by rfl)) (by first | decide | omega) (cM_isRow E σ m hi t r i hR e1 e2) ?_
  rcases ixV_or i e1 (by omega) with ⟨hs, hv⟩ | ⟨j, hj, ej, hs, hv⟩
  · rw [← e1, hs]
    rw [hv] at hF
    refine j_if_eq (q := 8) (tgt := 35) dX7_row_5 rfl (by decide) (fun h5 => ?_) (fun h5 => ?_)
    · refine j_iconst (q := 36) (v := (-1)) dX7_row_35 rfl (by decide) ?_
      refine o_iret hF rfl dX7_row_36 ?_
      exact ⟨rfl, rfl⟩
    · exact absurd rfl h5
  rw [← e1, hs]
  rw [hv] at hF
  subst ej
  refine j_if_eq (q := 8) (tgt := 35) dX7_row_5 rfl (by decide) (fun h5 => ?_) (fun h5 => ?_)
  · exact absurd h5 (by decide)
  refine j_iload_n (q := 9) dX7_row_8 rfl (by rfl) ?_
  refine j_i2l (q := 10) dX7_row_9 rfl ?_
  refine j_lconst (q := 11) (v := 0) dX7_row_10 rfl (by decide) ?_
  refine j_lconst (q := 12) (v := 1) dX7_row_11 rfl (by decide) ?_
  refine o_callSi (q := 15) dX7_row_12 rfl lX7_55 mwX7_in msX7_in (by rfl) rfl (Nat.le_of_ble_eq_true (by rfl)) (by first | decide | omega) (cM_inI E σ m hi k 0 1 (by decide) (by decide)) ?_
  refine j_if_eq (q := 18) (tgt := 35) dX7_row_15 rfl (by decide) (fun h15 => ?_) (fun h15 => ?_)
  · rw [swN_wo (n := 1) (by decide) h15] at hF
    refine j_iconst (q := 36) (v := (-1)) dX7_row_35 rfl (by decide) ?_
    refine o_iret hF rfl dX7_row_36 ?_
    exact ⟨rfl, rfl⟩
  · obtain ⟨q, hq, eq⟩ := swN_wi (n := 1) (by decide) h15
    subst eq
    rw [swN_in hq (by decide)] at hF
    have ix : gIdx (25 + 12 * nI q + nI j) 318 (25 + 12 * q + j) := gIdx.of (by rw [show (12 : Int32) = nI 12 from rfl, show (25 : Int32) = nI 25 from rfl, pk_mul, nI_add, nI_add]) (by omega) (by decide)
    refine j_aload_n (q := 19) dX7_row_18 rfl (by rfl) ?_
    refine j_getr (q := 22) dX7_row_19 rfl fX7_7 (by first | with_reducible assumption | assumption) (by rfl) ?_
    refine j_bipush (q := 24) (v := 25) dX7_row_22 rfl (by decide) ?_
    refine j_bipush (q := 26) (v := 12) dX7_row_24 rfl (by decide) ?_
    refine j_iload_n (q := 27) dX7_row_26 rfl (by rfl) ?_
    refine j_imul (q := 28) dX7_row_27 rfl ?_
    refine j_iadd (q := 29) dX7_row_28 rfl ?_
    refine j_iload_n (q := 30) dX7_row_29 rfl (by rfl) ?_
    refine j_iadd (q := 31) dX7_row_30 rfl ?_
    refine j_iaload (q := 32) dX7_row_31 rfl (by first | with_reducible assumption | assumption) (by first | with_reducible assumption | assumption) ?_
    refine j_goto (tgt := 36) dX7_row_32 (by decide) ?_
    refine o_iret hF rfl dX7_row_36 ?_
    rw [r0_j m t (by omega)]
    match q, hq with
    | 0, _ => exact ⟨rfl, rfl⟩
    | 1, _ => exact ⟨rfl, rfl⟩
    | q + 2, h => exact absurd h (by omega)
