/-! the reference: seasons, what is seen, images, the tape -/
theorem toInt_c (x : Int32) : x.toInt = if 2 * x.toBitVec.toNat < 2 ^ 32 then (x.toBitVec.toNat : Int) else (x.toBitVec.toNat : Int) - 2 ^ 32 := by
  have := BitVec.toInt_eq_toNat_cond x.toBitVec
  show x.toBitVec.toInt = _
  by_cases h : 2 * x.toBitVec.toNat < 2 ^ 32
  · rw [if_pos h] at this ⊢
    exact this
  · rw [if_neg h] at this ⊢
    rw [this]
    rfl
theorem sGot_sar (s : Int32) : (s >>> ((16 : Int32) &&& 31)) &&& 32767 = sGot s := by
  unfold sGot
  rw [pk_and (m := 32767) _ 15 (by decide), pk_and (m := 32767) _ 15 (by decide), pk_ushr s 16 16 (by decide)]
  have h1 := pk_shr s ((16 : Int32) &&& 31) 16 (by decide)
  rw [Int.shiftRight_eq_div_pow] at h1
  have h2 := toInt_c s
  have h3 := toInt_c (s >>> ((16 : Int32) &&& 31))
  have h4 : s.toBitVec.toNat < 2 ^ 32 := s.toBitVec.isLt
  have h5 : (s >>> ((16 : Int32) &&& 31)).toBitVec.toNat < 2 ^ 32 := (s >>> ((16 : Int32) &&& 31)).toBitVec.isLt
  congr 1
  rw [h3] at h1
  generalize (s >>> ((16 : Int32) &&& 31)).toBitVec.toNat = A at *
  generalize s.toBitVec.toNat = N at *
  rw [h2] at h1
  by_cases c1 : 2 * N < 2 ^ 32
  · rw [if_pos c1] at h1
    by_cases c2 : 2 * A < 2 ^ 32
    · rw [if_pos c2] at h1; omega
    · rw [if_neg c2] at h1; omega
  · rw [if_neg c1] at h1
    by_cases c2 : 2 * A < 2 ^ 32
    · rw [if_pos c2] at h1; omega
    · rw [if_neg c2] at h1; omega
theorem cM_season (E : gEv) (σ : gSg) (m : gMem) (hi t : Nat) (s n k : Int32) (hR : gR σ t) (ho : okM m t) : gCo E yX7_season cX7_season 7 (some .int) 3 [.ref t, .int s, .int n, .int k] σ m hi (fun v' m' => v' = some (.int (xSeason (pgR m t 0) s n k)) ∧ rsc t m m') := by
  refine gCo.of mwX7_season (Nat.le_of_ble_eq_true rfl) ?_
  intro F hF
  have h0 := hR.1
  have h1 := hR.2.1
  have h10 : ¬ (10 : Int32) = 0 := by decide
  have i24 : gIdx 24 318 24 := gIdx.of rfl (by decide) (by decide)
  unfold xSeason at hF
  refine j_iload_n (q := 1) dX7_season_0 rfl (by rfl) ?_
  refine j_i2l (q := 2) dX7_season_1 rfl ?_
  refine j_lconst (q := 3) (v := 1) dX7_season_2 rfl (by decide) ?_
  refine j_ldc2 (q := 6) dX7_season_3 rfl kX7_129 ?_
  refine o_callSi (q := 9) dX7_season_6 rfl lX7_55 mwX7_in msX7_in (by rfl) rfl (Nat.le_of_ble_eq_true (by rfl)) (by first | decide | omega) (cM_inI E σ m hi n 1 200 (by decide) (by decide)) ?_
  refine j_if_eq (q := 12) (tgt := 22) dX7_season_9 rfl (by decide) (fun h9 => ?_) (fun h9 => ?_)
  · refine j_iconst (q := 23) (v := (-1)) dX7_season_22 rfl (by decide) ?_
    refine o_iret hF rfl dX7_season_23 ?_
    rw [if_neg (fun h => sWi_0 h9 h.1)]
    exact ⟨rfl, rsc.rf t m⟩
  refine j_iload_n (q := 13) dX7_season_12 rfl (by rfl) ?_
  refine j_i2l (q := 14) dX7_season_13 rfl ?_
  refine j_lconst (q := 15) (v := 0) dX7_season_14 rfl (by decide) ?_
  refine j_lconst (q := 16) (v := 1) dX7_season_15 rfl (by decide) ?_
  refine o_callSi (q := 19) dX7_season_16 rfl lX7_55 mwX7_in msX7_in (by rfl) rfl (Nat.le_of_ble_eq_true (by rfl)) (by first | decide | omega) (cM_inI E σ m hi k 0 1 (by decide) (by decide)) ?_
  refine j_if_ne (q := 22) (tgt := 24) dX7_season_19 rfl (by decide) (fun h19 => ?_) (fun h19 => ?_)
  · rw [if_pos ⟨sWi_1 h9, sWi_1 h19⟩] at hF
    have hn200 : ¬ sWi n 0 200 = 0 := by
      intro e
      have hh := sWi_1 h9
      exact sWi_0 e ⟨Int32.le_trans (by decide) hh.1, hh.2⟩
    obtain ⟨u, hu, eu⟩ := swN_wi (n := 200) (by decide) hn200
    subst eu
    rw [nI_clamp (by omega)] at hF
    refine j_aload_n (q := 25) dX7_season_24 rfl (by rfl) ?_
    refine j_getr (q := 28) dX7_season_25 rfl fX7_7 (by first | with_reducible assumption | assumption) (by rfl) ?_
    refine j_bipush (q := 30) (v := 24) dX7_season_28 rfl (by decide) ?_
    refine j_iaload (q := 31) dX7_season_30 rfl (by first | with_reducible assumption | assumption) (by first | with_reducible assumption | assumption) ?_
    rw [r0_j m t (by omega)]
    refine j_if_ne (q := 34) (tgt := 37) dX7_season_31 rfl (by decide) (fun h31 => ?_) (fun h31 => ?_)
    · rw [if_neg h31] at hF
      have hoC : okC (pgR m t 0) := ho.1
      have hoB : okB (pgR m t 0) 9999 := ho.2
      generalize hG : pgR m t 0 = g at *
      have hg0 : pg0 g := by rw [← hG]; exact pgR_0 m t 0
      have ep : ∀ i, pgR (gQ m t 212 (snP g s i)) t 212 = snP g s i := fun i => pgR_gQ (snP_0 hg0 s i) _ _ _
      have K54 : ∀ (w i : Nat), i + w = u → (gJ E yX7_season cX7_season 7 (some .int) (gRm 3 0 0) F 54 ([some (.ref t), some (.int s), some (.int (nI u)), some (.int k), some (.int (snU g s i)), some (.int (snG s i)), some (.int (nI i))]) ([]) 0 0 σ (gQ m t 212 (snP g s i)) hi) := by
        intro w
        induction w with
        | zero =>
          intro i hiw
          have hit : i = u := by omega
          subst hit
          refine j_iload (q := 56) dX7_season_54 rfl (by rfl) ?_
          refine j_iload_n (q := 57) dX7_season_56 rfl (by rfl) ?_
          refine j_icmp_ge (q := 60) (tgt := 112) dX7_season_57 rfl (by decide) (fun h57 => ?_) (fun h57 => ?_)
          · refine j_iload_n (q := 113) dX7_season_112 rfl (by rfl) ?_
            refine j_if_ne (q := 116) (tgt := 121) dX7_season_113 rfl (by decide) (fun h113 => ?_) (fun h113 => ?_)
            · have hS := cM_sumOn E σ (gQ m t 212 (snP g s i)) hi t 212 4 (by decide) hR (by decide) (by rw [ep]; exact snP_C hoC s i)
              rw [ep] at hS
              refine j_aload_n (q := 122) dX7_season_121 rfl (by rfl) ?_
              refine j_sipush (q := 125) (v := 212) dX7_season_122 rfl (by decide) ?_
              refine j_bipush (q := 127) (v := 16) dX7_season_125 rfl (by decide) ?_
              refine o_callVi (q := 130) dX7_season_127 rfl lX7_157 mwX7_sumOn mvX7_sumOn cn7 (by assumption) (by rfl) rfl (Nat.le_of_ble_eq_true (by rfl)) (by first | decide | omega) (hS) ?_
              refine o_iret hF rfl dX7_season_130 ?_
              rw [if_neg h113]
              exact ⟨rfl, (rsc.rf t m).q (by decide) _⟩
            · refine j_iload (q := 118) dX7_season_116 rfl (by rfl) ?_
              refine j_goto (tgt := 130) dX7_season_118 (by decide) ?_
              refine o_iret hF rfl dX7_season_130 ?_
              rw [if_pos (by first | exact h113 | exact Decidable.not_not.mp h113)]
              exact ⟨rfl, (rsc.rf t m).q (by decide) _⟩
          · exact absurd (Int32.le_refl _) h57
        | succ w ih =>
          intro i hiw
          have hCo := cM_whomOn E σ (gQ m t 212 (snP g s i)) hi t 212 hR (by decide) (by rw [ep]; exact (snP_B hoB s i).r (by omega))
          rw [ep] at hCo
          have hPa := cM_hourOn E σ (gQ m t 212 (snP g s i)) hi t 212 (sW10 (snG s (i + 1))) (sWho (snP g s i)) hR (by decide) (by rw [ep]; exact snP_C hoC s i)
          rw [ep, gQ_gQ] at hPa
          obtain ⟨z, hz16, hz⟩ := hrU_n (snP_C hoC s i) (sW10 (snG s (i + 1))) (sWho (snP g s i))
          refine j_iload (q := 56) dX7_season_54 rfl (by rfl) ?_
          refine j_iload_n (q := 57) dX7_season_56 rfl (by rfl) ?_
          refine j_icmp_ge (q := 60) (tgt := 112) dX7_season_57 rfl (by decide) (fun h57 => ?_) (fun h57 => ?_)
          · exact absurd h57 (nI_ge (by omega) (by omega))
          refine j_iload (q := 62) dX7_season_60 rfl (by rfl) ?_
          refine j_ldcw (q := 65) dX7_season_62 rfl kX7_263 ?_
          refine j_imul (q := 66) dX7_season_65 rfl ?_
          refine j_sipush (q := 69) (v := 12345) dX7_season_66 rfl (by decide) ?_
          refine j_iadd (q := 70) dX7_season_69 rfl ?_
          refine j_istore (q := 72) dX7_season_70 rfl (by decide) ?_
          refine j_iload (q := 74) dX7_season_72 rfl (by rfl) ?_
          refine j_aload_n (q := 75) dX7_season_74 rfl (by rfl) ?_
          refine j_sipush (q := 78) (v := 212) dX7_season_75 rfl (by decide) ?_
          refine j_iload (q := 80) dX7_season_78 rfl (by rfl) ?_
          refine j_bipush (q := 82) (v := 16) dX7_season_80 rfl (by decide) ?_
          refine j_ishr (q := 83) dX7_season_82 rfl ?_
          refine j_sipush (q := 86) (v := 32767) dX7_season_83 rfl (by decide) ?_
          refine j_iand (q := 87) dX7_season_86 rfl ?_
          rw [sGot_sar]
          refine j_bipush (q := 89) (v := 10) dX7_season_87 rfl (by decide) ?_
          refine j_irem (q := 90) dX7_season_89 rfl (by first | with_reducible assumption | assumption) ?_
          refine j_aload_n (q := 91) dX7_season_90 rfl (by rfl) ?_
          refine j_sipush (q := 94) (v := 212) dX7_season_91 rfl (by decide) ?_
          refine o_callVi (q := 97) dX7_season_94 rfl lX7_151 mwX7_whomOn mvX7_whomOn cn7 (by assumption) (by rfl) rfl (Nat.le_of_ble_eq_true (by rfl)) (by first | decide | omega) (hCo) ?_
          refine o_callVi (q := 100) dX7_season_97 rfl lX7_154 mwX7_hourOn mvX7_hourOn cn7 (by assumption) (by rfl) rfl (Nat.le_of_ble_eq_true (by rfl)) (by first | decide | omega) (hPa) ?_
          refine o_callSi (q := 103) dX7_season_100 rfl lX7_199 mwX7_bitsOf msX7_bitsOf (by rfl) rfl (Nat.le_of_ble_eq_true (by rfl)) (by first | decide | omega) (cM_bits E σ _ hi ⟨z, hz16, hz⟩) ?_
          refine j_iadd (q := 104) dX7_season_103 rfl ?_
          refine j_istore (q := 106) dX7_season_104 rfl (by decide) ?_
          refine j_iinc (q := 109) dX7_season_106 rfl (by rfl) (by first | exact nI_inc _ | rfl) (by decide) ?_
          refine j_goto (tgt := 54) dX7_season_109 (by decide) ?_
          exact ih (i + 1) (by omega)
      have hCp := cM_copies E σ m hi t 0 212 hR (by decide) (by decide) (by decide)
      rw [hG] at hCp
      refine j_aload_n (q := 38) dX7_season_37 rfl (by rfl) ?_
      refine j_iconst (q := 39) (v := 0) dX7_season_38 rfl (by decide) ?_
      refine j_sipush (q := 42) (v := 212) dX7_season_39 rfl (by decide) ?_
      refine o_callVv (q := 45) dX7_season_42 rfl lX7_205 mwX7_copies mvX7_copies cn7 (by assumption) (by rfl) rfl (Nat.le_of_ble_eq_true (by rfl)) (by first | decide | omega) (hCp) ?_
      refine j_iconst (q := 46) (v := 0) dX7_season_45 rfl (by decide) ?_
      refine j_istore (q := 48) dX7_season_46 rfl (by decide) ?_
      refine j_iload_n (q := 49) dX7_season_48 rfl (by rfl) ?_
      refine j_istore (q := 51) dX7_season_49 rfl (by decide) ?_
      refine j_iconst (q := 52) (v := 0) dX7_season_51 rfl (by decide) ?_
      refine j_istore (q := 54) dX7_season_52 rfl (by decide) ?_
      exact K54 u 0 (by omega)
    · rw [if_pos (by first | exact h31 | exact Decidable.not_not.mp h31)] at hF
      refine j_bipush (q := 36) (v := (-2)) dX7_season_34 rfl (by decide) ?_
      refine o_iret hF rfl dX7_season_36 ?_
      exact ⟨rfl, rsc.rf t m⟩
  · refine j_iconst (q := 23) (v := (-1)) dX7_season_22 rfl (by decide) ?_
    refine o_iret hF rfl dX7_season_23 ?_
    rw [if_neg (fun h => sWi_0 (by first | exact h19 | exact Decidable.not_not.mp h19) h.2)]
    exact ⟨rfl, rsc.rf t m⟩
def seR (m : gMem) (t s : Nat) (n g v : Int32) : gMem := gW (gW (gW (gW m (t + 9) (3 * s) n) (t + 9) (3 * s + 1) g) (t + 9) (3 * s + 2) v) t 23 (nI (s + 1))
theorem cM_see (E : gEv) (σ : gSg) (m : gMem) (hi t s : Nat) (n v w : Int32) (hR : gR σ t) (ho : okM m t) (hs : m.1 t 23 = nI s) (hs6 : s ≤ 6) : gCo E yX7_see cX7_see 4 (some .int) 2 [.ref t, .int n, .int v, .int w] σ m hi (gX (some (.int (if goodSee (pgR m t 0) n v w then (if s < 6 then nI (s + 1) else -3) else -1))) (if goodSee (pgR m t 0) n v w ∧ s < 6 then seR m t s n v w else m)) := by
  refine gCo.of mwX7_see (Nat.le_of_ble_eq_true rfl) ?_
  intro F hF
  have h0 := hR.1
  obtain ⟨-, -, -, -, -, -, -, -, -, h9, -⟩ := id hR
  obtain ⟨c, hc, hc4⟩ := id ho.1
  have bad : ¬ goodSee (pgR m t 0) n v w → (gJ E yX7_see cX7_see 4 (some .int) (gRm 2 0 0) F 30 ([some (.ref t), some (.int n), some (.int v), some (.int w)]) ([]) 0 0 σ (m) hi) := by
    intro hb
    rw [if_neg hb, if_neg (fun h => hb h.1)] at hF
    refine j_iconst (q := 31) (v := (-1)) dX7_see_30 rfl (by decide) ?_
    refine o_iret hF rfl dX7_see_31 ?_
    exact ⟨rfl, rfl⟩
  refine j_iload_n (q := 1) dX7_see_0 rfl (by rfl) ?_
  refine j_i2l (q := 2) dX7_see_1 rfl ?_
  refine j_lconst (q := 3) (v := 0) dX7_see_2 rfl (by decide) ?_
  refine j_ldc2 (q := 6) dX7_see_3 rfl kX7_187 ?_
  refine o_callSi (q := 9) dX7_see_6 rfl lX7_55 mwX7_in msX7_in (by rfl) rfl (Nat.le_of_ble_eq_true (by rfl)) (by first | decide | omega) (cM_inI E σ m hi n 0 40 (by decide) (by decide)) ?_
  refine j_if_eq (q := 12) (tgt := 30) dX7_see_9 rfl (by decide) (fun h9' => ?_) (fun h9' => ?_)
  · exact bad (fun h => sWi_0 h9' h.1)
  refine j_aload_n (q := 13) dX7_see_12 rfl (by rfl) ?_
  refine j_iload_n (q := 14) dX7_see_13 rfl (by rfl) ?_
  refine o_callVi (q := 17) dX7_see_14 rfl lX7_160 mwX7_isGeyser mvX7_isGeyser cn7 (by assumption) (by rfl) rfl (Nat.le_of_ble_eq_true (by rfl)) (by first | decide | omega) (cM_isGeyser E σ m hi t c v hR hc hc4) ?_
  rcases ixV_or v hc (by omega) with ⟨hsv, hv⟩ | ⟨j, hj, ej, hsv, hv⟩
  · rw [← hc, hsv]
    refine j_if_eq (q := 20) (tgt := 30) dX7_see_17 rfl (by decide) (fun h17 => ?_) (fun h17 => ?_)
    · exact bad (fun h => h.2.1 hv)
    · exact absurd rfl h17
  rw [← hc, hsv]
  refine j_if_eq (q := 20) (tgt := 30) dX7_see_17 rfl (by decide) (fun h17 => ?_) (fun h17 => ?_)
  · exact absurd h17 (by decide)
  refine j_iload_n (q := 21) dX7_see_20 rfl (by rfl) ?_
  refine j_i2l (q := 22) dX7_see_21 rfl ?_
  refine j_lconst (q := 23) (v := 0) dX7_see_22 rfl (by decide) ?_
  refine j_lconst (q := 24) (v := 1) dX7_see_23 rfl (by decide) ?_
  refine o_callSi (q := 27) dX7_see_24 rfl lX7_55 mwX7_in msX7_in (by rfl) rfl (Nat.le_of_ble_eq_true (by rfl)) (by first | decide | omega) (cM_inI E σ m hi w 0 1 (by decide) (by decide)) ?_
  refine j_if_ne (q := 30) (tgt := 32) dX7_see_27 rfl (by decide) (fun h27 => ?_) (fun h27 => ?_)
  · have hg : goodSee (pgR m t 0) n v w := And.intro (sWi_1 h9') (And.intro (by rw [hv]; exact fun q => nomatch q) (sWi_1 h27))
    rw [if_pos hg] at hF
    refine j_aload_n (q := 33) dX7_see_32 rfl (by rfl) ?_
    refine j_geti (q := 36) dX7_see_33 rfl fX7_126 (by first | with_reducible assumption | assumption) (by rfl) ?_
    rw [hs]
    refine j_bipush (q := 38) (v := 6) dX7_see_36 rfl (by decide) ?_
    by_cases hlt : s < 6
    · rw [if_pos hlt, if_pos ⟨hg, hlt⟩] at hF
      have hN : ∀ (mm : gMem) (q k : Nat) (z : Int32), t < q → (gW mm q k z).1 t 23 = mm.1 t 23 := fun mm q k z h => gW_n (by omega)
      have a0 : gIdx (nI (3 * s)) 18 (3 * s) := gIdx.of rfl (by omega) (by decide)
      have a1 : gIdx (nI (3 * s) + 1) 18 (3 * s + 1) := gIdx.of (nI_add (3 * s) 1) (by omega) (by decide)
      have a2 : gIdx (nI (3 * s) + 2) 18 (3 * s + 2) := gIdx.of (nI_add (3 * s) 2) (by omega) (by decide)
      have e3 : (3 : Int32) * nI s = nI (3 * s) := pk_mul 3 s
      refine j_icmp_ne (q := 41) (tgt := 44) dX7_see_38 rfl (by decide) (fun h38 => ?_) (fun h38 => ?_)
      · refine j_aload_n (q := 45) dX7_see_44 rfl (by rfl) ?_
        refine j_getr (q := 48) dX7_see_45 rfl fX7_34 (by first | with_reducible assumption | assumption) (by rfl) ?_
        refine j_iconst (q := 49) (v := 3) dX7_see_48 rfl (by decide) ?_
        refine j_aload_n (q := 50) dX7_see_49 rfl (by rfl) ?_
        refine j_geti (q := 53) dX7_see_50 rfl fX7_126 (by first | with_reducible assumption | assumption) (by rfl) ?_
        rw [hs]
        refine j_imul (q := 54) dX7_see_53 rfl ?_
        rw [e3]
        refine j_iload_n (q := 55) dX7_see_54 rfl (by rfl) ?_
        refine j_iastore (q := 56) dX7_see_55 rfl (by first | with_reducible assumption | assumption) (by first | with_reducible assumption | assumption) ?_
        refine j_aload_n (q := 57) dX7_see_56 rfl (by rfl) ?_
        refine j_getr (q := 60) dX7_see_57 rfl fX7_34 (by first | with_reducible assumption | assumption) (by rfl) ?_
        refine j_iconst (q := 61) (v := 3) dX7_see_60 rfl (by decide) ?_
        refine j_aload_n (q := 62) dX7_see_61 rfl (by rfl) ?_
        refine j_geti (q := 65) dX7_see_62 rfl fX7_126 (by first | with_reducible assumption | assumption) (by rfl) ?_
        rw [hN _ _ _ _ (by omega), hs]
        refine j_imul (q := 66) dX7_see_65 rfl ?_
        rw [e3]
        refine j_iconst (q := 67) (v := 1) dX7_see_66 rfl (by decide) ?_
        refine j_iadd (q := 68) dX7_see_67 rfl ?_
        refine j_iload_n (q := 69) dX7_see_68 rfl (by rfl) ?_
        refine j_iastore (q := 70) dX7_see_69 rfl (by first | with_reducible assumption | assumption) (by first | with_reducible assumption | assumption) ?_
        refine j_aload_n (q := 71) dX7_see_70 rfl (by rfl) ?_
        refine j_getr (q := 74) dX7_see_71 rfl fX7_34 (by first | with_reducible assumption | assumption) (by rfl) ?_
        refine j_iconst (q := 75) (v := 3) dX7_see_74 rfl (by decide) ?_
        refine j_aload_n (q := 76) dX7_see_75 rfl (by rfl) ?_
        refine j_geti (q := 79) dX7_see_76 rfl fX7_126 (by first | with_reducible assumption | assumption) (by rfl) ?_
        rw [hN _ _ _ _ (by omega), hN _ _ _ _ (by omega), hs]
        refine j_imul (q := 80) dX7_see_79 rfl ?_
        rw [e3]
        refine j_iconst (q := 81) (v := 2) dX7_see_80 rfl (by decide) ?_
        refine j_iadd (q := 82) dX7_see_81 rfl ?_
        refine j_iload_n (q := 83) dX7_see_82 rfl (by rfl) ?_
        refine j_iastore (q := 84) dX7_see_83 rfl (by first | with_reducible assumption | assumption) (by first | with_reducible assumption | assumption) ?_
        refine j_aload_n (q := 85) dX7_see_84 rfl (by rfl) ?_
        refine j_dup (q := 86) dX7_see_85 rfl rfl ?_
        refine j_geti (q := 89) dX7_see_86 rfl fX7_126 (by first | with_reducible assumption | assumption) (by rfl) ?_
        rw [hN _ _ _ _ (by omega), hN _ _ _ _ (by omega), hN _ _ _ _ (by omega), hs]
        refine j_iconst (q := 90) (v := 1) dX7_see_89 rfl (by decide) ?_
        refine j_iadd (q := 91) dX7_see_90 rfl ?_
        rw [nI_1]
        refine j_puti (q := 94) dX7_see_91 rfl fX7_126 p7_23 (by first | with_reducible assumption | assumption) (by rfl) ?_
        refine j_aload_n (q := 95) dX7_see_94 rfl (by rfl) ?_
        refine j_geti (q := 98) dX7_see_95 rfl fX7_126 (by first | with_reducible assumption | assumption) (by rfl) ?_
        rw [gW_s]
        refine o_iret hF rfl dX7_see_98 ?_
        exact ⟨rfl, rfl⟩
      · exact absurd (nI_inj (a := s) (b := 6) (by omega) (by omega) (by first | exact h38 | exact Decidable.not_not.mp h38)) (by omega)
    · rw [if_neg hlt, if_neg (fun h => hlt h.2)] at hF
      have hs6' : s = 6 := by omega
      subst hs6'
      refine j_icmp_ne (q := 41) (tgt := 44) dX7_see_38 rfl (by decide) (fun h38 => ?_) (fun h38 => ?_)
      · exact absurd rfl h38
      · refine j_bipush (q := 43) (v := (-3)) dX7_see_41 rfl (by decide) ?_
        refine o_iret hF rfl dX7_see_43 ?_
        exact ⟨rfl, rfl⟩
  · exact bad (fun h => sWi_0 (by first | exact h27 | exact Decidable.not_not.mp h27) h.2.2)
theorem cM_forget (E : gEv) (σ : gSg) (m : gMem) (hi t : Nat) (n : Int32) (hR : gR σ t) : gCo E yX7_forget cX7_forget 3 (some .int) 1 [.ref t, .int n] σ m hi (gX (some (.int (if 0 ≤ n ∧ n ≤ m.1 t 23 then m.1 t 23 else -1))) (if 0 ≤ n ∧ n ≤ m.1 t 23 then gW m t 23 n else m)) := by
  refine gCo.of mwX7_forget (Nat.le_of_ble_eq_true rfl) ?_
  intro F hF
  have h0 := hR.1
  refine j_iload_n (q := 1) dX7_forget_0 rfl (by rfl) ?_
  refine j_i2l (q := 2) dX7_forget_1 rfl ?_
  refine j_lconst (q := 3) (v := 0) dX7_forget_2 rfl (by decide) ?_
  refine j_aload_n (q := 4) dX7_forget_3 rfl (by rfl) ?_
  refine j_geti (q := 7) dX7_forget_4 rfl fX7_126 (by first | with_reducible assumption | assumption) (by rfl) ?_
  refine j_i2l (q := 8) dX7_forget_7 rfl ?_
  refine o_callSi (q := 11) dX7_forget_8 rfl lX7_55 mwX7_in msX7_in (by rfl) rfl (Nat.le_of_ble_eq_true (by rfl)) (by first | decide | omega) (cM_inI E σ m hi n 0 (m.1 t 23) (by decide) rfl) ?_
  refine j_if_ne (q := 14) (tgt := 16) dX7_forget_11 rfl (by decide) (fun h11 => ?_) (fun h11 => ?_)
  · refine j_aload_n (q := 17) dX7_forget_16 rfl (by rfl) ?_
    refine j_geti (q := 20) dX7_forget_17 rfl fX7_126 (by first | with_reducible assumption | assumption) (by rfl) ?_
    refine j_istore_n (q := 21) dX7_forget_20 rfl (by decide) ?_
    refine j_aload_n (q := 22) dX7_forget_21 rfl (by rfl) ?_
    refine j_iload_n (q := 23) dX7_forget_22 rfl (by rfl) ?_
    refine j_puti (q := 26) dX7_forget_23 rfl fX7_126 p7_23 (by first | with_reducible assumption | assumption) (by rfl) ?_
    refine j_iload_n (q := 27) dX7_forget_26 rfl (by rfl) ?_
    refine o_iret hF rfl dX7_forget_27 ?_
    rw [if_pos (sWi_1 h11), if_pos (sWi_1 h11)]
    exact ⟨rfl, rfl⟩
  · refine j_iconst (q := 15) (v := (-1)) dX7_forget_14 rfl (by decide) ?_
    refine o_iret hF rfl dX7_forget_15 ?_
    have h11' := sWi_0 (by first | exact h11 | exact Decidable.not_not.mp h11)
    rw [if_neg h11', if_neg h11']
    exact ⟨rfl, rfl⟩
theorem cM_end (E : gEv) (σ : gSg) (m : gMem) (hi t : Nat) (n : Int32) (hR : gR σ t) : gCo E yX7_end cX7_end 3 (some .int) 1 [.ref t, .int n] σ m hi (gX (some (.int (if 0 ≤ n ∧ n ≤ m.1 t 5 then m.1 t 5 else -1))) (if 0 ≤ n ∧ n ≤ m.1 t 5 then gW m t 5 n else m)) := by
  refine gCo.of mwX7_end (Nat.le_of_ble_eq_true rfl) ?_
  intro F hF
  have h0 := hR.1
  refine j_iload_n (q := 1) dX7_end_0 rfl (by rfl) ?_
  refine j_i2l (q := 2) dX7_end_1 rfl ?_
  refine j_lconst (q := 3) (v := 0) dX7_end_2 rfl (by decide) ?_
  refine j_aload_n (q := 4) dX7_end_3 rfl (by rfl) ?_
  refine j_geti (q := 7) dX7_end_4 rfl fX7_59 (by first | with_reducible assumption | assumption) (by rfl) ?_
  refine j_i2l (q := 8) dX7_end_7 rfl ?_
  refine o_callSi (q := 11) dX7_end_8 rfl lX7_55 mwX7_in msX7_in (by rfl) rfl (Nat.le_of_ble_eq_true (by rfl)) (by first | decide | omega) (cM_inI E σ m hi n 0 (m.1 t 5) (by decide) rfl) ?_
  refine j_if_ne (q := 14) (tgt := 16) dX7_end_11 rfl (by decide) (fun h11 => ?_) (fun h11 => ?_)
  · refine j_aload_n (q := 17) dX7_end_16 rfl (by rfl) ?_
    refine j_geti (q := 20) dX7_end_17 rfl fX7_59 (by first | with_reducible assumption | assumption) (by rfl) ?_
    refine j_istore_n (q := 21) dX7_end_20 rfl (by decide) ?_
    refine j_aload_n (q := 22) dX7_end_21 rfl (by rfl) ?_
    refine j_iload_n (q := 23) dX7_end_22 rfl (by rfl) ?_
    refine j_puti (q := 26) dX7_end_23 rfl fX7_59 p7_5 (by first | with_reducible assumption | assumption) (by rfl) ?_
    refine j_iload_n (q := 27) dX7_end_26 rfl (by rfl) ?_
    refine o_iret hF rfl dX7_end_27 ?_
    rw [if_pos (sWi_1 h11), if_pos (sWi_1 h11)]
    exact ⟨rfl, rfl⟩
  · refine j_iconst (q := 15) (v := (-1)) dX7_end_14 rfl (by decide) ?_
    refine o_iret hF rfl dX7_end_15 ?_
    have h11' := sWi_0 (by first | exact h11 | exact Decidable.not_not.mp h11)
    rw [if_neg h11', if_neg h11']
    exact ⟨rfl, rfl⟩
theorem cM_fault (E : gEv) (σ : gSg) (m : gMem) (hi t : Nat) (hR : gR σ t) : gCo E yX7_fault cX7_fault 1 (some .int) 0 [.ref t] σ m hi (gX (some (.int (m.1 t 6))) m) := by
  refine gCo.of mwX7_fault (Nat.le_of_ble_eq_true rfl) ?_
  intro F hF
  have h0 := hR.1
  refine j_aload_n (q := 1) dX7_fault_0 rfl (by rfl) ?_
  refine j_geti (q := 4) dX7_fault_1 rfl fX7_123 (by first | with_reducible assumption | assumption) (by rfl) ?_
  refine o_iret hF rfl dX7_fault_4 ?_
  exact ⟨rfl, rfl⟩
theorem cM_torn (E : gEv) (σ : gSg) (m : gMem) (hi t : Nat) (hR : gR σ t) : gCo E yX7_torn cX7_torn 1 (some .int) 0 [.ref t] σ m hi (gX (some (.int (m.1 t 29))) m) := by
  refine gCo.of mwX7_torn (Nat.le_of_ble_eq_true rfl) ?_
  intro F hF
  have h0 := hR.1
  refine j_aload_n (q := 1) dX7_torn_0 rfl (by rfl) ?_
  refine j_geti (q := 4) dX7_torn_1 rfl fX7_264 (by first | with_reducible assumption | assumption) (by rfl) ?_
  refine o_iret hF rfl dX7_torn_4 ?_
  exact ⟨rfl, rfl⟩
theorem cM_feed (E : gEv) (σ : gSg) (m : gMem) (hi t L : Nat) (c : Int32) (hR : gR σ t) (hL : m.1 t 5 = nI L) (hL160 : L ≤ 160) : gCo E yX7_feed cX7_feed 2 (some .int) 1 [.ref t, .int c] σ m hi (gX (some (.int (xFeed L c))) (if (0 ≤ c ∧ c ≤ 127) ∧ L < 160 then gW (gW m (t + 3) L c) t 5 (nI (L + 1)) else m)) := by
  refine gCo.of mwX7_feed (Nat.le_of_ble_eq_true rfl) ?_
  intro F hF
  have h0 := hR.1
  have h3 := hR.2.2.2.1
  unfold xFeed at hF
  refine j_iload_n (q := 1) dX7_feed_0 rfl (by rfl) ?_
  refine j_i2l (q := 2) dX7_feed_1 rfl ?_
  refine j_lconst (q := 3) (v := 0) dX7_feed_2 rfl (by decide) ?_
  refine j_ldc2 (q := 6) dX7_feed_3 rfl kX7_53 ?_
  refine o_callSi (q := 9) dX7_feed_6 rfl lX7_55 mwX7_in msX7_in (by rfl) rfl (Nat.le_of_ble_eq_true (by rfl)) (by first | decide | omega) (cM_inI E σ m hi c 0 127 (by decide) (by decide)) ?_
  refine j_if_ne (q := 12) (tgt := 14) dX7_feed_9 rfl (by decide) (fun h9 => ?_) (fun h9 => ?_)
  · have hg := sWi_1 h9
    rw [if_pos hg] at hF
    refine j_aload_n (q := 15) dX7_feed_14 rfl (by rfl) ?_
    refine j_geti (q := 18) dX7_feed_15 rfl fX7_59 (by first | with_reducible assumption | assumption) (by rfl) ?_
    rw [hL]
    refine j_sipush (q := 21) (v := 160) dX7_feed_18 rfl (by decide) ?_
    by_cases hlt : L < 160
    · have hix : gIdx (nI L) 160 L := gIdx.of rfl hlt (by decide)
      rw [if_pos hlt, if_pos ⟨hg, hlt⟩] at hF
      refine j_icmp_ne (q := 24) (tgt := 27) dX7_feed_21 rfl (by decide) (fun h21 => ?_) (fun h21 => ?_)
      · refine j_aload_n (q := 28) dX7_feed_27 rfl (by rfl) ?_
        refine j_getr (q := 31) dX7_feed_28 rfl fX7_16 (by first | with_reducible assumption | assumption) (by rfl) ?_
        refine j_aload_n (q := 32) dX7_feed_31 rfl (by rfl) ?_
        refine j_geti (q := 35) dX7_feed_32 rfl fX7_59 (by first | with_reducible assumption | assumption) (by rfl) ?_
        rw [hL]
        refine j_iload_n (q := 36) dX7_feed_35 rfl (by rfl) ?_
        refine j_iastore (q := 37) dX7_feed_36 rfl (by first | with_reducible assumption | assumption) (by first | with_reducible assumption | assumption) ?_
        refine j_aload_n (q := 38) dX7_feed_37 rfl (by rfl) ?_
        refine j_dup (q := 39) dX7_feed_38 rfl rfl ?_
        refine j_geti (q := 42) dX7_feed_39 rfl fX7_59 (by first | with_reducible assumption | assumption) (by rfl) ?_
        rw [gW_n (by omega), hL]
        refine j_iconst (q := 43) (v := 1) dX7_feed_42 rfl (by decide) ?_
        refine j_iadd (q := 44) dX7_feed_43 rfl ?_
        rw [nI_1]
        refine j_puti (q := 47) dX7_feed_44 rfl fX7_59 p7_5 (by first | with_reducible assumption | assumption) (by rfl) ?_
        refine j_aload_n (q := 48) dX7_feed_47 rfl (by rfl) ?_
        refine j_geti (q := 51) dX7_feed_48 rfl fX7_59 (by first | with_reducible assumption | assumption) (by rfl) ?_
        rw [gW_s]
        refine o_iret hF rfl dX7_feed_51 ?_
        exact ⟨rfl, rfl⟩
      · exact absurd (nI_inj (a := L) (b := 160) (by omega) (by omega) (by first | exact h21 | exact Decidable.not_not.mp h21)) (by omega)
    · rw [if_neg hlt, if_neg (fun h => hlt h.2)] at hF
      have hs6' : L = 160 := by omega
      subst hs6'
      refine j_icmp_ne (q := 24) (tgt := 27) dX7_feed_21 rfl (by decide) (fun h21 => ?_) (fun h21 => ?_)
      · exact absurd rfl h21
      · refine j_bipush (q := 26) (v := (-3)) dX7_feed_24 rfl (by decide) ?_
        refine o_iret hF rfl dX7_feed_26 ?_
        exact ⟨rfl, rfl⟩
  · have h9' := sWi_0 (by first | exact h9 | exact Decidable.not_not.mp h9)
    rw [if_neg h9', if_neg (fun h => h9' h.1)] at hF
    refine j_iconst (q := 13) (v := (-1)) dX7_feed_12 rfl (by decide) ?_
    refine o_iret hF rfl dX7_feed_13 ?_
    exact ⟨rfl, rfl⟩
def kpR (m : gMem) (t j : Nat) : gMem := gW (gQ m t (53 * (j + 1)) (pgR m t 0)) (t + 11) j 1
def kpRS (m : gMem) (t : Nat) (k : Int32) : gMem := match swN k 1 with
  | none => m
  | some j => kpR m t j
theorem cM_keep (E : gEv) (σ : gSg) (m : gMem) (hi t : Nat) (k : Int32) (hR : gR σ t) : gCo E yX7_keep cX7_keep 3 (some .int) 1 [.ref t, .int k] σ m hi (gX (some (.int (xKeep (m.1 (t + 11)) k))) (kpRS m t k)) := by
  refine gCo.of mwX7_keep (Nat.le_of_ble_eq_true rfl) ?_
  intro F hF
  have h0 := hR.1
  obtain ⟨-, -, -, -, -, -, -, -, -, -, -, h11, -⟩ := id hR
  unfold xKeep kpRS at hF
  refine j_iload_n (q := 1) dX7_keep_0 rfl (by rfl) ?_
  refine j_i2l (q := 2) dX7_keep_1 rfl ?_
  refine j_lconst (q := 3) (v := 0) dX7_keep_2 rfl (by decide) ?_
  refine j_lconst (q := 4) (v := 1) dX7_keep_3 rfl (by decide) ?_
  refine o_callSi (q := 7) dX7_keep_4 rfl lX7_55 mwX7_in msX7_in (by rfl) rfl (Nat.le_of_ble_eq_true (by rfl)) (by first | decide | omega) (cM_inI E σ m hi k 0 1 (by decide) (by decide)) ?_
  refine j_if_ne (q := 10) (tgt := 12) dX7_keep_7 rfl (by decide) (fun h7 => ?_) (fun h7 => ?_)
  · obtain ⟨j, hj, ej⟩ := swN_wi (n := 1) (by decide) h7
    subst ej
    rw [swN_in hj (by decide)] at hF
    dsimp only at hF
    have hj2 : j < 2 := by omega
    have hix : gIdx (nI j) 2 j := gIdx.of rfl hj2 (by decide)
    have e53 : (53 : Int32) * (nI j + 1) = nI (53 * (j + 1)) := by rw [nI_1]; exact pk_mul 53 (j + 1)
    have hCp := cM_copies E σ m hi t 0 (53 * (j + 1)) hR (by omega) (by omega) (by omega)
    have K37 : ∀ w : Int32, w = (if m.1 (t + 11) j = 0 then 0 else 1) → (gJ E yX7_keep cX7_keep 3 (some .int) (gRm 1 0 0) F 37 ([some (.ref t), some (.int (nI j)), none]) ([.int w]) 0 0 σ (gQ m t (53 * (j + 1)) (pgR m t 0)) hi) := by
      intro w hw
      refine j_istore_n (q := 38) dX7_keep_37 rfl (by decide) ?_
      refine j_aload_n (q := 39) dX7_keep_38 rfl (by rfl) ?_
      refine j_getr (q := 42) dX7_keep_39 rfl fX7_40 (by first | with_reducible assumption | assumption) (by rfl) ?_
      refine j_iload_n (q := 43) dX7_keep_42 rfl (by rfl) ?_
      refine j_iconst (q := 44) (v := 1) dX7_keep_43 rfl (by decide) ?_
      refine j_zastore (q := 45) dX7_keep_44 rfl (by first | with_reducible assumption | assumption) (by first | with_reducible assumption | assumption) (by first | assumption | exact Or.inl rfl | exact Or.inr rfl) ?_
      refine j_iload_n (q := 46) dX7_keep_45 rfl (by rfl) ?_
      refine o_iret hF rfl dX7_keep_46 ?_
      exact ⟨by rw [hw], rfl⟩
    refine j_aload_n (q := 13) dX7_keep_12 rfl (by rfl) ?_
    refine j_iconst (q := 14) (v := 0) dX7_keep_13 rfl (by decide) ?_
    refine j_bipush (q := 16) (v := 53) dX7_keep_14 rfl (by decide) ?_
    refine j_iload_n (q := 17) dX7_keep_16 rfl (by rfl) ?_
    refine j_iconst (q := 18) (v := 1) dX7_keep_17 rfl (by decide) ?_
    refine j_iadd (q := 19) dX7_keep_18 rfl ?_
    refine j_imul (q := 20) dX7_keep_19 rfl ?_
    rw [e53]
    refine o_callVv (q := 23) dX7_keep_20 rfl lX7_205 mwX7_copies mvX7_copies cn7 (by assumption) (by rfl) rfl (Nat.le_of_ble_eq_true (by rfl)) (by first | decide | omega) (hCp) ?_
    refine j_aload_n (q := 24) dX7_keep_23 rfl (by rfl) ?_
    refine j_getr (q := 27) dX7_keep_24 rfl fX7_40 (by first | with_reducible assumption | assumption) (by rfl) ?_
    refine j_iload_n (q := 28) dX7_keep_27 rfl (by rfl) ?_
    refine j_zaload (q := 29) dX7_keep_28 rfl (by first | with_reducible assumption | assumption) (by first | with_reducible assumption | assumption) ?_
    rw [gQ_out (by omega)]
    refine j_if_eq (q := 32) (tgt := 36) dX7_keep_29 rfl (by decide) (fun h29 => ?_) (fun h29 => ?_)
    · refine j_iconst (q := 37) (v := 0) dX7_keep_36 rfl (by decide) ?_
      exact K37 _ (by rw [if_pos h29])
    · refine j_iconst (q := 33) (v := 1) dX7_keep_32 rfl (by decide) ?_
      refine j_goto (tgt := 37) dX7_keep_33 (by decide) ?_
      exact K37 _ (by rw [if_neg h29])
  · rw [swN_wo (n := 1) (by decide) (by first | exact h7 | exact Decidable.not_not.mp h7)] at hF
    refine j_iconst (q := 11) (v := (-1)) dX7_keep_10 rfl (by decide) ?_
    refine o_iret hF rfl dX7_keep_11 ?_
    exact ⟨rfl, rfl⟩
def xBackR (m : gMem) (t : Nat) (k : Int32) : Int32 := match swN k 1 with
  | none => -1
  | some j => if m.1 (t + 11) j = 0 then -2 else pgR m t (53 * (j + 1)) 52
def bkRS (m : gMem) (t : Nat) (k : Int32) : gMem := match swN k 1 with
  | none => m
  | some j => if m.1 (t + 11) j = 0 then m else gQ m t 0 (pgR m t (53 * (j + 1)))
theorem cM_back (E : gEv) (σ : gSg) (m : gMem) (hi t : Nat) (k : Int32) (hR : gR σ t) : gCo E yX7_back cX7_back 2 (some .int) 1 [.ref t, .int k] σ m hi (gX (some (.int (xBackR m t k))) (bkRS m t k)) := by
  refine gCo.of mwX7_back (Nat.le_of_ble_eq_true rfl) ?_
  intro F hF
  have h0 := hR.1
  have h1 := hR.2.1
  obtain ⟨-, -, -, -, -, -, -, -, -, -, -, h11, -⟩ := id hR
  have i52 : gIdx 52 318 52 := gIdx.of rfl (by decide) (by decide)
  unfold xBackR bkRS at hF
  refine j_iload_n (q := 1) dX7_back_0 rfl (by rfl) ?_
  refine j_i2l (q := 2) dX7_back_1 rfl ?_
  refine j_lconst (q := 3) (v := 0) dX7_back_2 rfl (by decide) ?_
  refine j_lconst (q := 4) (v := 1) dX7_back_3 rfl (by decide) ?_
  refine o_callSi (q := 7) dX7_back_4 rfl lX7_55 mwX7_in msX7_in (by rfl) rfl (Nat.le_of_ble_eq_true (by rfl)) (by first | decide | omega) (cM_inI E σ m hi k 0 1 (by decide) (by decide)) ?_
  refine j_if_ne (q := 10) (tgt := 12) dX7_back_7 rfl (by decide) (fun h7 => ?_) (fun h7 => ?_)
  · obtain ⟨j, hj, ej⟩ := swN_wi (n := 1) (by decide) h7
    subst ej
    rw [swN_in hj (by decide)] at hF
    dsimp only at hF
    have hj2 : j < 2 := by omega
    have hix : gIdx (nI j) 2 j := gIdx.of rfl hj2 (by decide)
    have e53 : (53 : Int32) * (nI j + 1) = nI (53 * (j + 1)) := by rw [nI_1]; exact pk_mul 53 (j + 1)
    have hCp := cM_copies E σ m hi t (53 * (j + 1)) 0 hR (by omega) (by omega) (by omega)
    refine j_aload_n (q := 13) dX7_back_12 rfl (by rfl) ?_
    refine j_getr (q := 16) dX7_back_13 rfl fX7_40 (by first | with_reducible assumption | assumption) (by rfl) ?_
    refine j_iload_n (q := 17) dX7_back_16 rfl (by rfl) ?_
    refine j_zaload (q := 18) dX7_back_17 rfl (by first | with_reducible assumption | assumption) (by first | with_reducible assumption | assumption) ?_
    refine j_if_ne (q := 21) (tgt := 24) dX7_back_18 rfl (by decide) (fun h18 => ?_) (fun h18 => ?_)
    · rw [if_neg h18, if_neg h18] at hF
      refine j_aload_n (q := 25) dX7_back_24 rfl (by rfl) ?_
      refine j_bipush (q := 27) (v := 53) dX7_back_25 rfl (by decide) ?_
      refine j_iload_n (q := 28) dX7_back_27 rfl (by rfl) ?_
      refine j_iconst (q := 29) (v := 1) dX7_back_28 rfl (by decide) ?_
      refine j_iadd (q := 30) dX7_back_29 rfl ?_
      refine j_imul (q := 31) dX7_back_30 rfl ?_
      rw [e53]
      refine j_iconst (q := 32) (v := 0) dX7_back_31 rfl (by decide) ?_
      refine o_callVv (q := 35) dX7_back_32 rfl lX7_205 mwX7_copies mvX7_copies cn7 (by assumption) (by rfl) rfl (Nat.le_of_ble_eq_true (by rfl)) (by first | decide | omega) (hCp) ?_
      refine j_aload_n (q := 36) dX7_back_35 rfl (by rfl) ?_
      refine j_getr (q := 39) dX7_back_36 rfl fX7_7 (by first | with_reducible assumption | assumption) (by rfl) ?_
      refine j_bipush (q := 41) (v := 52) dX7_back_39 rfl (by decide) ?_
      refine j_iaload (q := 42) dX7_back_41 rfl (by first | with_reducible assumption | assumption) (by first | with_reducible assumption | assumption) ?_
      rw [q0_i (by omega)]
      refine o_iret hF rfl dX7_back_42 ?_
      exact ⟨rfl, rfl⟩
    · rw [if_pos (by first | exact h18 | exact Decidable.not_not.mp h18), if_pos (by first | exact h18 | exact Decidable.not_not.mp h18)] at hF
      refine j_bipush (q := 23) (v := (-2)) dX7_back_21 rfl (by decide) ?_
      refine o_iret hF rfl dX7_back_23 ?_
      exact ⟨rfl, rfl⟩
  · rw [swN_wo (n := 1) (by decide) (by first | exact h7 | exact Decidable.not_not.mp h7)] at hF
    refine j_iconst (q := 11) (v := (-1)) dX7_back_10 rfl (by decide) ?_
    refine o_iret hF rfl dX7_back_11 ?_
    exact ⟨rfl, rfl⟩
