/-! the ways of n hours -/
def rtP (g : Nat → Int32) (w n : Nat) : Nat → Nat → Int32
  | 0 => g
  | i + 1 => hr (rtP g w n i) (sWat (rtP g w n i)) (sCho g (nI (dg (cnt g + 1) w n i)))
def rtU (g : Nat → Int32) (w n : Nat) : Nat → Int32
  | 0 => 0
  | i + 1 => rtU g w n i + sBc (hrU (rtP g w n i) (sWat (rtP g w n i)) (sCho g (nI (dg (cnt g + 1) w n i))))
theorem rtP_C {g : Nat → Int32} (h : okC g) (w n : Nat) : ∀ i, okC (rtP g w n i)
  | 0 => h
  | i + 1 => (rtP_C h w n i).hr _ _
theorem rtP_B {g : Nat → Int32} {b : Nat} (h : okB g b) (w n : Nat) : ∀ i, okB (rtP g w n i) (b + i)
  | 0 => h
  | i + 1 => (rtP_B h w n i).hr _ _
theorem rtP_0 {g : Nat → Int32} (h : pg0 g) (w n : Nat) : ∀ i, pg0 (rtP g w n i)
  | 0 => h
  | i + 1 => hr_0 (rtP_0 h w n i) _ _
theorem rtP_veq {g g' : Nat → Int32} {b : Nat} (h : veq g g') (hc : okC g) (ho : okB g b) (w n : Nat) : ∀ i, veq (rtP g w n i) (rtP g' w n i)
  | 0 => h
  | i + 1 => by
    have ih := rtP_veq h hc ho w n i
    rw [rtP, rtP, sWat_veq ih (rtP_B ho w n i), sCho_veq h, h.c]
    exact hr_veq ih (rtP_C hc w n i) _ _
theorem rtU_veq {g g' : Nat → Int32} {b : Nat} (h : veq g g') (hc : okC g) (ho : okB g b) (w n : Nat) : ∀ i, rtU g' w n i = rtU g w n i
  | 0 => rfl
  | i + 1 => by
    have ih := rtP_veq h hc ho w n i
    rw [rtU, rtU, rtU_veq h hc ho w n i, sWat_veq ih (rtP_B ho w n i), sCho_veq h, h.c, hrU_veq ih (rtP_C hc w n i)]
theorem cX_upsByRoute (E : gEv) (σ : gSg) (m : gMem) (hi x w n : Nat) (hN : gN σ x) (ho : okN m x) (hn : n ≤ 4) (hw : w < 2 ^ 30) : gCo E yX6_upsByRoute cX6_upsByRoute 6 (some .int) 4 [.ref x, .int (nI w), .int (nI n)] σ m hi (fun v' m' => v' = some (.int (rtU (pgC m (x + 1)) w n n)) ∧ scr x m m') := by
  refine gCo.of mwX6_upsByRoute (Nat.le_of_ble_eq_true rfl) ?_
  intro F hF
  have hx := hN.1
  have h9 := hN.2.2.1.1
  obtain ⟨c, hc, hc4⟩ := ho.1
  have hcn : cnt (pgC m (x + 1)) = c := by unfold cnt; rw [hc]; exact nI_clamp (by omega)
  have hv := bec_veq (pgC m (x + 1)) (pgC m (x + 9))
  generalize hT : bec (pgC m (x + 1)) (pgC m (x + 9)) = T at hv
  have hT0 : pg0 T := by rw [← hT]; exact bec_0 (pgC_0 m (x + 9))
  have hTc : okC T := ho.1.v hv
  have hTb : okB T 9999 := ho.2.v hv
  have hTn : cnt T = c := by rw [hv.c, hcn]
  have ep : ∀ i, pgC (gP m (x + 9) (rtP T w n i)) (x + 9) = rtP T w n i := fun i => pgC_gP (rtP_0 hT0 w n i) _ _
  have e1 : ∀ i, pgC (gP m (x + 9) (rtP T w n i)) (x + 1) = pgC m (x + 1) := fun i => pgC_ne (by unfold gAp; omega) _ _
  have K11 : ∀ (k i : Nat), i + k = n → (gJ E yX6_upsByRoute cX6_upsByRoute 6 (some .int) (gRm 4 0 0) F 11 ([some (.ref x), some (.int (nI w)), some (.int (nI n)), some (.ref (x + 9)), some (.int (rtU T w n i)), some (.int (nI i))]) ([]) 0 0 σ (gP m (x + 9) (rtP T w n i)) hi) := by
    intro k
    induction k with
    | zero =>
      intro i hi'
      have : i = n := by omega
      subst this
      refine j_iload (q := 13) dX6_upsByRoute_11 rfl (by rfl) ?_
      refine j_iload_n (q := 14) dX6_upsByRoute_13 rfl (by rfl) ?_
      refine j_icmp_ge (q := 17) (tgt := 47) dX6_upsByRoute_14 rfl (by decide) (fun h14 => ?_) (fun h14 => ?_)
      · refine j_iload (q := 49) dX6_upsByRoute_47 rfl (by rfl) ?_
        refine o_iret hF rfl dX6_upsByRoute_49 ?_
        rw [rtU_veq hv ho.1 ho.2]
        exact ⟨rfl, (scr.rf x m).t _⟩
      · exact absurd (Int32.le_refl _) h14
    | succ k ih =>
      intro i hi'
      have hWa := cG_watchersNow E σ (gP m (x + 9) (rtP T w n i)) hi (x + 9) hN.2.2.1 (by rw [ep]; exact (rtP_B hTb w n i).r (by omega))
      rw [ep] at hWa
      have hCo := cX_companyOnRoute E σ (gP m (x + 9) (rtP T w n i)) hi x w n i c hN (by rw [e1]; exact hc) hc4 (by omega) hn hw
      rw [e1, ← sCho_veq hv] at hCo
      have hPa := cG_pass E σ (gP m (x + 9) (rtP T w n i)) hi (x + 9) (sWat (rtP T w n i)) (sCho T (nI (dg (c + 1) w n i))) hN.2.2.1 (by rw [ep]; exact rtP_C hTc w n i)
      rw [ep, gP_gP] at hPa
      refine j_iload (q := 13) dX6_upsByRoute_11 rfl (by rfl) ?_
      refine j_iload_n (q := 14) dX6_upsByRoute_13 rfl (by rfl) ?_
      refine j_icmp_ge (q := 17) (tgt := 47) dX6_upsByRoute_14 rfl (by decide) (fun h14 => ?_) (fun h14 => ?_)
      · exact absurd h14 (nI_ge (by omega) (by omega))
      · refine j_iload (q := 19) dX6_upsByRoute_17 rfl (by rfl) ?_
        refine j_aload_n (q := 20) dX6_upsByRoute_19 rfl (by rfl) ?_
        refine j_aload_n (q := 21) dX6_upsByRoute_20 rfl (by rfl) ?_
        refine o_callVi (q := 24) dX6_upsByRoute_21 rfl lX6_119 mwX0_watchersNow mvX0_watchersNow cn0 (by assumption) (by rfl) rfl (Nat.le_of_ble_eq_true (by rfl)) (by decide) (hWa) ?_
        refine j_aload_n (q := 25) dX6_upsByRoute_24 rfl (by rfl) ?_
        refine j_iload_n (q := 26) dX6_upsByRoute_25 rfl (by rfl) ?_
        refine j_iload_n (q := 27) dX6_upsByRoute_26 rfl (by rfl) ?_
        refine j_iload (q := 29) dX6_upsByRoute_27 rfl (by rfl) ?_
        refine o_callVi (q := 32) dX6_upsByRoute_29 rfl lX6_210 mwX6_companyOnRoute mvX6_companyOnRoute cn6 (by assumption) (by rfl) rfl (Nat.le_of_ble_eq_true (by rfl)) (by decide) (hCo) ?_
        refine o_callVi (q := 35) dX6_upsByRoute_32 rfl lX6_214 mwX0_pass mvX0_pass cn0 (by assumption) (by rfl) rfl (Nat.le_of_ble_eq_true (by rfl)) (by decide) (hPa) ?_
        refine o_callSi (q := 38) dX6_upsByRoute_35 rfl lX6_217 mwJ6_bitCount_0f7a4 msJ6_bitCount_0f7a4 (by rfl) rfl (Nat.le_of_ble_eq_true (by rfl)) (by decide) (cJ_bitCount E σ _ hi _) ?_
        refine j_iadd (q := 39) dX6_upsByRoute_38 rfl ?_
        refine j_istore (q := 41) dX6_upsByRoute_39 rfl (by decide) ?_
        refine j_iinc (q := 44) dX6_upsByRoute_41 rfl (by rfl) (by first | exact nI_inc _ | rfl) (by decide) ?_
        refine j_goto (tgt := 11) dX6_upsByRoute_44 (by decide) ?_
        have := ih (i + 1) (by omega)
        rw [rtU, rtP, hTn] at this
        exact this
  refine j_aload_n (q := 1) dX6_upsByRoute_0 rfl (by rfl) ?_
  refine o_callVa (q := 4) dX6_upsByRoute_1 rfl lX6_177 mwX6_afresh mvX6_afresh cn6 (by assumption) (by rfl) rfl (Nat.le_of_ble_eq_true (by rfl)) (by decide) (cX_afresh E σ m hi x hN ho) ?_
  refine j_astore_n (q := 5) dX6_upsByRoute_4 rfl (by decide) ?_
  refine j_iconst (q := 6) (v := 0) dX6_upsByRoute_5 rfl (by decide) ?_
  refine j_istore (q := 8) dX6_upsByRoute_6 rfl (by decide) ?_
  refine j_iconst (q := 9) (v := 0) dX6_upsByRoute_8 rfl (by decide) ?_
  refine j_istore (q := 11) dX6_upsByRoute_9 rfl (by decide) ?_
  refine gJ.mm ?_ (K11 n 0 (by omega))
  unfold frM
  rw [hT]
  rfl
theorem bst_w (f : Nat → Int32) (m0 : Int32) : ∀ k, ∃ w, w ≤ k ∧ (bst f nI 0 m0 k).1 = nI w
  | 0 => ⟨0, Nat.le_refl 0, rfl⟩
  | k + 1 => by
    obtain ⟨w, h1, h2⟩ := bst_w f m0 k
    rw [bst]
    by_cases h : (bst f nI 0 m0 k).2 < f k
    · rw [if_pos h]; exact ⟨k, by omega, rfl⟩
    · rw [if_neg h]; exact ⟨w, by omega, h2⟩
def rtF (g : Nat → Int32) (n : Nat) (w : Nat) : Int32 := rtU g w n n
def rtB (g : Nat → Int32) (n : Nat) : Int32 × Int32 := bst (rtF g n) nI 0 (-1) ((cnt g + 1) ^ n)
def xRoute (g : Nat → Int32) (n k : Int32) : Int32 := if (0 ≤ n ∧ n ≤ 4) ∧ (k = 0 ∨ (10 ≤ k ∧ k ≤ 9 + n)) then (if k = 0 then (rtB g n.toNatClampNeg).2 else sCho g (nI (dg (cnt g + 1) (rtB g n.toNatClampNeg).1.toNatClampNeg n.toNatClampNeg (k - 10).toNatClampNeg))) else -1
theorem cX_route (E : gEv) (σ : gSg) (m : gMem) (hi x : Nat) (n k : Int32) (hN : gN σ x) (ho : okN m x) : gCo E yX6_route cX6_route 8 (some .int) 5 [.ref x, .int n, .int k] σ m hi (fun v' m' => v' = some (.int (xRoute (pgC m (x + 1)) n k)) ∧ scr x m m') := by
  refine gCo.of mwX6_route (Nat.le_of_ble_eq_true rfl) ?_
  intro F hF
  have hx := hN.1
  have h1 := hN.2.1.1
  obtain ⟨c, hc, hc4⟩ := ho.1
  have hcn : cnt (pgC m (x + 1)) = c := by unfold cnt; rw [hc]; exact nI_clamp (by omega)
  unfold xRoute at hF
  refine j_iload_n (q := 1) dX6_route_0 rfl (by rfl) ?_
  refine j_iconst (q := 2) (v := 0) dX6_route_1 rfl (by decide) ?_
  refine j_iconst (q := 3) (v := 4) dX6_route_2 rfl (by decide) ?_
  refine o_callSi (q := 6) dX6_route_3 rfl lX6_66 mwX6_within msX6_within (by rfl) rfl (Nat.le_of_ble_eq_true (by rfl)) (by decide) (cX_within E σ m hi _ _ _) ?_
  refine j_if_eq (q := 9) (tgt := 26) dX6_route_6 rfl (by decide) (fun h6 => ?_) (fun h6 => ?_)
  · refine j_iconst (q := 27) (v := (-1)) dX6_route_26 rfl (by decide) ?_
    refine o_iret hF rfl dX6_route_27 ?_
    rw [if_neg (fun h => sWi_0 h6 h.1)]
    exact ⟨rfl, scr.rf x m⟩
  obtain ⟨t, ht, et⟩ := swN_wi (n := 4) (by decide) h6
  have hg := sWi_1 h6
  subst et
  rw [nI_clamp (by omega), hcn] at hF
  have hp : (c + 1) ^ t ≤ 625 := by
    have a := Nat.pow_le_pow_left (show c + 1 ≤ 5 by omega) t
    have b := Nat.pow_le_pow_right (show 0 < 5 by decide) ht
    exact Nat.le_trans a b
  have K28 : (k = 0 ∨ (10 ≤ k ∧ k ≤ 9 + nI t)) → (gJ E yX6_route cX6_route 8 (some .int) (gRm 5 0 0) F 28 ([some (.ref x), some (.int (nI t)), some (.int k), none, none, none, none, none]) ([]) 0 0 σ (m) hi) := by
    intro hk
    rw [if_pos ⟨hg, hk⟩] at hF
    have K66 : ∀ (u w : Nat) (mi : gMem) (o7 : Option Value), w + u = (c + 1) ^ t → scr x m mi → (gJ E yX6_route cX6_route 8 (some .int) (gRm 5 0 0) F 66 ([some (.ref x), some (.int (nI t)), some (.int k), some (.int (nI ((c + 1) ^ t))), some (.int (bst (rtF (pgC m (x + 1)) t) nI 0 (-1) w).1), some (.int (bst (rtF (pgC m (x + 1)) t) nI 0 (-1) w).2), some (.int (nI w)), o7]) ([]) 0 0 σ (mi) hi) := by
      intro u
      induction u with
      | zero =>
        intro w mi o7 hw hsc
        have : w = (c + 1) ^ t := by omega
        subst this
        have hB : rtB (pgC m (x + 1)) t = bst (rtF (pgC m (x + 1)) t) nI 0 (-1) ((c + 1) ^ t) := by unfold rtB; rw [hcn]
        rw [hB] at hF
        refine j_iload (q := 68) dX6_route_66 rfl (by rfl) ?_
        refine j_iload_n (q := 69) dX6_route_68 rfl (by rfl) ?_
        refine j_icmp_ge (q := 72) (tgt := 102) dX6_route_69 rfl (by decide) (fun h69 => ?_) (fun h69 => ?_)
        · refine j_iload_n (q := 103) dX6_route_102 rfl (by rfl) ?_
          refine j_if_ne (q := 106) (tgt := 111) dX6_route_103 rfl (by decide) (fun h103 => ?_) (fun h103 => ?_)
          · obtain ⟨q, hq1, hq2⟩ := bst_w (rtF (pgC m (x + 1)) t) (-1) ((c + 1) ^ t)
            rw [if_neg h103] at hF
            rw [hq2] at hF ⊢
            rw [nI_clamp (by omega)] at hF
            have hk2 : 10 ≤ k ∧ k ≤ 9 + nI t := hk.resolve_left h103
            have e9 : 9 + nI t = nI (9 + t) := nI_add 9 t
            rw [e9] at hk2
            obtain ⟨kk, hkk, ek⟩ := nI_of2 (x := k) (M := nI (9 + t)) (n := 9 + t) (nI_toInt (by omega)) (by
              have := hk2.1
              intro hn
              rw [Int32.le_iff_toInt_le] at this
              rw [Int32.lt_iff_toInt_lt] at hn
              simp at this hn
              omega) hk2.2
            subst ek
            have hk10 : 10 ≤ kk := by
              have := hk2.1
              rw [show (10 : Int32) = nI 10 from rfl] at this
              exact (nI_leI (by omega) (by omega)).mp this
            have es : nI kk - 10 = nI (kk - 10) := by
              rw [show nI kk = nI (kk - 10) + nI 10 by rw [nI_add]; congr 1; omega, show (10 : Int32) = nI 10 from rfl]
              exact Int32.add_sub_cancel _ _
            rw [es, nI_clamp (by omega)] at hF
            refine j_aload_n (q := 112) dX6_route_111 rfl (by rfl) ?_
            refine j_iload (q := 114) dX6_route_112 rfl (by rfl) ?_
            refine j_iload_n (q := 115) dX6_route_114 rfl (by rfl) ?_
            refine j_iload_n (q := 116) dX6_route_115 rfl (by rfl) ?_
            refine j_bipush (q := 118) (v := 10) dX6_route_116 rfl (by decide) ?_
            refine j_isub (q := 119) dX6_route_118 rfl ?_
            rw [es]
            have hCo := cX_companyOnRoute E σ mi hi x q t (kk - 10) c hN (by rw [hsc.n]; exact hc) hc4 (by omega) ht (by omega)
            rw [hsc.n] at hCo
            refine o_callVi (q := 122) dX6_route_119 rfl lX6_210 mwX6_companyOnRoute mvX6_companyOnRoute cn6 (by assumption) (by rfl) rfl (Nat.le_of_ble_eq_true (by rfl)) (by decide) (hCo) ?_
            refine o_iret hF rfl dX6_route_122 ?_
            exact ⟨rfl, hsc⟩
          · rw [if_pos (by first | exact h103 | exact Decidable.not_not.mp h103)] at hF
            refine j_iload (q := 108) dX6_route_106 rfl (by rfl) ?_
            refine j_goto (tgt := 122) dX6_route_108 (by decide) ?_
            refine o_iret hF rfl dX6_route_122 ?_
            exact ⟨rfl, hsc⟩
        · exact absurd (Int32.le_refl _) h69
      | succ u ih =>
        intro w mi o7 hw hsc
        refine j_iload (q := 68) dX6_route_66 rfl (by rfl) ?_
        refine j_iload_n (q := 69) dX6_route_68 rfl (by rfl) ?_
        refine j_icmp_ge (q := 72) (tgt := 102) dX6_route_69 rfl (by decide) (fun h69 => ?_) (fun h69 => ?_)
        · exact absurd h69 (nI_ge (by omega) (by omega))
        · refine j_aload_n (q := 73) dX6_route_72 rfl (by rfl) ?_
          refine j_iload (q := 75) dX6_route_73 rfl (by rfl) ?_
          refine j_iload_n (q := 76) dX6_route_75 rfl (by rfl) ?_
          have hU := cX_upsByRoute E σ mi hi x w t hN (hsc.ok ho) ht (by omega)
          rw [hsc.n] at hU
          refine o_callVx (q := 79) dX6_route_76 rfl lX6_207 mwX6_upsByRoute mvX6_upsByRoute cn6 (by assumption) (by rfl) rfl (Nat.le_of_ble_eq_true (by rfl)) (by decide) (hU) ?_
          rintro _ m1 ⟨rfl, hs1⟩
          refine j_istore (q := 81) dX6_route_79 rfl (by decide) ?_
          refine j_iload (q := 83) dX6_route_81 rfl (by rfl) ?_
          refine j_iload (q := 85) dX6_route_83 rfl (by rfl) ?_
          have := ih (w + 1) m1 (some (.int (rtU (pgC m (x + 1)) w t t))) (by omega) (hsc.tr hs1)
          refine j_icmp_le (q := 88) (tgt := 96) dX6_route_85 rfl (by decide) (fun h85 => ?_) (fun h85 => ?_)
          · refine j_iinc (q := 99) dX6_route_96 rfl (by rfl) (by first | exact nI_inc _ | rfl) (by decide) ?_
            refine j_goto (tgt := 66) dX6_route_99 (by decide) ?_
            rw [bst, if_neg (Int32.not_lt.mpr (show rtF (pgC m (x + 1)) t w ≤ _ from h85))] at this
            exact this
          · refine j_iload (q := 90) dX6_route_88 rfl (by rfl) ?_
            refine j_istore (q := 92) dX6_route_90 rfl (by decide) ?_
            refine j_iload (q := 94) dX6_route_92 rfl (by rfl) ?_
            refine j_istore (q := 96) dX6_route_94 rfl (by decide) ?_
            refine j_iinc (q := 99) dX6_route_96 rfl (by rfl) (by first | exact nI_inc _ | rfl) (by decide) ?_
            refine j_goto (tgt := 66) dX6_route_99 (by decide) ?_
            rw [bst, if_pos (Int32.not_le.mp (show ¬ rtF (pgC m (x + 1)) t w ≤ _ from h85))] at this
            exact this
    have K33 : ∀ (u i : Nat), i + u = t → (gJ E yX6_route cX6_route 8 (some .int) (gRm 5 0 0) F 33 ([some (.ref x), some (.int (nI t)), some (.int k), some (.int (nI ((c + 1) ^ i))), some (.int (nI i)), none, none, none]) ([]) 0 0 σ (m) hi) := by
      intro u
      induction u with
      | zero =>
        intro i hi'
        have : i = t := by omega
        subst this
        refine j_iload (q := 35) dX6_route_33 rfl (by rfl) ?_
        refine j_iload_n (q := 36) dX6_route_35 rfl (by rfl) ?_
        refine j_icmp_ge (q := 39) (tgt := 57) dX6_route_36 rfl (by decide) (fun h36 => ?_) (fun h36 => ?_)
        · refine j_iconst (q := 58) (v := 0) dX6_route_57 rfl (by decide) ?_
          refine j_istore (q := 60) dX6_route_58 rfl (by decide) ?_
          refine j_iconst (q := 61) (v := (-1)) dX6_route_60 rfl (by decide) ?_
          refine j_istore (q := 63) dX6_route_61 rfl (by decide) ?_
          refine j_iconst (q := 64) (v := 0) dX6_route_63 rfl (by decide) ?_
          refine j_istore (q := 66) dX6_route_64 rfl (by decide) ?_
          exact K66 ((c + 1) ^ i) 0 m _ (by omega) (scr.rf x m)
        · exact absurd (Int32.le_refl _) h36
      | succ u ih =>
        intro i hi'
        refine j_iload (q := 35) dX6_route_33 rfl (by rfl) ?_
        refine j_iload_n (q := 36) dX6_route_35 rfl (by rfl) ?_
        refine j_icmp_ge (q := 39) (tgt := 57) dX6_route_36 rfl (by decide) (fun h36 => ?_) (fun h36 => ?_)
        · exact absurd h36 (nI_ge (by omega) (by omega))
        · refine j_iload_n (q := 40) dX6_route_39 rfl (by rfl) ?_
          refine j_aload_n (q := 41) dX6_route_40 rfl (by rfl) ?_
          refine j_getr (q := 44) dX6_route_41 rfl fX6_10 (by assumption) (by rfl) ?_
          refine j_geti (q := 47) dX6_route_44 rfl fX6_100 (by assumption) (by rfl) ?_
          refine j_iconst (q := 48) (v := 1) dX6_route_47 rfl (by decide) ?_
          rw [pg_3, hc]
          refine j_iadd (q := 49) dX6_route_48 rfl ?_
          refine j_imul (q := 50) dX6_route_49 rfl ?_
          rw [nI_1, pk_mul, ← Nat.pow_succ]
          refine j_istore_n (q := 51) dX6_route_50 rfl (by decide) ?_
          refine j_iinc (q := 54) dX6_route_51 rfl (by rfl) (by first | exact nI_inc _ | rfl) (by decide) ?_
          refine j_goto (tgt := 33) dX6_route_54 (by decide) ?_
          exact ih (i + 1) (by omega)
    refine j_iconst (q := 29) (v := 1) dX6_route_28 rfl (by decide) ?_
    refine j_istore_n (q := 30) dX6_route_29 rfl (by decide) ?_
    refine j_iconst (q := 31) (v := 0) dX6_route_30 rfl (by decide) ?_
    refine j_istore (q := 33) dX6_route_31 rfl (by decide) ?_
    exact K33 t 0 (by omega)
  refine j_iload_n (q := 10) dX6_route_9 rfl (by rfl) ?_
  refine j_if_eq (q := 13) (tgt := 28) dX6_route_10 rfl (by decide) (fun h10 => ?_) (fun h10 => ?_)
  · exact K28 (Or.inl h10)
  · refine j_iload_n (q := 14) dX6_route_13 rfl (by rfl) ?_
    refine j_bipush (q := 16) (v := 10) dX6_route_14 rfl (by decide) ?_
    refine j_bipush (q := 18) (v := 9) dX6_route_16 rfl (by decide) ?_
    refine j_iload_n (q := 19) dX6_route_18 rfl (by rfl) ?_
    refine j_iadd (q := 20) dX6_route_19 rfl ?_
    refine o_callSi (q := 23) dX6_route_20 rfl lX6_66 mwX6_within msX6_within (by rfl) rfl (Nat.le_of_ble_eq_true (by rfl)) (by decide) (cX_within E σ m hi _ _ _) ?_
    refine j_if_ne (q := 26) (tgt := 28) dX6_route_23 rfl (by decide) (fun h23 => ?_) (fun h23 => ?_)
    · exact K28 (Or.inr (sWi_1 h23))
    · refine j_iconst (q := 27) (v := (-1)) dX6_route_26 rfl (by decide) ?_
      refine o_iret hF rfl dX6_route_27 ?_
      rw [if_neg (fun h => h.2.elim h10 (sWi_0 h23))]
      exact ⟨rfl, scr.rf x m⟩
