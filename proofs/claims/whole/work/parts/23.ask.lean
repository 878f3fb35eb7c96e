theorem nI_dec (j : Nat) : nI (j + 1) + Int32.ofInt (-1) = nI j := by
  rw [show Int32.ofInt (-1) = -1 by decide]
  exact pk_m1 j
def agN (m : gMem) (x s k : Nat) : Nat → Nat
  | 0 => 0
  | b + 1 => if agB m x s k b then agN m x s k b + 1 else agN m x s k b
theorem agN_le (m : gMem) (x s k : Nat) : ∀ b, agN m x s k b ≤ b
  | 0 => Nat.le_refl 0
  | b + 1 => by
    have := agN_le m x s k b
    unfold agN
    by_cases h : agB m x s k b
    · rw [if_pos h]; omega
    · rw [if_neg h]; omega
theorem agN_mono (m : gMem) (x s k : Nat) {b' : Nat} (h : agB m x s k b') : ∀ b, b' < b → agN m x s k b' < agN m x s k b
  | 0, hb => absurd hb (by omega)
  | b + 1, hb => by
    by_cases hbb : b' = b
    · subst hbb; rw [agN, if_pos h]; omega
    · have := agN_mono m x s k h b (by omega)
      rw [agN]
      by_cases h2 : agB m x s k b
      · rw [if_pos h2]; omega
      · rw [if_neg h2]; exact this
def bitL (L : Int64) (n : Int32) : Int32 := ((L.toUInt64 >>> (n.toInt64.toUInt64 &&& Int64.toUInt64 63)).toInt64 &&& 1).toInt32
abbrev uB (m : gMem) (x k b : Nat) : Nat → Int32 := fun n => plU (plN (upd (pgC m (x + 1)) k (nI b)) n)
def upAt (m : gMem) (x s k : Nat) (v n : Int32) : Nat → Int32
  | 0 => 0
  | b + 1 => if agB m x s k b then upAt m x s k v n b + bitL (hB (uB m x k b) v 41) n else upAt m x s k v n b
theorem lw_up {m : gMem} {x s k : Nat} {v : Int32} {L : Nat → Int64} (n : Int32) : ∀ b, (∀ b', b' < b → agB m x s k b' → L (agN m x s k b') = hB (uB m x k b') v 41) → lwS L n (agN m x s k b) = upAt m x s k v n b
  | 0, _ => rfl
  | b + 1, h => by
    have ih := lw_up (m := m) (x := x) (s := s) (k := k) (v := v) (L := L) n b (fun b' hb => h b' (by omega))
    rw [agN, upAt]
    by_cases hag : agB m x s k b
    · rw [if_pos hag, if_pos hag, lwS, ih, h b (by omega) hag]
      rfl
    · rw [if_neg hag, if_neg hag, ih]
def wors (m : gMem) (x s k : Nat) (v : Int32) (n : Nat) : Int32 := sMax (upAt m x s k v (nI n) 10) (nI (agN m x s k 10) - upAt m x s k v (nI n) 10)
def askF (w : Nat → Int32) (f0 : Int32) : Nat → Int32 × Int32
  | 0 => (-4, f0)
  | n + 1 => if w n < (askF w f0 n).2 then (nI n, w n) else askF w f0 n
def xAsk (m : gMem) (x s : Nat) (v k : Int32) : Int32 := match ixV (pgC m (x + 1) 24) v with
  | none => -1
  | some j => if 0 ≤ k ∧ k ≤ 1 then (if (askF (wors m x s (4 * 2 + j) v) (nI (agN m x s (4 * 2 + j) 10)) 41).1 = -4 ∨ k = 0 then (askF (wors m x s (4 * 2 + j) v) (nI (agN m x s (4 * 2 + j) 10)) 41).1 else (askF (wors m x s (4 * 2 + j) v) (nI (agN m x s (4 * 2 + j) 10)) 41).2) else -1
theorem cX_ask (E : gEv) (σ : gSg) (m : gMem) (hi x s : Nat) (v k : Int32) (hN : gN σ x) (ho : okN m x) (hS : okS m x s) : gCo E yX6_ask cX6_ask 8 (some .int) 6 [.ref x, .int v, .int k] σ m hi (fun v' m' => v' = some (.int (xAsk m x s v k)) ∧ scr x m m') := by
  refine gCo.of mwX6_ask (Nat.le_of_ble_eq_true rfl) ?_
  intro F hF
  have hx := hN.1
  have h1 := hN.2.1.1
  have hN0 := hN
  obtain ⟨-, hG1, -, -, -, -, -, -, -, -, -, -, -, h27, h28, -⟩ := hN
  obtain ⟨c, hc, hc4⟩ := ho.1
  have hcn : cnt (pgC m (x + 1)) = c := by unfold cnt; rw [hc]; exact nI_clamp (by omega)
  unfold xAsk at hF
  refine j_aload_n (q := 1) dX6_ask_0 rfl (by rfl) ?_
  refine j_getr (q := 4) dX6_ask_1 rfl fX6_10 (by assumption) (by rfl) ?_
  refine j_iload_n (q := 5) dX6_ask_4 rfl (by rfl) ?_
  refine o_callVi (q := 8) dX6_ask_5 rfl lX6_126 mwX0_hasVent mvX0_hasVent cn0 (by assumption) (by rfl) rfl (Nat.le_of_ble_eq_true (by rfl)) (by decide) (cG_hasVent E σ m hi (x + 1) v hG1) ?_
  rcases ixV_or v hc (by omega) with ⟨hs, hv2⟩ | ⟨j, hj, ej, hs, hv2⟩
  · rw [hs]
    rw [hv2] at hF
    refine j_if_eq (q := 11) (tgt := 20) dX6_ask_8 rfl (by decide) (fun h8 => ?_) (fun h8 => ?_)
    · refine j_iconst (q := 21) (v := (-1)) dX6_ask_20 rfl (by decide) ?_
      refine o_iret hF rfl dX6_ask_21 ?_
      exact ⟨rfl, scr.rf x m⟩
    · exact absurd rfl h8
  rw [hs]
  rw [hv2] at hF
  dsimp only at hF
  subst ej
  refine j_if_eq (q := 11) (tgt := 20) dX6_ask_8 rfl (by decide) (fun h8 => ?_) (fun h8 => ?_)
  · exact absurd h8 (by decide)
  refine j_iload_n (q := 12) dX6_ask_11 rfl (by rfl) ?_
  refine j_iconst (q := 13) (v := 0) dX6_ask_12 rfl (by decide) ?_
  refine j_iconst (q := 14) (v := 1) dX6_ask_13 rfl (by decide) ?_
  refine o_callSi (q := 17) dX6_ask_14 rfl lX6_66 mwX6_within msX6_within (by rfl) rfl (Nat.le_of_ble_eq_true (by rfl)) (by decide) (cX_within E σ m hi _ _ _) ?_
  refine j_if_ne (q := 20) (tgt := 22) dX6_ask_17 rfl (by decide) (fun h17 => ?_) (fun h17 => ?_)
  · rw [if_pos (sWi_1 h17)] at hF
    have hle := agN_le m x s (4 * 2 + j)
    have K74 : ∀ (w n : Nat) (mi : gMem) (o7 : Option Value), n + w = 41 → scr x m mi → (∀ b', b' < 10 → agB m x s (4 * 2 + j) b' → mi.2 (x + 28) (agN m x s (4 * 2 + j) b') = hB (uB m x (4 * 2 + j) b') (nI j) 41) → (gJ E yX6_ask cX6_ask 8 (some .int) (gRm 6 0 0) F 74 ([some (.ref x), some (.int (nI j)), some (.int k), some (.int (nI (agN m x s (4 * 2 + j) 10))), some (.int (askF (wors m x s (4 * 2 + j) (nI j)) (nI (agN m x s (4 * 2 + j) 10)) n).1), some (.int (askF (wors m x s (4 * 2 + j) (nI j)) (nI (agN m x s (4 * 2 + j) 10)) n).2), some (.int (nI n)), o7]) ([]) 0 0 σ (mi) hi) := by
      intro w
      induction w with
      | zero =>
        intro n mi o7 hn hsc hL
        have : n = 41 := by omega
        subst this
        refine j_iload (q := 76) dX6_ask_74 rfl (by rfl) ?_
        refine j_bipush (q := 78) (v := 40) dX6_ask_76 rfl (by decide) ?_
        refine j_icmp_gt (q := 81) (tgt := 111) dX6_ask_78 rfl (by decide) (fun h78 => ?_) (fun h78 => ?_)
        · refine j_iload (q := 113) dX6_ask_111 rfl (by rfl) ?_
          refine j_bipush (q := 115) (v := (-4)) dX6_ask_113 rfl (by decide) ?_
          refine j_icmp_eq (q := 118) (tgt := 122) dX6_ask_115 rfl (by decide) (fun h115 => ?_) (fun h115 => ?_)
          · refine j_iload (q := 124) dX6_ask_122 rfl (by rfl) ?_
            refine j_goto (tgt := 129) dX6_ask_124 (by decide) ?_
            refine o_iret hF rfl dX6_ask_129 ?_
            rw [if_pos (Or.inl h115)]
            exact ⟨rfl, hsc⟩
          · refine j_iload_n (q := 119) dX6_ask_118 rfl (by rfl) ?_
            refine j_if_ne (q := 122) (tgt := 127) dX6_ask_119 rfl (by decide) (fun h119 => ?_) (fun h119 => ?_)
            · refine j_iload (q := 129) dX6_ask_127 rfl (by rfl) ?_
              refine o_iret hF rfl dX6_ask_129 ?_
              rw [if_neg (fun h => h.elim h115 h119)]
              exact ⟨rfl, hsc⟩
            · refine j_iload (q := 124) dX6_ask_122 rfl (by rfl) ?_
              refine j_goto (tgt := 129) dX6_ask_124 (by decide) ?_
              refine o_iret hF rfl dX6_ask_129 ?_
              rw [if_pos (Or.inr (by first | exact h119 | exact Decidable.not_not.mp h119))]
              exact ⟨rfl, hsc⟩
        · exact absurd (show (40 : Int32) < nI 41 by decide) h78
      | succ w ih =>
        intro n mi o7 hn hsc hL
        refine j_iload (q := 76) dX6_ask_74 rfl (by rfl) ?_
        refine j_bipush (q := 78) (v := 40) dX6_ask_76 rfl (by decide) ?_
        refine j_icmp_gt (q := 81) (tgt := 111) dX6_ask_78 rfl (by decide) (fun h78 => ?_) (fun h78 => ?_)
        · exact absurd h78 (nI_nlt (a := 40) (b := n) (by omega) (by omega))
        · refine j_aload_n (q := 82) dX6_ask_81 rfl (by rfl) ?_
          refine j_iload (q := 84) dX6_ask_82 rfl (by rfl) ?_
          refine j_iload_n (q := 85) dX6_ask_84 rfl (by rfl) ?_
          have hLW := cX_leftAtWorst E σ mi hi x (agN m x s (4 * 2 + j) 10) (nI n) hN0 (hle 10)
          rw [lw_up (nI n) 10 hL] at hLW
          refine o_callVi (q := 88) dX6_ask_85 rfl lX6_288 mwX6_leftAtWorst mvX6_leftAtWorst cn6 (by assumption) (by rfl) rfl (Nat.le_of_ble_eq_true (by rfl)) (by decide) (hLW) ?_
          refine j_istore (q := 90) dX6_ask_88 rfl (by decide) ?_
          refine j_iload (q := 92) dX6_ask_90 rfl (by rfl) ?_
          refine j_iload (q := 94) dX6_ask_92 rfl (by rfl) ?_
          refine j_icmp_ge (q := 97) (tgt := 105) dX6_ask_94 rfl (by decide) (fun h94 => ?_) (fun h94 => ?_)
          · refine j_iinc (q := 108) dX6_ask_105 rfl (by rfl) (by first | exact nI_inc _ | rfl) (by decide) ?_
            refine j_goto (tgt := 74) dX6_ask_108 (by decide) ?_
            have := ih (n + 1) mi (some (.int (wors m x s (4 * 2 + j) (nI j) n))) (by omega) hsc hL
            rw [askF, if_neg (Int32.not_lt.mpr (show (askF (wors m x s (4 * 2 + j) (nI j)) (nI (agN m x s (4 * 2 + j) 10)) n).2 ≤ wors m x s (4 * 2 + j) (nI j) n from h94))] at this
            exact this
          · refine j_iload (q := 99) dX6_ask_97 rfl (by rfl) ?_
            refine j_istore (q := 101) dX6_ask_99 rfl (by decide) ?_
            refine j_iload (q := 103) dX6_ask_101 rfl (by rfl) ?_
            refine j_istore (q := 105) dX6_ask_103 rfl (by decide) ?_
            refine j_iinc (q := 108) dX6_ask_105 rfl (by rfl) (by first | exact nI_inc _ | rfl) (by decide) ?_
            refine j_goto (tgt := 74) dX6_ask_108 (by decide) ?_
            have := ih (n + 1) mi (some (.int (wors m x s (4 * 2 + j) (nI j) n))) (by omega) hsc hL
            rw [askF, if_pos (Int32.not_le.mp (show ¬ (askF (wors m x s (4 * 2 + j) (nI j)) (nI (agN m x s (4 * 2 + j) 10)) n).2 ≤ wors m x s (4 * 2 + j) (nI j) n from h94))] at this
            exact this
    have K27 : ∀ (w b : Nat) (mi : gMem), b + w = 10 → scr x m mi → (∀ b', b' < b → agB m x s (4 * 2 + j) b' → mi.2 (x + 28) (agN m x s (4 * 2 + j) b') = hB (uB m x (4 * 2 + j) b') (nI j) 41) → (gJ E yX6_ask cX6_ask 8 (some .int) (gRm 6 0 0) F 27 ([some (.ref x), some (.int (nI j)), some (.int k), some (.int (nI (agN m x s (4 * 2 + j) b))), some (.int (nI b)), none, none, none]) ([]) 0 0 σ (mi) hi) := by
      intro w
      induction w with
      | zero =>
        intro b mi hb hsc hL
        have : b = 10 := by omega
        subst this
        refine j_iload (q := 29) dX6_ask_27 rfl (by rfl) ?_
        refine j_bipush (q := 31) (v := 9) dX6_ask_29 rfl (by decide) ?_
        refine j_icmp_gt (q := 34) (tgt := 64) dX6_ask_31 rfl (by decide) (fun h31 => ?_) (fun h31 => ?_)
        · refine j_bipush (q := 66) (v := (-4)) dX6_ask_64 rfl (by decide) ?_
          refine j_istore (q := 68) dX6_ask_66 rfl (by decide) ?_
          refine j_iload_n (q := 69) dX6_ask_68 rfl (by rfl) ?_
          refine j_istore (q := 71) dX6_ask_69 rfl (by decide) ?_
          refine j_iconst (q := 72) (v := 0) dX6_ask_71 rfl (by decide) ?_
          refine j_istore (q := 74) dX6_ask_72 rfl (by decide) ?_
          exact K74 41 0 mi _ (by omega) hsc hL
        · exact absurd (show (9 : Int32) < nI 10 by decide) h31
      | succ w ih =>
        intro b mi hb hsc hL
        refine j_iload (q := 29) dX6_ask_27 rfl (by rfl) ?_
        refine j_bipush (q := 31) (v := 9) dX6_ask_29 rfl (by decide) ?_
        refine j_icmp_gt (q := 34) (tgt := 64) dX6_ask_31 rfl (by decide) (fun h31 => ?_) (fun h31 => ?_)
        · exact absurd h31 (nI_nlt (a := 9) (b := b) (by omega) (by omega))
        · refine j_aload_n (q := 35) dX6_ask_34 rfl (by rfl) ?_
          refine j_iload_n (q := 36) dX6_ask_35 rfl (by rfl) ?_
          refine j_iload (q := 38) dX6_ask_36 rfl (by rfl) ?_
          refine o_callVx (q := 41) dX6_ask_38 rfl lX6_274 mwX6_goesAsSeenByNerve mvX6_goesAsSeenByNerve cn6 (by assumption) (by rfl) rfl (Nat.le_of_ble_eq_true (by rfl)) (by decide) (cX_byNerve E σ m mi hi x s j b hN0 ho hS hsc (by omega)) ?_
          rintro v m1 ⟨rfl, e2, e3, e4⟩
          by_cases hag : agB m x s (4 * 2 + j) b
          · rw [if_pos hag]
            refine j_if_eq (q := 44) (tgt := 58) dX6_ask_41 rfl (by decide) (fun h41 => ?_) (fun h41 => ?_)
            · exact absurd h41 (by decide)
            · have hb10 := hle b
              have hix : gIdx (nI (agN m x s (4 * 2 + j) b)) 10 (agN m x s (4 * 2 + j) b) := gIdx.of rfl (by omega) (by decide)
              refine j_aload_n (q := 45) dX6_ask_44 rfl (by rfl) ?_
              refine j_getr (q := 48) dX6_ask_45 rfl fX6_55 (by assumption) (by rfl) ?_
              refine j_iload_n (q := 49) dX6_ask_48 rfl (by rfl) ?_
              refine j_aload_n (q := 50) dX6_ask_49 rfl (by rfl) ?_
              refine j_iload_n (q := 51) dX6_ask_50 rfl (by rfl) ?_
              refine o_callVl (q := 54) dX6_ask_51 rfl lX6_284 mwX6_hoursOf mvX6_hoursOf cn6 (by assumption) (by rfl) rfl (Nat.le_of_ble_eq_true (by rfl)) (by decide) (cX_hoursOf E σ m1 hi x (nI j) hN0) ?_
              rw [hB_U (U := uB m x (4 * 2 + j) b) (nI j) 41 e3]
              refine j_lastore (q := 55) dX6_ask_54 rfl (by assumption) (by assumption) ?_
              refine j_iinc (q := 58) dX6_ask_55 rfl (by rfl) (by first | exact nI_inc _ | rfl) (by decide) ?_
              refine j_iinc (q := 61) dX6_ask_58 rfl (by rfl) (by first | exact nI_inc _ | rfl) (by decide) ?_
              refine j_goto (tgt := 27) dX6_ask_61 (by decide) ?_
              have := ih (b + 1) (gWl m1 (x + 28) (agN m x s (4 * 2 + j) b) (hB (uB m x (4 * 2 + j) b) (nI j) 41)) (by omega) (fun q hq => e2 q hq) (fun b' hb' hag' => by
                rw [gWl_2]
                by_cases hbb : b' = b
                · subst hbb; rw [if_pos ⟨rfl, rfl⟩]
                · have hlt := agN_mono m x s (4 * 2 + j) hag' b (by omega)
                  rw [if_neg (fun h => by omega), e4]
                  exact hL b' (by omega) hag')
              rw [agN, if_pos hag] at this
              exact this
          · rw [if_neg hag]
            refine j_if_eq (q := 44) (tgt := 58) dX6_ask_41 rfl (by decide) (fun h41 => ?_) (fun h41 => ?_)
            · refine j_iinc (q := 61) dX6_ask_58 rfl (by rfl) (by first | exact nI_inc _ | rfl) (by decide) ?_
              refine j_goto (tgt := 27) dX6_ask_61 (by decide) ?_
              have := ih (b + 1) m1 (by omega) e2 (fun b' hb' hag' => by
                by_cases hbb : b' = b
                · subst hbb; exact absurd hag' hag
                · rw [e4]; exact hL b' (by omega) hag')
              rw [agN, if_neg hag] at this
              exact this
            · exact absurd rfl h41
    refine j_iconst (q := 23) (v := 0) dX6_ask_22 rfl (by decide) ?_
    refine j_istore_n (q := 24) dX6_ask_23 rfl (by decide) ?_
    refine j_iconst (q := 25) (v := 0) dX6_ask_24 rfl (by decide) ?_
    refine j_istore (q := 27) dX6_ask_25 rfl (by decide) ?_
    exact K27 10 0 m (by omega) (scr.rf x m) (fun b' hb' => absurd hb' (by omega))
  · refine j_iconst (q := 21) (v := (-1)) dX6_ask_20 rfl (by decide) ?_
    refine o_iret hF rfl dX6_ask_21 ?_
    rw [if_neg (sWi_0 h17)]
    exact ⟨rfl, scr.rf x m⟩
/-! routes: ways are numbers, their figures the hours' choices -/
def dg (q w n i : Nat) : Nat := w / q ^ (n - 1 - i) % q
theorem cX_companyOnRoute (E : gEv) (σ : gSg) (m : gMem) (hi x w n i c : Nat) (hN : gN σ x) (hc : pgC m (x + 1) 24 = nI c) (hc4 : c ≤ 4) (hin : i < n) (hn : n ≤ 4) (hw : w < 2 ^ 30) : gCo E yX6_companyOnRoute cX6_companyOnRoute 7 (some .int) 1 [.ref x, .int (nI w), .int (nI n), .int (nI i)] σ m hi (gX (some (.int (sCho (pgC m (x + 1)) (nI (dg (c + 1) w n i))))) m) := by
  refine gCo.of mwX6_companyOnRoute (Nat.le_of_ble_eq_true rfl) ?_
  intro F hF
  have hx := hN.1
  have h1 := hN.2.1.1
  have hz : ¬ nI (c + 1) = 0 := nI_ne0 (by omega) (by omega)
  have K23 : ∀ (t : Nat) (v : Nat), i + t ≤ n - 1 → v = w / (c + 1) ^ (n - 1 - (i + t)) → (gJ E yX6_companyOnRoute cX6_companyOnRoute 7 (some .int) (gRm 1 0 0) F 23 ([some (.ref x), some (.int (nI w)), some (.int (nI n)), some (.int (nI i)), some (.int (nI (c + 1))), some (.int (nI v)), some (.int (nI (i + t)))]) ([]) 0 0 σ (m) hi) := by
    intro t
    induction t with
    | zero =>
      intro v ht hv
      have hvw : v ≤ w := by rw [hv]; exact Nat.div_le_self _ _
      refine j_iload (q := 25) dX6_companyOnRoute_23 rfl (by rfl) ?_
      refine j_iload_n (q := 26) dX6_companyOnRoute_25 rfl (by rfl) ?_
      refine j_icmp_le (q := 29) (tgt := 42) dX6_companyOnRoute_26 rfl (by decide) (fun h26 => ?_) (fun h26 => ?_)
      · refine j_aload_n (q := 43) dX6_companyOnRoute_42 rfl (by rfl) ?_
        refine j_getr (q := 46) dX6_companyOnRoute_43 rfl fX6_10 (by assumption) (by rfl) ?_
        refine j_iload (q := 48) dX6_companyOnRoute_46 rfl (by rfl) ?_
        refine j_iload (q := 50) dX6_companyOnRoute_48 rfl (by rfl) ?_
        refine j_irem (q := 51) dX6_companyOnRoute_50 rfl (by assumption) ?_
        rw [pk_rem (by omega) (by omega) (by omega)]
        refine o_callVi (q := 54) dX6_companyOnRoute_51 rfl lX6_204 mwX0_choice mvX0_choice cn0 (by assumption) (by rfl) rfl (Nat.le_of_ble_eq_true (by rfl)) (by decide) (cG_choice E σ m hi (x + 1) _ hN.2.1) ?_
        refine o_iret hF rfl dX6_companyOnRoute_54 ?_
        refine ⟨?_, rfl⟩
        rw [hv]
        rfl
      · exact absurd (Int32.le_refl _) h26
    | succ t ih =>
      intro v ht hv
      have hvw : v ≤ w := by rw [hv]; exact Nat.div_le_self _ _
      refine j_iload (q := 25) dX6_companyOnRoute_23 rfl (by rfl) ?_
      refine j_iload_n (q := 26) dX6_companyOnRoute_25 rfl (by rfl) ?_
      refine j_icmp_le (q := 29) (tgt := 42) dX6_companyOnRoute_26 rfl (by decide) (fun h26 => ?_) (fun h26 => ?_)
      · exact absurd h26 (nI_ge (by omega) (by omega))
      · refine j_iload (q := 31) dX6_companyOnRoute_29 rfl (by rfl) ?_
        refine j_iload (q := 33) dX6_companyOnRoute_31 rfl (by rfl) ?_
        refine j_idiv (q := 34) dX6_companyOnRoute_33 rfl (by assumption) ?_
        rw [pk_div (by omega) (by omega) (by omega)]
        refine j_istore (q := 36) dX6_companyOnRoute_34 rfl (by decide) ?_
        refine j_iinc (q := 39) dX6_companyOnRoute_36 rfl (by rfl) (by first | exact nI_dec _ | rfl) (by decide) ?_
        refine j_goto (tgt := 23) dX6_companyOnRoute_39 (by decide) ?_
        refine ih (v / (c + 1)) (by omega) ?_
        rw [hv, Nat.div_div_eq_div_mul, ← Nat.pow_succ]
        congr 2
        omega
  refine j_iconst (q := 1) (v := 1) dX6_companyOnRoute_0 rfl (by decide) ?_
  refine j_aload_n (q := 2) dX6_companyOnRoute_1 rfl (by rfl) ?_
  refine j_getr (q := 5) dX6_companyOnRoute_2 rfl fX6_10 (by assumption) (by rfl) ?_
  refine j_geti (q := 8) dX6_companyOnRoute_5 rfl fX6_100 (by assumption) (by rfl) ?_
  refine j_iconst (q := 9) (v := 1) dX6_companyOnRoute_8 rfl (by decide) ?_
  refine j_iadd (q := 10) dX6_companyOnRoute_9 rfl ?_
  rw [pg_3, hc, nI_1]
  refine j_mmax (q := 13) dX6_companyOnRoute_10 rfl lX6_222 ⟨⟨by decide, Nat.le_of_ble_eq_true (by rfl)⟩, by decide, by decide⟩ ?_
  rw [show (if (1 : Int32) < nI (c + 1) then nI (c + 1) else 1) = nI (c + 1) by
    by_cases h0 : c = 0
    · subst h0; rfl
    · exact if_pos (show nI 1 < nI (c + 1) from nI_lt (by omega) (by omega))]
  refine j_istore (q := 15) dX6_companyOnRoute_13 rfl (by decide) ?_
  refine j_iload_n (q := 16) dX6_companyOnRoute_15 rfl (by rfl) ?_
  refine j_istore (q := 18) dX6_companyOnRoute_16 rfl (by decide) ?_
  refine j_iload_n (q := 19) dX6_companyOnRoute_18 rfl (by rfl) ?_
  refine j_iconst (q := 20) (v := 1) dX6_companyOnRoute_19 rfl (by decide) ?_
  refine j_isub (q := 21) dX6_companyOnRoute_20 rfl ?_
  rw [show nI n - 1 = nI (i + (n - 1 - i)) by
    have e : n = (i + (n - 1 - i)) + 1 := by omega
    rw [e, nI_pred]
    congr 1
    omega]
  refine j_istore (q := 23) dX6_companyOnRoute_21 rfl (by decide) ?_
  exact K23 (n - 1 - i) w (by omega) (by rw [show n - 1 - (i + (n - 1 - i)) = 0 by omega, Nat.pow_zero, Nat.div_one])
