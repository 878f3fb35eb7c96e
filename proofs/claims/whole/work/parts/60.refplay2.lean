/-! the reference: play, all of it -/
theorem rsc.m8 {t : Nat} {m m' : gMem} (h : rsc t m m') (f : Nat → Int32) : rsc t m (mR m' (t + 8) f) := ⟨fun q a => by rw [mR_n (by omega)]; exact h.1 q a, fun r a => by rw [mR_n (by omega)]; exact h.2.1 r a, fun r a => by rw [mR_n (by omega)]; exact h.2.2 r a⟩
theorem cM_play (E : gEv) (σ : gSg) (m : gMem) (hi t : Nat) (n k : Int32) (hR : gR σ t) (ho : okM m t) : gCo E yX7_play cX7_play 8 (some .int) 3 [.ref t, .int n, .int k] σ m hi (fun v' m' => v' = some (.int (xPlay (pgR m t 0) n k)) ∧ rsc t m m') := by
  refine gCo.of mwX7_play (Nat.le_of_ble_eq_true rfl) ?_
  intro F hF
  have h0 := hR.1
  have h1 := hR.2.1
  obtain ⟨-, -, -, -, -, -, s6, s7, s8, -⟩ := id hR
  obtain ⟨c, hc, hc4⟩ := id ho.1
  have hcn : cnt (pgR m t 0) = c := by unfold cnt; rw [hc]; exact nI_clamp (by omega)
  have i24 : gIdx 24 318 24 := gIdx.of rfl (by decide) (by decide)
  have ix0 : gIdx 0 4 0 := gIdx.of rfl (by omega) (by decide)
  have h2z : ¬ (2 : Int32) = 0 := by decide
  unfold xPlay at hF
  have bad : ¬ ((0 ≤ n ∧ n ≤ 4) ∧ (0 ≤ k ∧ k ≤ 1)) → (gJ E yX7_play cX7_play 8 (some .int) (gRm 3 0 0) F 22 ([some (.ref t), some (.int n), some (.int k), none, none, none, none, none]) ([]) 0 0 σ (m) hi) := by
    intro hb
    rw [if_neg hb] at hF
    refine j_iconst (q := 23) (v := (-1)) dX7_play_22 rfl (by decide) ?_
    refine o_iret hF rfl dX7_play_23 ?_
    exact ⟨rfl, rsc.rf t m⟩
  refine j_iload_n (q := 1) dX7_play_0 rfl (by rfl) ?_
  refine j_i2l (q := 2) dX7_play_1 rfl ?_
  refine j_lconst (q := 3) (v := 0) dX7_play_2 rfl (by decide) ?_
  refine j_ldc2 (q := 6) dX7_play_3 rfl kX7_189 ?_
  refine o_callSi (q := 9) dX7_play_6 rfl lX7_55 mwX7_in msX7_in (by rfl) rfl (Nat.le_of_ble_eq_true (by rfl)) (by first | decide | omega) (cM_inI E σ m hi n 0 4 (by decide) (by decide)) ?_
  refine j_if_eq (q := 12) (tgt := 22) dX7_play_9 rfl (by decide) (fun h9 => ?_) (fun h9 => ?_)
  · exact bad (fun h => sWi_0 h9 h.1)
  refine j_iload_n (q := 13) dX7_play_12 rfl (by rfl) ?_
  refine j_i2l (q := 14) dX7_play_13 rfl ?_
  refine j_lconst (q := 15) (v := 0) dX7_play_14 rfl (by decide) ?_
  refine j_lconst (q := 16) (v := 1) dX7_play_15 rfl (by decide) ?_
  refine o_callSi (q := 19) dX7_play_16 rfl lX7_55 mwX7_in msX7_in (by rfl) rfl (Nat.le_of_ble_eq_true (by rfl)) (by first | decide | omega) (cM_inI E σ m hi k 0 1 (by decide) (by decide)) ?_
  refine j_if_ne (q := 22) (tgt := 24) dX7_play_19 rfl (by decide) (fun h19 => ?_) (fun h19 => ?_)
  case refine_2 => exact bad (fun h => sWi_0 (by first | exact h19 | exact Decidable.not_not.mp h19) h.2)
  rw [if_pos ⟨sWi_1 h9, sWi_1 h19⟩] at hF
  obtain ⟨u, hu, eu⟩ := swN_wi (n := 4) (by decide) h9
  subst eu
  rw [nI_clamp (by omega)] at hF
  refine j_iload_n (q := 25) dX7_play_24 rfl (by rfl) ?_
  by_cases hu0 : u = 0
  · subst hu0
    rw [if_pos (show nI 0 = 0 from rfl)] at hF
    refine j_if_ne (q := 28) (tgt := 39) dX7_play_25 rfl (by decide) (fun h25 => ?_) (fun h25 => ?_)
    · exact absurd rfl h25
    refine j_iload_n (q := 29) dX7_play_28 rfl (by rfl) ?_
    refine j_if_ne (q := 32) (tgt := 36) dX7_play_29 rfl (by decide) (fun h29 => ?_) (fun h29 => ?_)
    · rw [if_neg h29] at hF
      refine j_bipush (q := 38) (v := (-4)) dX7_play_36 rfl (by decide) ?_
      refine o_iret hF rfl dX7_play_38 ?_
      exact ⟨rfl, rsc.rf t m⟩
    · rw [if_pos (by first | exact h29 | exact Decidable.not_not.mp h29)] at hF
      refine j_iconst (q := 33) (v := 0) dX7_play_32 rfl (by decide) ?_
      refine j_goto (tgt := 38) dX7_play_33 (by decide) ?_
      refine o_iret hF rfl dX7_play_38 ?_
      exact ⟨rfl, rsc.rf t m⟩
  have hune : ¬ nI u = 0 := nI_ne0 (by omega) (by omega)
  rw [if_neg hune] at hF
  refine j_if_ne (q := 28) (tgt := 39) dX7_play_25 rfl (by decide) (fun h25 => ?_) (fun h25 => ?_)
  case refine_2 => exact absurd (by first | exact h25 | exact Decidable.not_not.mp h25) hune
  have hoC : okC (pgR m t 0) := ho.1
  have e24 : m.1 (t + 1) 24 = nI c := by rw [r0_j m t (by omega)]; exact hc
  generalize hG : pgR m t 0 = g at *
  have hg0 : pg0 g := by rw [← hG]; exact pgR_0 m t 0
  have hE : (2 : Int32) * nI c + 2 = nI (2 * c + 2) := by rw [show (2 : Int32) * nI c = nI (2 * c) from pk_mul 2 c]; exact nI_add (2 * c) 2
  have hpw : ∀ i, i ≤ u → (2 * c + 2) ^ i ≤ 10000 ∧ 0 < (2 * c + 2) ^ i := fun i hi' => ⟨by
    have a := Nat.pow_le_pow_left (show 2 * c + 2 ≤ 10 by omega) i
    have b := Nat.pow_le_pow_right (show 0 < 10 by decide) (show i ≤ 4 by omega)
    exact Nat.le_trans a b, Nat.pow_pos (by omega)⟩
  have hpu := (hpw u (Nat.le_refl u)).1
  have K95 : ∀ (S : plS), fre u 0 S → ∀ (z w : Nat) (mi : gMem) (o6 o7 : Option Value), w + z = (2 * c + 2) ^ u → rsc t m mi → mi.1 (t + 6) = (fld (2 * c + 2) u g 0 w S).1 → mi.1 (t + 7) = (fld (2 * c + 2) u g 0 w S).2.1 → mi.1 t 21 = (fld (2 * c + 2) u g 0 w S).2.2 → (gJ E yX7_play cX7_play 8 (some .int) (gRm 3 0 0) F 95 ([some (.ref t), some (.int (nI u)), some (.int k), some (.int (nI (2 * c + 2))), some (.int (nI ((2 * c + 2) ^ u))), some (.int (nI w)), o6, o7]) ([]) 0 0 σ (mi) hi) := by
    intro S hS z
    induction z with
    | zero =>
      intro w mi o6 o7 hw hsc q6 q7 q21
      have hwe : w = (2 * c + 2) ^ u := by omega
      subst hwe
      obtain ⟨a1, a2⟩ := fld_all hoC hcn hu (by omega) hS
      refine j_iload (q := 97) dX7_play_95 rfl (by rfl) ?_
      refine j_iload (q := 99) dX7_play_97 rfl (by rfl) ?_
      refine j_icmp_ge (q := 102) (tgt := 196) dX7_play_99 rfl (by decide) (fun h99 => ?_) (fun h99 => ?_)
      · refine j_iload_n (q := 197) dX7_play_196 rfl (by rfl) ?_
        refine j_if_ne (q := 200) (tgt := 209) dX7_play_197 rfl (by decide) (fun h197 => ?_) (fun h197 => ?_)
        · rw [if_neg h197] at hF
          refine j_aload_n (q := 210) dX7_play_209 rfl (by rfl) ?_
          refine j_geti (q := 213) dX7_play_210 rfl fX7_233 (by first | with_reducible assumption | assumption) (by rfl) ?_
          rw [q21, a2]
          refine o_iret hF rfl dX7_play_213 ?_
          exact ⟨rfl, hsc⟩
        · rw [if_pos (by first | exact h197 | exact Decidable.not_not.mp h197)] at hF
          refine j_aload_n (q := 201) dX7_play_200 rfl (by rfl) ?_
          refine j_getr (q := 204) dX7_play_201 rfl fX7_28 (by first | with_reducible assumption | assumption) (by rfl) ?_
          refine j_iconst (q := 205) (v := 0) dX7_play_204 rfl (by decide) ?_
          refine j_iaload (q := 206) dX7_play_205 rfl (by first | with_reducible assumption | assumption) (by first | with_reducible assumption | assumption) ?_
          rw [q7, a1]
          refine j_goto (tgt := 213) dX7_play_206 (by decide) ?_
          refine o_iret hF rfl dX7_play_213 ?_
          exact ⟨rfl, hsc⟩
      · exact absurd (Int32.le_refl _) h99
    | succ z ih =>
      intro w mi o6 o7 hw hsc q6 q7 q21
      refine j_iload (q := 97) dX7_play_95 rfl (by rfl) ?_
      refine j_iload (q := 99) dX7_play_97 rfl (by rfl) ?_
      refine j_icmp_ge (q := 102) (tgt := 196) dX7_play_99 rfl (by decide) (fun h99 => ?_) (fun h99 => ?_)
      · exact absurd h99 (nI_ge (by omega) (by omega))
      refine j_aload_n (q := 103) dX7_play_102 rfl (by rfl) ?_
      refine j_iload (q := 105) dX7_play_103 rfl (by rfl) ?_
      refine j_iload_n (q := 106) dX7_play_105 rfl (by rfl) ?_
      refine j_iload_n (q := 107) dX7_play_106 rfl (by rfl) ?_
      refine o_callVx (q := 110) dX7_play_107 rfl lX7_236 mwX7_figuresOf mvX7_figuresOf cn7 (by assumption) (by rfl) rfl (Nat.le_of_ble_eq_true (by rfl)) (by first | decide | omega) (cM_figuresOf E σ mi hi t w (2 * c + 2) u hR hu (by omega) (by omega) (by omega)) ?_
      rintro _ m1 ⟨rfl, fg, rfl, hfg⟩
      have hs1 : rsc t m (mR mi (t + 8) fg) := hsc.m8 fg
      have hCp := cM_copies E σ (mR mi (t + 8) fg) hi t 0 212 hR (by decide) (by decide) (by decide)
      rw [hs1.n, hG] at hCp
      have ep : ∀ i P, pgR (gQ (mR mi (t + 8) fg) t 212 (pgp (2 * c + 2) g i P)) t 212 = pgp (2 * c + 2) g i P := fun i P => pgR_gQ (pgp_0 hg0 (2 * c + 2) i P) _ _ _
      have hs2 : ∀ i P, rsc t m (gQ (mR mi (t + 8) fg) t 212 (pgp (2 * c + 2) g i P)) := fun i P => hs1.q (by decide) _
      have e8 : ∀ (G : Nat → Int32) (i : Nat), i < u → (gQ (mR mi (t + 8) fg) t 212 G).1 (t + 8) i = nI (dg (2 * c + 2) w u i) := fun G i hi' => by rw [gQ_out (by omega), mR_a]; exact hfg i hi'
      have hdg : ∀ i, dg (2 * c + 2) w u i < 2 * c + 2 := fun i => Nat.mod_lt _ (by omega)
      have K124 : ∀ (y i : Nat), i + y = u → (gJ E yX7_play cX7_play 8 (some .int) (gRm 3 0 0) F 124 ([some (.ref t), some (.int (nI u)), some (.int k), some (.int (nI (2 * c + 2))), some (.int (nI ((2 * c + 2) ^ u))), some (.int (nI w)), some (.int (nI (smp (2 * c + 2) g i (w / (2 * c + 2) ^ (u - i))))), some (.int (nI i))]) ([]) 0 0 σ (gQ (mR mi (t + 8) fg) t 212 (pgp (2 * c + 2) g i (w / (2 * c + 2) ^ (u - i)))) hi) := by
        intro y
        induction y with
        | zero =>
          intro i hiy
          have hiu : i = u := by omega
          subst hiu
          rw [show i - i = 0 by omega, Nat.pow_zero, Nat.div_one]
          have hGb := cM_goesBack E σ (gQ (mR mi (t + 8) fg) t 212 (pgp (2 * c + 2) g i w)) hi t (2 * c + 2) i (nI (smp (2 * c + 2) g i w)) (dg (2 * c + 2) w i) g (fld (2 * c + 2) i g 0 w S) hR hu (by omega) (by omega) (by omega) (by rw [(hs2 i w).n]; exact hG) (fun j hj => ⟨e8 _ j hj, by have := hdg j; omega⟩) (by rw [gQ_row (by omega), mR_n (by omega)]; exact q6) (by rw [gQ_row (by omega), mR_n (by omega)]; exact q7) (by rw [gQ_out (by omega), mR_n (by omega)]; exact q21)
          have hst : gbk (2 * c + 2) g (dg (2 * c + 2) w i) i (nI (smp (2 * c + 2) g i w)) (fld (2 * c + 2) i g 0 w S) = fld (2 * c + 2) i g 0 (w + 1) S := by
            show _ = pst (2 * c + 2) i g (0 + w) (fld (2 * c + 2) i g 0 w S)
            rw [Nat.zero_add]
            rfl
          rw [hst] at hGb
          refine j_iload (q := 126) dX7_play_124 rfl (by rfl) ?_
          refine j_iload_n (q := 127) dX7_play_126 rfl (by rfl) ?_
          refine j_icmp_ge (q := 130) (tgt := 182) dX7_play_127 rfl (by decide) (fun h127 => ?_) (fun h127 => ?_)
          · refine j_aload_n (q := 183) dX7_play_182 rfl (by rfl) ?_
            refine j_iload (q := 185) dX7_play_183 rfl (by rfl) ?_
            refine j_iload_n (q := 186) dX7_play_185 rfl (by rfl) ?_
            refine j_iload_n (q := 187) dX7_play_186 rfl (by rfl) ?_
            refine o_callVv (q := 190) dX7_play_187 rfl lX7_240 mwX7_goesBack mvX7_goesBack cn7 (by assumption) (by rfl) rfl (Nat.le_of_ble_eq_true (by rfl)) (by first | decide | omega) (hGb) ?_
            refine j_iinc (q := 193) dX7_play_190 rfl (by rfl) (by first | exact nI_inc _ | rfl) (by decide) ?_
            refine j_goto (tgt := 95) dX7_play_193 (by decide) ?_
            exact ih (w + 1) _ _ _ (by omega) (gbM_s (hs2 i w) _) (gbM_r6 _ _ _) (gbM_r7 _ _ _) (gbM_r21 _ _ _)
          · exact absurd (Int32.le_refl _) h127
        | succ y ihy =>
          intro i hiy
          have hd := hdg i
          have ixi : gIdx (nI i) 4 i := gIdx.of rfl (by omega) (by decide)
          have er : nI (dg (2 * c + 2) w u i) - nI (dg (2 * c + 2) w u i) / 2 * 2 = nI (dg (2 * c + 2) w u i % 2) := pk_rem (d := 2) (by omega) (by decide) (by decide)
          have ed : nI (dg (2 * c + 2) w u i) / 2 = nI (dg (2 * c + 2) w u i / 2) := pk_div (d := 2) (by omega) (by decide) (by decide)
          have hPd : w / (2 * c + 2) ^ (u - (i + 1)) / (2 * c + 2) = w / (2 * c + 2) ^ (u - i) := by
            rw [Nat.div_div_eq_div_mul, ← Nat.pow_succ]
            congr 2
            omega
          have hPm : w / (2 * c + 2) ^ (u - (i + 1)) % (2 * c + 2) = dg (2 * c + 2) w u i := by
            unfold dg
            rw [show u - (i + 1) = u - 1 - i by omega]
          have := ihy (i + 1) (by omega)
          rw [smp, pgp, hPd, hPm] at this
          generalize w / (2 * c + 2) ^ (u - i) = P at *
          obtain ⟨a1, a2⟩ := uN_e (pgp_C hoC (2 * c + 2) i P) (wt (dg (2 * c + 2) w u i)) (sCho g (nI (dg (2 * c + 2) w u i / 2)))
          have hWb := cM_whomBy E σ (gQ (mR mi (t + 8) fg) t 212 (pgp (2 * c + 2) g i P)) hi t (nI (dg (2 * c + 2) w u i / 2)) hR
          rw [(hs2 i P).n, hG] at hWb
          have hPa := cM_hourOn E σ (gQ (mR mi (t + 8) fg) t 212 (pgp (2 * c + 2) g i P)) hi t 212 (wt (dg (2 * c + 2) w u i)) (sCho g (nI (dg (2 * c + 2) w u i / 2))) hR (by decide) (by rw [ep]; exact pgp_C hoC _ _ _)
          rw [ep, gQ_gQ] at hPa
          obtain ⟨zz, hz16, hz⟩ := hrU_n (pgp_C hoC (2 * c + 2) i P) (wt (dg (2 * c + 2) w u i)) (sCho g (nI (dg (2 * c + 2) w u i / 2)))
          have K154 : ∀ W : Int32, W = wt (dg (2 * c + 2) w u i) → (gJ E yX7_play cX7_play 8 (some .int) (gRm 3 0 0) F 154 ([some (.ref t), some (.int (nI u)), some (.int k), some (.int (nI (2 * c + 2))), some (.int (nI ((2 * c + 2) ^ u))), some (.int (nI w)), some (.int (nI (smp (2 * c + 2) g i P))), some (.int (nI i))]) ([.int W, .int (nI 212), .ref t, .int (nI (smp (2 * c + 2) g i P))]) 0 0 σ (gQ (mR mi (t + 8) fg) t 212 (pgp (2 * c + 2) g i P)) hi) := by
            intro W hW
            subst hW
            refine j_aload_n (q := 155) dX7_play_154 rfl (by rfl) ?_
            refine j_aload_n (q := 156) dX7_play_155 rfl (by rfl) ?_
            refine j_getr (q := 159) dX7_play_156 rfl fX7_31 (by first | with_reducible assumption | assumption) (by rfl) ?_
            refine j_iload (q := 161) dX7_play_159 rfl (by rfl) ?_
            refine j_iaload (q := 162) dX7_play_161 rfl (by first | with_reducible assumption | assumption) (by first | with_reducible assumption | assumption) ?_
            rw [e8 _ i (by omega)]
            refine j_iconst (q := 163) (v := 2) dX7_play_162 rfl (by decide) ?_
            refine j_idiv (q := 164) dX7_play_163 rfl (by first | with_reducible assumption | assumption) ?_
            rw [ed]
            refine o_callVi (q := 167) dX7_play_164 rfl lX7_229 mwX7_whomBy mvX7_whomBy cn7 (by assumption) (by rfl) rfl (Nat.le_of_ble_eq_true (by rfl)) (by first | decide | omega) (hWb) ?_
            refine o_callVi (q := 170) dX7_play_167 rfl lX7_154 mwX7_hourOn mvX7_hourOn cn7 (by assumption) (by rfl) rfl (Nat.le_of_ble_eq_true (by rfl)) (by first | decide | omega) (hPa) ?_
            refine o_callSi (q := 173) dX7_play_170 rfl lX7_199 mwX7_bitsOf msX7_bitsOf (by rfl) rfl (Nat.le_of_ble_eq_true (by rfl)) (by first | decide | omega) (cM_bits E σ _ hi ⟨zz, hz16, hz⟩) ?_
            rw [a1]
            refine j_iadd (q := 174) dX7_play_173 rfl ?_
            rw [nI_add]
            refine j_istore (q := 176) dX7_play_174 rfl (by decide) ?_
            refine j_iinc (q := 179) dX7_play_176 rfl (by rfl) (by first | exact nI_inc _ | rfl) (by decide) ?_
            refine j_goto (tgt := 124) dX7_play_179 (by decide) ?_
            exact this
          refine j_iload (q := 126) dX7_play_124 rfl (by rfl) ?_
          refine j_iload_n (q := 127) dX7_play_126 rfl (by rfl) ?_
          refine j_icmp_ge (q := 130) (tgt := 182) dX7_play_127 rfl (by decide) (fun h127 => ?_) (fun h127 => ?_)
          · exact absurd h127 (nI_ge (by omega) (by omega))
          refine j_iload (q := 132) dX7_play_130 rfl (by rfl) ?_
          refine j_aload_n (q := 133) dX7_play_132 rfl (by rfl) ?_
          refine j_sipush (q := 136) (v := 212) dX7_play_133 rfl (by decide) ?_
          refine j_aload_n (q := 137) dX7_play_136 rfl (by rfl) ?_
          refine j_getr (q := 140) dX7_play_137 rfl fX7_31 (by first | with_reducible assumption | assumption) (by rfl) ?_
          refine j_iload (q := 142) dX7_play_140 rfl (by rfl) ?_
          refine j_iaload (q := 143) dX7_play_142 rfl (by first | with_reducible assumption | assumption) (by first | with_reducible assumption | assumption) ?_
          rw [e8 _ i (by omega)]
          refine j_iconst (q := 144) (v := 2) dX7_play_143 rfl (by decide) ?_
          refine j_irem (q := 145) dX7_play_144 rfl (by first | with_reducible assumption | assumption) ?_
          rw [er]
          by_cases hev : dg (2 * c + 2) w u i % 2 = 0
          · rw [hev]
            refine j_if_ne (q := 148) (tgt := 152) dX7_play_145 rfl (by decide) (fun h145 => ?_) (fun h145 => ?_)
            · exact absurd rfl h145
            refine j_iconst (q := 149) (v := 0) dX7_play_148 rfl (by decide) ?_
            refine j_goto (tgt := 154) dX7_play_149 (by decide) ?_
            exact K154 0 (if_pos hev).symm
          · refine j_if_ne (q := 148) (tgt := 152) dX7_play_145 rfl (by decide) (fun h145 => ?_) (fun h145 => ?_)
            · refine j_bipush (q := 154) (v := 9) dX7_play_152 rfl (by decide) ?_
              exact K154 9 (if_neg hev).symm
            · exact absurd (nI_inj (b := 0) (by omega) (by omega) (by first | exact h145 | exact Decidable.not_not.mp h145)) hev
      refine j_aload_n (q := 111) dX7_play_110 rfl (by rfl) ?_
      refine j_iconst (q := 112) (v := 0) dX7_play_111 rfl (by decide) ?_
      refine j_sipush (q := 115) (v := 212) dX7_play_112 rfl (by decide) ?_
      refine o_callVv (q := 118) dX7_play_115 rfl lX7_205 mwX7_copies mvX7_copies cn7 (by assumption) (by rfl) rfl (Nat.le_of_ble_eq_true (by rfl)) (by first | decide | omega) (hCp) ?_
      refine j_iconst (q := 119) (v := 0) dX7_play_118 rfl (by decide) ?_
      refine j_istore (q := 121) dX7_play_119 rfl (by decide) ?_
      refine j_iconst (q := 122) (v := 0) dX7_play_121 rfl (by decide) ?_
      refine j_istore (q := 124) dX7_play_122 rfl (by decide) ?_
      exact K124 u 0 (by omega)
  have K57 : ∀ (z i : Nat) (S : plS), i + z = u → (∀ j, j < i → S.1 j = 1000000 ∧ S.2.1 j = -1) → (gJ E yX7_play cX7_play 8 (some .int) (gRm 3 0 0) F 57 ([some (.ref t), some (.int (nI u)), some (.int k), some (.int (nI (2 * c + 2))), some (.int (nI ((2 * c + 2) ^ i))), some (.int (nI i)), none, none]) ([]) 0 0 σ (gbM m t S) hi) := by
    intro z
    induction z with
    | zero =>
      intro i S hiz hS
      have hiu : i = u := by omega
      subst hiu
      refine j_iload (q := 59) dX7_play_57 rfl (by rfl) ?_
      refine j_iload_n (q := 60) dX7_play_59 rfl (by rfl) ?_
      refine j_icmp_ge (q := 63) (tgt := 92) dX7_play_60 rfl (by decide) (fun h60 => ?_) (fun h60 => ?_)
      · refine j_iconst (q := 93) (v := 0) dX7_play_92 rfl (by decide) ?_
        refine j_istore (q := 95) dX7_play_93 rfl (by decide) ?_
        exact K95 S (fun j _ hj => hS j hj) ((2 * c + 2) ^ i) 0 _ _ _ (by omega) (gbM_s (rsc.rf t m) S) (gbM_r6 _ _ _) (gbM_r7 _ _ _) (gbM_r21 _ _ _)
      · exact absurd (Int32.le_refl _) h60
    | succ z ih =>
      intro i S hiz hS
      have ixi : gIdx (nI i) 4 i := gIdx.of rfl (by omega) (by decide)
      refine j_iload (q := 59) dX7_play_57 rfl (by rfl) ?_
      refine j_iload_n (q := 60) dX7_play_59 rfl (by rfl) ?_
      refine j_icmp_ge (q := 63) (tgt := 92) dX7_play_60 rfl (by decide) (fun h60 => ?_) (fun h60 => ?_)
      · exact absurd h60 (nI_ge (by omega) (by omega))
      refine j_iload (q := 65) dX7_play_63 rfl (by rfl) ?_
      refine j_iload_n (q := 66) dX7_play_65 rfl (by rfl) ?_
      refine j_imul (q := 67) dX7_play_66 rfl ?_
      rw [pk_mul, ← Nat.pow_succ]
      refine j_istore (q := 69) dX7_play_67 rfl (by decide) ?_
      refine j_aload_n (q := 70) dX7_play_69 rfl (by rfl) ?_
      refine j_getr (q := 73) dX7_play_70 rfl fX7_25 (by first | with_reducible assumption | assumption) (by rfl) ?_
      refine j_iload (q := 75) dX7_play_73 rfl (by rfl) ?_
      refine j_ldc (q := 77) dX7_play_75 rfl kX7_232 ?_
      refine j_iastore (q := 78) dX7_play_77 rfl (by first | with_reducible assumption | assumption) (by first | with_reducible assumption | assumption) ?_
      rw [gbM_6]
      refine j_aload_n (q := 79) dX7_play_78 rfl (by rfl) ?_
      refine j_getr (q := 82) dX7_play_79 rfl fX7_28 (by first | with_reducible assumption | assumption) (by rfl) ?_
      refine j_iload (q := 84) dX7_play_82 rfl (by rfl) ?_
      refine j_iconst (q := 85) (v := (-1)) dX7_play_84 rfl (by decide) ?_
      refine j_iastore (q := 86) dX7_play_85 rfl (by first | with_reducible assumption | assumption) (by first | with_reducible assumption | assumption) ?_
      rw [gbM_7]
      refine j_iinc (q := 89) dX7_play_86 rfl (by rfl) (by first | exact nI_inc _ | rfl) (by decide) ?_
      refine j_goto (tgt := 57) dX7_play_89 (by decide) ?_
      refine ih (i + 1) _ (by omega) (fun j hj => ?_)
      show upd S.1 i 1000000 j = 1000000 ∧ upd S.2.1 i (-1) j = -1
      by_cases hji : j = i
      · subst hji; rw [pk_us, pk_us]; exact ⟨rfl, rfl⟩
      · rw [pk_un hji, pk_un hji]; exact hS j (by omega)
  refine j_iconst (q := 40) (v := 2) dX7_play_39 rfl (by decide) ?_
  refine j_aload_n (q := 41) dX7_play_40 rfl (by rfl) ?_
  refine j_getr (q := 44) dX7_play_41 rfl fX7_7 (by first | with_reducible assumption | assumption) (by rfl) ?_
  refine j_bipush (q := 46) (v := 24) dX7_play_44 rfl (by decide) ?_
  refine j_iaload (q := 47) dX7_play_46 rfl (by first | with_reducible assumption | assumption) (by first | with_reducible assumption | assumption) ?_
  rw [e24]
  refine j_imul (q := 48) dX7_play_47 rfl ?_
  refine j_iconst (q := 49) (v := 2) dX7_play_48 rfl (by decide) ?_
  refine j_iadd (q := 50) dX7_play_49 rfl ?_
  rw [hE]
  refine j_istore_n (q := 51) dX7_play_50 rfl (by decide) ?_
  refine j_iconst (q := 52) (v := 1) dX7_play_51 rfl (by decide) ?_
  refine j_istore (q := 54) dX7_play_52 rfl (by decide) ?_
  refine j_iconst (q := 55) (v := 0) dX7_play_54 rfl (by decide) ?_
  refine j_istore (q := 57) dX7_play_55 rfl (by decide) ?_
  refine gJ.mm ?_ (K57 u 0 (m.1 (t + 6), m.1 (t + 7), m.1 t 21) (by omega) (fun j hj => absurd hj (by omega)))
  exact (gbM_self m t).symm
