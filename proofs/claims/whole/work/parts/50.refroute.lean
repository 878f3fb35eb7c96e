/-! the reference: route -/
theorem rt_k (k : Int32) {u : Nat} (hu : u ≤ 4) : (sWi (k - 10) 0 (nI u - 1) = 0 ∧ ¬ (10 ≤ k ∧ k ≤ 9 + nI u)) ∨ ∃ j, j < u ∧ k = nI (j + 10) ∧ sWi (k - 10) 0 (nI u - 1) = 1 ∧ (10 ≤ k ∧ k ≤ 9 + nI u) ∧ k - 10 = nI j := by
  have e9 : (9 : Int32) + nI u = nI (9 + u) := nI_add 9 u
  rw [sHas_wi _ (by omega), e9]
  rcases ixV_or (k - 10) (n := nI u) rfl (by omega) with ⟨hs, -⟩ | ⟨j, hj, ej, hs, -⟩
  · refine Or.inl ⟨hs, fun hk => ?_⟩
    obtain ⟨kk, hkk, ek⟩ := nI_of2 (x := k) (M := nI (9 + u)) (n := 9 + u) (nI_toInt (by omega)) (fun q => Int32.not_lt.mpr hk.1 (Int32.lt_of_lt_of_le q (by decide))) hk.2
    subst ek
    have hk10 : 10 ≤ kk := (nI_leI (a := 10) (by omega) (by omega)).mp hk.1
    rw [show nI kk - 10 = nI (kk - 10) from pk_sub (b := 10) hk10, sHas_in rfl (by omega) (by omega)] at hs
    exact absurd hs (by decide)
  · have ek : k = nI (j + 10) := by
      rw [← nI_add, ← ej]
      exact (Int32.sub_add_cancel k 10).symm
    refine Or.inr ⟨j, hj, ek, hs, ?_, ej⟩
    rw [ek]
    exact ⟨nI_le (a := 10) (by omega) (by omega), nI_le (by omega) (by omega)⟩
theorem rt_pw {q u i : Nat} (hi : i < u) : q ^ (u - i) = q ^ (u - 1 - i) * q := by
  rw [← Nat.pow_succ]
  congr 1
  omega
theorem cM_route (E : gEv) (σ : gSg) (m : gMem) (hi t : Nat) (n k : Int32) (hR : gR σ t) (ho : okM m t) : gCo E yX7_route cX7_route 11 (some .int) 3 [.ref t, .int n, .int k] σ m hi (fun v' m' => v' = some (.int (xRoute (pgR m t 0) n k)) ∧ rsc t m m') := by
  refine gCo.of mwX7_route (Nat.le_of_ble_eq_true rfl) ?_
  intro F hF
  have h0 := hR.1
  have h1 := hR.2.1
  obtain ⟨c, hc, hc4⟩ := id ho.1
  have hcn : cnt (pgR m t 0) = c := by unfold cnt; rw [hc]; exact nI_clamp (by omega)
  have i24 : gIdx 24 318 24 := gIdx.of rfl (by decide) (by decide)
  unfold xRoute at hF
  refine j_iload_n (q := 1) dX7_route_0 rfl (by rfl) ?_
  refine j_i2l (q := 2) dX7_route_1 rfl ?_
  refine j_lconst (q := 3) (v := 0) dX7_route_2 rfl (by decide) ?_
  refine j_ldc2 (q := 6) dX7_route_3 rfl kX7_189 ?_
  refine o_callSi (q := 9) dX7_route_6 rfl lX7_55 mwX7_in msX7_in (by rfl) rfl (Nat.le_of_ble_eq_true (by rfl)) (by first | decide | omega) (cM_inI E σ m hi n 0 4 (by decide) (by decide)) ?_
  refine j_if_eq (q := 12) (tgt := 32) dX7_route_9 rfl (by decide) (fun h9 => ?_) (fun h9 => ?_)
  · refine j_iconst (q := 33) (v := (-1)) dX7_route_32 rfl (by decide) ?_
    refine o_iret hF rfl dX7_route_33 ?_
    rw [if_neg (fun h => sWi_0 h9 h.1)]
    exact ⟨rfl, rsc.rf t m⟩
  obtain ⟨u, hu, eu⟩ := swN_wi (n := 4) (by decide) h9
  have hg := sWi_1 h9
  subst eu
  rw [nI_clamp (by omega), hcn] at hF
  have hp : (c + 1) ^ u ≤ 625 := by
    have a := Nat.pow_le_pow_left (show c + 1 ≤ 5 by omega) u
    have b := Nat.pow_le_pow_right (show 0 < 5 by decide) hu
    exact Nat.le_trans a b
  have hpi : ∀ i, i ≤ u → 0 < (c + 1) ^ i ∧ (c + 1) ^ i ≤ 625 := fun i hi' => ⟨Nat.pow_pos (by omega), Nat.le_trans (Nat.pow_le_pow_right (by omega) hi') hp⟩
  have hqz : ¬ nI (c + 1) = 0 := nI_ne0 (by omega) (by omega)
  have hoC : okC (pgR m t 0) := ho.1
  have hoB : okB (pgR m t 0) 9999 := ho.2
  have e24 : m.1 (t + 1) 24 = nI c := by rw [r0_j m t (by omega)]; exact hc
  generalize hG : pgR m t 0 = g at *
  have hg0 : pg0 g := by rw [← hG]; exact pgR_0 m t 0
  have K34 : (k = 0 ∨ ∃ j, j < u ∧ k = nI (j + 10) ∧ k - 10 = nI j) → (k = 0 ∨ (10 ≤ k ∧ k ≤ 9 + nI u)) → (gJ E yX7_route cX7_route 11 (some .int) (gRm 3 0 0) F 34 ([some (.ref t), some (.int (nI u)), some (.int k), none, none, none, none, none, none, none, none]) ([]) 0 0 σ (m) hi) := by
    intro hk2 hk
    rw [if_pos ⟨hg, hk⟩] at hF
    have hB : rtB g u = bst (rtF g u) nI 0 (-1) ((c + 1) ^ u) := by unfold rtB; rw [hcn]
    rw [hB] at hF
    have K77 : ∀ (z w : Nat) (mi : gMem) (o8 o9 o10 : Option Value), w + z = (c + 1) ^ u → rsc t m mi → (gJ E yX7_route cX7_route 11 (some .int) (gRm 3 0 0) F 77 ([some (.ref t), some (.int (nI u)), some (.int k), some (.int (nI (c + 1))), some (.int (nI ((c + 1) ^ u))), some (.int (bst (rtF g u) nI 0 (-1) w).2), some (.int (bst (rtF g u) nI 0 (-1) w).1), some (.int (nI w)), o8, o9, o10]) ([]) 0 0 σ (mi) hi) := by
      intro z
      induction z with
      | zero =>
        intro w mi o8 o9 o10 hw hsc
        have hwe : w = (c + 1) ^ u := by omega
        subst hwe
        obtain ⟨q, hq1, hq2⟩ := bst_w (rtF g u) (-1) ((c + 1) ^ u)
        generalize hbs : bst (rtF g u) nI 0 (-1) ((c + 1) ^ u) = bb at *
        rw [hq2] at hF ⊢
        rw [nI_clamp (by omega)] at hF
        refine j_iload (q := 79) dX7_route_77 rfl (by rfl) ?_
        refine j_iload (q := 81) dX7_route_79 rfl (by rfl) ?_
        refine j_icmp_ge (q := 84) (tgt := 191) dX7_route_81 rfl (by decide) (fun h81 => ?_) (fun h81 => ?_)
        · rcases hk2 with hk0 | ⟨j, hj, ek, ej⟩
          · subst hk0
            have hle : ∀ u, u ≤ 4 → ¬ (nI u - 1 ≤ (0 : Int32) - 10) := by decide
            rw [if_pos rfl] at hF
            refine j_iload_n (q := 192) dX7_route_191 rfl (by rfl) ?_
            refine j_iconst (q := 193) (v := 1) dX7_route_192 rfl (by decide) ?_
            refine j_isub (q := 194) dX7_route_193 rfl ?_
            refine j_istore (q := 196) dX7_route_194 rfl (by decide) ?_
            refine j_iload (q := 198) dX7_route_196 rfl (by rfl) ?_
            refine j_iload_n (q := 199) dX7_route_198 rfl (by rfl) ?_
            refine j_bipush (q := 201) (v := 10) dX7_route_199 rfl (by decide) ?_
            refine j_isub (q := 202) dX7_route_201 rfl ?_
            refine j_icmp_le (q := 205) (tgt := 221) dX7_route_202 rfl (by decide) (fun h202 => ?_) (fun h202 => ?_)
            · exact absurd h202 (hle u hu)
            refine j_iload_n (q := 206) dX7_route_205 rfl (by rfl) ?_
            refine j_if_le (q := 209) (tgt := 221) dX7_route_206 rfl (by decide) (fun h206 => ?_) (fun h206 => ?_)
            · refine j_iload_n (q := 222) dX7_route_221 rfl (by rfl) ?_
              refine j_if_ne (q := 225) (tgt := 230) dX7_route_222 rfl (by decide) (fun h222 => ?_) (fun h222 => ?_)
              · exact absurd rfl h222
              refine j_iload (q := 227) dX7_route_225 rfl (by rfl) ?_
              refine j_goto (tgt := 238) dX7_route_227 (by decide) ?_
              refine o_iret hF rfl dX7_route_238 ?_
              exact ⟨rfl, hsc⟩
            · exact absurd (Int32.le_refl 0) h206
          · have hkn : ¬ k = 0 := by rw [ek]; exact nI_ne0 (by omega) (by omega)
            have hkl : ¬ k ≤ 0 := by rw [ek]; exact nI_nle (by omega) (by omega)
            rw [if_neg hkn, ej, nI_clamp (by omega)] at hF
            have hWb := cM_whomBy E σ mi hi t (nI (dg (c + 1) q u j)) hR
            rw [hsc.n, hG] at hWb
            have K196 : ∀ (r v : Nat), v = j + r → v < u → (gJ E yX7_route cX7_route 11 (some .int) (gRm 3 0 0) F 196 ([some (.ref t), some (.int (nI u)), some (.int k), some (.int (nI (c + 1))), some (.int (nI ((c + 1) ^ u))), some (.int bb.2), some (.int (nI (q / (c + 1) ^ (u - 1 - v)))), some (.int (nI v)), o8, o9, o10]) ([]) 0 0 σ (mi) hi) := by
              intro r
              induction r with
              | zero =>
                intro v hv hvu
                have hvj : v = j := by omega
                subst hvj
                have hq31 : q / (c + 1) ^ (u - 1 - v) < 2 ^ 31 := Nat.lt_of_le_of_lt (Nat.div_le_self _ _) (by omega)
                have er : nI (q / (c + 1) ^ (u - 1 - v)) - nI (q / (c + 1) ^ (u - 1 - v)) / nI (c + 1) * nI (c + 1) = nI (dg (c + 1) q u v) := by
                  rw [pk_rem hq31 (by omega) (by omega)]
                  rfl
                refine j_iload (q := 198) dX7_route_196 rfl (by rfl) ?_
                refine j_iload_n (q := 199) dX7_route_198 rfl (by rfl) ?_
                refine j_bipush (q := 201) (v := 10) dX7_route_199 rfl (by decide) ?_
                refine j_isub (q := 202) dX7_route_201 rfl ?_
                rw [ej]
                refine j_icmp_le (q := 205) (tgt := 221) dX7_route_202 rfl (by decide) (fun h202 => ?_) (fun h202 => ?_)
                · refine j_iload_n (q := 222) dX7_route_221 rfl (by rfl) ?_
                  refine j_if_ne (q := 225) (tgt := 230) dX7_route_222 rfl (by decide) (fun h222 => ?_) (fun h222 => ?_)
                  · refine j_aload_n (q := 231) dX7_route_230 rfl (by rfl) ?_
                    refine j_iload (q := 233) dX7_route_231 rfl (by rfl) ?_
                    refine j_iload_n (q := 234) dX7_route_233 rfl (by rfl) ?_
                    refine j_irem (q := 235) dX7_route_234 rfl (by first | with_reducible assumption | assumption) ?_
                    rw [er]
                    refine o_callVi (q := 238) dX7_route_235 rfl lX7_229 mwX7_whomBy mvX7_whomBy cn7 (by assumption) (by rfl) rfl (Nat.le_of_ble_eq_true (by rfl)) (by first | decide | omega) (hWb) ?_
                    refine o_iret hF rfl dX7_route_238 ?_
                    exact ⟨rfl, hsc⟩
                  · exact absurd (by first | exact h222 | exact Decidable.not_not.mp h222) hkn
                · exact absurd (Int32.le_refl _) h202
              | succ r ih =>
                intro v hv hvu
                obtain ⟨v', rfl⟩ : ∃ v', v = v' + 1 := ⟨v - 1, by omega⟩
                have hq31 : q / (c + 1) ^ (u - 1 - (v' + 1)) < 2 ^ 31 := Nat.lt_of_le_of_lt (Nat.div_le_self _ _) (by omega)
                have ed : nI (q / (c + 1) ^ (u - 1 - (v' + 1))) / nI (c + 1) = nI (q / (c + 1) ^ (u - 1 - v')) := by
                  rw [pk_div hq31 (by omega) (by omega), Nat.div_div_eq_div_mul, ← Nat.pow_succ]
                  congr 3
                  omega
                refine j_iload (q := 198) dX7_route_196 rfl (by rfl) ?_
                refine j_iload_n (q := 199) dX7_route_198 rfl (by rfl) ?_
                refine j_bipush (q := 201) (v := 10) dX7_route_199 rfl (by decide) ?_
                refine j_isub (q := 202) dX7_route_201 rfl ?_
                rw [ej]
                refine j_icmp_le (q := 205) (tgt := 221) dX7_route_202 rfl (by decide) (fun h202 => ?_) (fun h202 => ?_)
                · exact absurd h202 (nI_ge (by omega) (by omega))
                refine j_iload_n (q := 206) dX7_route_205 rfl (by rfl) ?_
                refine j_if_le (q := 209) (tgt := 221) dX7_route_206 rfl (by decide) (fun h206 => ?_) (fun h206 => ?_)
                · exact absurd h206 hkl
                refine j_iload (q := 211) dX7_route_209 rfl (by rfl) ?_
                refine j_iload_n (q := 212) dX7_route_211 rfl (by rfl) ?_
                refine j_idiv (q := 213) dX7_route_212 rfl (by first | with_reducible assumption | assumption) ?_
                rw [ed]
                refine j_istore (q := 215) dX7_route_213 rfl (by decide) ?_
                refine j_iinc (q := 218) dX7_route_215 rfl (by rfl) (by first | exact nI_dec _ | rfl) (by decide) ?_
                refine j_goto (tgt := 196) dX7_route_218 (by decide) ?_
                exact ih v' (by omega) (by omega)
            have hu1 : nI u - 1 = nI (u - 1) := pk_sub (b := 1) (by omega)
            refine j_iload_n (q := 192) dX7_route_191 rfl (by rfl) ?_
            refine j_iconst (q := 193) (v := 1) dX7_route_192 rfl (by decide) ?_
            refine j_isub (q := 194) dX7_route_193 rfl ?_
            rw [hu1]
            refine j_istore (q := 196) dX7_route_194 rfl (by decide) ?_
            have := K196 (u - 1 - j) (u - 1) (by omega) (by omega)
            rw [show u - 1 - (u - 1) = 0 by omega, Nat.pow_zero, Nat.div_one] at this
            exact this
        · exact absurd (Int32.le_refl _) h81
      | succ z ih =>
        intro w mi o8 o9 o10 hw hsc
        have ep : ∀ i, pgR (gQ mi t 212 (rtP g w u i)) t 212 = rtP g w u i := fun i => pgR_gQ (rtP_0 hg0 w u i) _ _ _
        have hs2 : ∀ i, rsc t m (gQ mi t 212 (rtP g w u i)) := fun i => hsc.q (by decide) _
        have K102 : ∀ (y i : Nat), i + y = u → (gJ E yX7_route cX7_route 11 (some .int) (gRm 3 0 0) F 102 ([some (.ref t), some (.int (nI u)), some (.int k), some (.int (nI (c + 1))), some (.int (nI ((c + 1) ^ u))), some (.int (bst (rtF g u) nI 0 (-1) w).2), some (.int (bst (rtF g u) nI 0 (-1) w).1), some (.int (nI w)), some (.int (nI ((c + 1) ^ (u - i)))), some (.int (rtU g w u i)), some (.int (nI i))]) ([]) 0 0 σ (gQ mi t 212 (rtP g w u i)) hi) := by
          intro y
          induction y with
          | zero =>
            intro i hiy
            have hiu : i = u := by omega
            subst hiu
            have := ih (w + 1) (gQ mi t 212 (rtP g w i i)) (some (.int (nI ((c + 1) ^ (i - i))))) (some (.int (rtU g w i i))) (some (.int (nI i))) (by omega) (hs2 i)
            refine j_iload (q := 104) dX7_route_102 rfl (by rfl) ?_
            refine j_iload_n (q := 105) dX7_route_104 rfl (by rfl) ?_
            refine j_icmp_ge (q := 108) (tgt := 153) dX7_route_105 rfl (by decide) (fun h105 => ?_) (fun h105 => ?_)
            · refine j_iload (q := 155) dX7_route_153 rfl (by rfl) ?_
              refine j_iload (q := 157) dX7_route_155 rfl (by rfl) ?_
              refine j_icmp_le (q := 160) (tgt := 165) dX7_route_157 rfl (by decide) (fun h157 => ?_) (fun h157 => ?_)
              · rw [bst, if_neg (Int32.not_lt.mpr (show rtF g i w ≤ _ from h157))] at this
                refine j_iload (q := 167) dX7_route_165 rfl (by rfl) ?_
                refine j_istore (q := 169) dX7_route_167 rfl (by decide) ?_
                refine j_iload (q := 171) dX7_route_169 rfl (by rfl) ?_
                refine j_iload (q := 173) dX7_route_171 rfl (by rfl) ?_
                refine j_icmp_le (q := 176) (tgt := 181) dX7_route_173 rfl (by decide) (fun h173 => ?_) (fun h173 => ?_)
                · refine j_iload (q := 183) dX7_route_181 rfl (by rfl) ?_
                  refine j_istore (q := 185) dX7_route_183 rfl (by decide) ?_
                  refine j_iinc (q := 188) dX7_route_185 rfl (by rfl) (by first | exact nI_inc _ | rfl) (by decide) ?_
                  refine j_goto (tgt := 77) dX7_route_188 (by decide) ?_
                  exact this
                · exact absurd h157 h173
              · rw [bst, if_pos (Int32.not_le.mp (show ¬ rtF g i w ≤ _ from h157))] at this
                refine j_iload (q := 162) dX7_route_160 rfl (by rfl) ?_
                refine j_goto (tgt := 167) dX7_route_162 (by decide) ?_
                refine j_istore (q := 169) dX7_route_167 rfl (by decide) ?_
                refine j_iload (q := 171) dX7_route_169 rfl (by rfl) ?_
                refine j_iload (q := 173) dX7_route_171 rfl (by rfl) ?_
                refine j_icmp_le (q := 176) (tgt := 181) dX7_route_173 rfl (by decide) (fun h173 => ?_) (fun h173 => ?_)
                · exact absurd h173 h157
                · refine j_iload (q := 178) dX7_route_176 rfl (by rfl) ?_
                  refine j_goto (tgt := 183) dX7_route_178 (by decide) ?_
                  refine j_istore (q := 185) dX7_route_183 rfl (by decide) ?_
                  refine j_iinc (q := 188) dX7_route_185 rfl (by rfl) (by first | exact nI_inc _ | rfl) (by decide) ?_
                  refine j_goto (tgt := 77) dX7_route_188 (by decide) ?_
                  exact this
            · exact absurd (Int32.le_refl _) h105
          | succ y ihy =>
            intro i hiy
            have hP := hpi (u - 1 - i) (by omega)
            have hP2 := hpi (u - i) (by omega)
            have ed : nI ((c + 1) ^ (u - i)) / nI (c + 1) = nI ((c + 1) ^ (u - 1 - i)) := by
              rw [pk_div (by omega) (by omega) (by omega), rt_pw (by omega), Nat.mul_div_cancel _ (by omega)]
            have hPz : ¬ nI ((c + 1) ^ (u - 1 - i)) = 0 := nI_ne0 (by omega) (by omega)
            have hq31 : w / (c + 1) ^ (u - 1 - i) < 2 ^ 31 := Nat.lt_of_le_of_lt (Nat.div_le_self _ _) (by omega)
            have er : nI w / nI ((c + 1) ^ (u - 1 - i)) - nI w / nI ((c + 1) ^ (u - 1 - i)) / nI (c + 1) * nI (c + 1) = nI (dg (c + 1) w u i) := by
              rw [pk_div (by omega) (by omega) (by omega), pk_rem hq31 (by omega) (by omega)]
              rfl
            have hWa := cM_watchersOn E σ (gQ mi t 212 (rtP g w u i)) hi t 212 hR (by decide) (by rw [ep]; exact (rtP_B hoB w u i).r (by omega))
            rw [ep] at hWa
            have hWb := cM_whomBy E σ (gQ mi t 212 (rtP g w u i)) hi t (nI (dg (c + 1) w u i)) hR
            rw [(hs2 i).n, hG] at hWb
            have hPa := cM_hourOn E σ (gQ mi t 212 (rtP g w u i)) hi t 212 (sWat (rtP g w u i)) (sCho g (nI (dg (c + 1) w u i))) hR (by decide) (by rw [ep]; exact rtP_C hoC w u i)
            rw [ep, gQ_gQ] at hPa
            obtain ⟨zz, hz16, hz⟩ := hrU_n (rtP_C hoC w u i) (sWat (rtP g w u i)) (sCho g (nI (dg (c + 1) w u i)))
            have := ihy (i + 1) (by omega)
            rw [rtU, rtP, hcn, show u - (i + 1) = u - 1 - i by omega] at this
            refine j_iload (q := 104) dX7_route_102 rfl (by rfl) ?_
            refine j_iload_n (q := 105) dX7_route_104 rfl (by rfl) ?_
            refine j_icmp_ge (q := 108) (tgt := 153) dX7_route_105 rfl (by decide) (fun h105 => ?_) (fun h105 => ?_)
            · exact absurd h105 (nI_ge (by omega) (by omega))
            refine j_iload (q := 110) dX7_route_108 rfl (by rfl) ?_
            refine j_iload_n (q := 111) dX7_route_110 rfl (by rfl) ?_
            refine j_idiv (q := 112) dX7_route_111 rfl (by first | with_reducible assumption | assumption) ?_
            rw [ed]
            refine j_istore (q := 114) dX7_route_112 rfl (by decide) ?_
            refine j_iload (q := 116) dX7_route_114 rfl (by rfl) ?_
            refine j_aload_n (q := 117) dX7_route_116 rfl (by rfl) ?_
            refine j_sipush (q := 120) (v := 212) dX7_route_117 rfl (by decide) ?_
            refine j_aload_n (q := 121) dX7_route_120 rfl (by rfl) ?_
            refine j_sipush (q := 124) (v := 212) dX7_route_121 rfl (by decide) ?_
            refine o_callVi (q := 127) dX7_route_124 rfl lX7_148 mwX7_watchersOn mvX7_watchersOn cn7 (by assumption) (by rfl) rfl (Nat.le_of_ble_eq_true (by rfl)) (by first | decide | omega) (hWa) ?_
            refine j_aload_n (q := 128) dX7_route_127 rfl (by rfl) ?_
            refine j_iload (q := 130) dX7_route_128 rfl (by rfl) ?_
            refine j_iload (q := 132) dX7_route_130 rfl (by rfl) ?_
            refine j_idiv (q := 133) dX7_route_132 rfl (by first | with_reducible assumption | assumption) ?_
            refine j_iload_n (q := 134) dX7_route_133 rfl (by rfl) ?_
            refine j_irem (q := 135) dX7_route_134 rfl (by first | with_reducible assumption | assumption) ?_
            rw [er]
            refine o_callVi (q := 138) dX7_route_135 rfl lX7_229 mwX7_whomBy mvX7_whomBy cn7 (by assumption) (by rfl) rfl (Nat.le_of_ble_eq_true (by rfl)) (by first | decide | omega) (hWb) ?_
            refine o_callVi (q := 141) dX7_route_138 rfl lX7_154 mwX7_hourOn mvX7_hourOn cn7 (by assumption) (by rfl) rfl (Nat.le_of_ble_eq_true (by rfl)) (by first | decide | omega) (hPa) ?_
            refine o_callSi (q := 144) dX7_route_141 rfl lX7_199 mwX7_bitsOf msX7_bitsOf (by rfl) rfl (Nat.le_of_ble_eq_true (by rfl)) (by first | decide | omega) (cM_bits E σ _ hi ⟨zz, hz16, hz⟩) ?_
            refine j_iadd (q := 145) dX7_route_144 rfl ?_
            refine j_istore (q := 147) dX7_route_145 rfl (by decide) ?_
            refine j_iinc (q := 150) dX7_route_147 rfl (by rfl) (by first | exact nI_inc _ | rfl) (by decide) ?_
            refine j_goto (tgt := 102) dX7_route_150 (by decide) ?_
            exact this
        have hCp := cM_copies E σ mi hi t 0 212 hR (by decide) (by decide) (by decide)
        rw [hsc.n, hG] at hCp
        refine j_iload (q := 79) dX7_route_77 rfl (by rfl) ?_
        refine j_iload (q := 81) dX7_route_79 rfl (by rfl) ?_
        refine j_icmp_ge (q := 84) (tgt := 191) dX7_route_81 rfl (by decide) (fun h81 => ?_) (fun h81 => ?_)
        · exact absurd h81 (nI_ge (by omega) (by omega))
        refine j_iload (q := 86) dX7_route_84 rfl (by rfl) ?_
        refine j_istore (q := 88) dX7_route_86 rfl (by decide) ?_
        refine j_iconst (q := 89) (v := 0) dX7_route_88 rfl (by decide) ?_
        refine j_istore (q := 91) dX7_route_89 rfl (by decide) ?_
        refine j_aload_n (q := 92) dX7_route_91 rfl (by rfl) ?_
        refine j_iconst (q := 93) (v := 0) dX7_route_92 rfl (by decide) ?_
        refine j_sipush (q := 96) (v := 212) dX7_route_93 rfl (by decide) ?_
        refine o_callVv (q := 99) dX7_route_96 rfl lX7_205 mwX7_copies mvX7_copies cn7 (by assumption) (by rfl) rfl (Nat.le_of_ble_eq_true (by rfl)) (by first | decide | omega) (hCp) ?_
        refine j_iconst (q := 100) (v := 0) dX7_route_99 rfl (by decide) ?_
        refine j_istore (q := 102) dX7_route_100 rfl (by decide) ?_
        exact K102 u 0 (by omega)
    have K50 : ∀ (z i : Nat), i + z = u → (gJ E yX7_route cX7_route 11 (some .int) (gRm 3 0 0) F 50 ([some (.ref t), some (.int (nI u)), some (.int k), some (.int (nI (c + 1))), some (.int (nI ((c + 1) ^ i))), some (.int (nI i)), none, none, none, none, none]) ([]) 0 0 σ (m) hi) := by
      intro z
      induction z with
      | zero =>
        intro i hiz
        have hiu : i = u := by omega
        subst hiu
        refine j_iload (q := 52) dX7_route_50 rfl (by rfl) ?_
        refine j_iload_n (q := 53) dX7_route_52 rfl (by rfl) ?_
        refine j_icmp_ge (q := 56) (tgt := 68) dX7_route_53 rfl (by decide) (fun h53 => ?_) (fun h53 => ?_)
        · refine j_iconst (q := 69) (v := (-1)) dX7_route_68 rfl (by decide) ?_
          refine j_istore (q := 71) dX7_route_69 rfl (by decide) ?_
          refine j_iconst (q := 72) (v := 0) dX7_route_71 rfl (by decide) ?_
          refine j_istore (q := 74) dX7_route_72 rfl (by decide) ?_
          refine j_iconst (q := 75) (v := 0) dX7_route_74 rfl (by decide) ?_
          refine j_istore (q := 77) dX7_route_75 rfl (by decide) ?_
          exact K77 ((c + 1) ^ i) 0 m _ _ _ (by omega) (rsc.rf t m)
        · exact absurd (Int32.le_refl _) h53
      | succ z ih =>
        intro i hiz
        refine j_iload (q := 52) dX7_route_50 rfl (by rfl) ?_
        refine j_iload_n (q := 53) dX7_route_52 rfl (by rfl) ?_
        refine j_icmp_ge (q := 56) (tgt := 68) dX7_route_53 rfl (by decide) (fun h53 => ?_) (fun h53 => ?_)
        · exact absurd h53 (nI_ge (by omega) (by omega))
        refine j_iload (q := 58) dX7_route_56 rfl (by rfl) ?_
        refine j_iload_n (q := 59) dX7_route_58 rfl (by rfl) ?_
        refine j_imul (q := 60) dX7_route_59 rfl ?_
        rw [pk_mul, ← Nat.pow_succ]
        refine j_istore (q := 62) dX7_route_60 rfl (by decide) ?_
        refine j_iinc (q := 65) dX7_route_62 rfl (by rfl) (by first | exact nI_inc _ | rfl) (by decide) ?_
        refine j_goto (tgt := 50) dX7_route_65 (by decide) ?_
        exact ih (i + 1) (by omega)
    refine j_aload_n (q := 35) dX7_route_34 rfl (by rfl) ?_
    refine j_getr (q := 38) dX7_route_35 rfl fX7_7 (by first | with_reducible assumption | assumption) (by rfl) ?_
    refine j_bipush (q := 40) (v := 24) dX7_route_38 rfl (by decide) ?_
    refine j_iaload (q := 41) dX7_route_40 rfl (by first | with_reducible assumption | assumption) (by first | with_reducible assumption | assumption) ?_
    rw [e24]
    refine j_iconst (q := 42) (v := 1) dX7_route_41 rfl (by decide) ?_
    refine j_iadd (q := 43) dX7_route_42 rfl ?_
    rw [nI_1]
    refine j_istore_n (q := 44) dX7_route_43 rfl (by decide) ?_
    refine j_iconst (q := 45) (v := 1) dX7_route_44 rfl (by decide) ?_
    refine j_istore (q := 47) dX7_route_45 rfl (by decide) ?_
    refine j_iconst (q := 48) (v := 0) dX7_route_47 rfl (by decide) ?_
    refine j_istore (q := 50) dX7_route_48 rfl (by decide) ?_
    exact K50 u 0 (by omega)
  refine j_iload_n (q := 13) dX7_route_12 rfl (by rfl) ?_
  refine j_if_eq (q := 16) (tgt := 34) dX7_route_13 rfl (by decide) (fun h13 => ?_) (fun h13 => ?_)
  · exact K34 (Or.inl h13) (Or.inl h13)
  · refine j_iload_n (q := 17) dX7_route_16 rfl (by rfl) ?_
    refine j_bipush (q := 19) (v := 10) dX7_route_17 rfl (by decide) ?_
    refine j_isub (q := 20) dX7_route_19 rfl ?_
    refine j_i2l (q := 21) dX7_route_20 rfl ?_
    refine j_lconst (q := 22) (v := 0) dX7_route_21 rfl (by decide) ?_
    refine j_iload_n (q := 23) dX7_route_22 rfl (by rfl) ?_
    refine j_iconst (q := 24) (v := 1) dX7_route_23 rfl (by decide) ?_
    refine j_isub (q := 25) dX7_route_24 rfl ?_
    refine j_i2l (q := 26) dX7_route_25 rfl ?_
    refine o_callSi (q := 29) dX7_route_26 rfl lX7_55 mwX7_in msX7_in (by rfl) rfl (Nat.le_of_ble_eq_true (by rfl)) (by first | decide | omega) (cM_inI E σ m hi (k - 10) 0 (nI u - 1) (by decide) rfl) ?_
    rcases rt_k k hu with ⟨hs, hn⟩ | ⟨j, hj, ek, hs, hgd, ej⟩
    · rw [hs]
      refine j_if_ne (q := 32) (tgt := 34) dX7_route_29 rfl (by decide) (fun h29 => ?_) (fun h29 => ?_)
      · exact absurd rfl h29
      refine j_iconst (q := 33) (v := (-1)) dX7_route_32 rfl (by decide) ?_
      refine o_iret hF rfl dX7_route_33 ?_
      rw [if_neg (fun h => h.2.elim h13 hn)]
      exact ⟨rfl, rsc.rf t m⟩
    · rw [hs]
      refine j_if_ne (q := 32) (tgt := 34) dX7_route_29 rfl (by decide) (fun h29 => ?_) (fun h29 => ?_)
      · exact K34 (Or.inr ⟨j, hj, ek, ej⟩) (Or.inr hgd)
      · exact absurd h29 (by decide)
