/-! the reference's hours -/
theorem cM_rowOn (E : gEv) (σ : gSg) (m : gMem) (hi t p : Nat) (hR : gR σ t) (hp : p ≤ 265) (hok : okR (pgR m t p)) : gCo E yX7_rowOn cX7_rowOn 2 (some .int) 0 [.ref t, .int (nI p)] σ m hi (gX (some (.int (sTurn (pgR m t p)))) m) := by
  refine gCo.of mwX7_rowOn (Nat.le_of_ble_eq_true rfl) ?_
  intro F hF
  have h0 := hR.1
  have h1 := hR.2.1
  obtain ⟨r, h, e49, hr12, e52, hh⟩ := hok
  have i49 : gIdx (nI p + 49) 318 (p + 49) := gIdx.l 49 (by decide) hp
  have i52 : gIdx (nI p + 52) 318 (p + 52) := gIdx.l 52 (by decide) hp
  have r49 := rg_i m t p (i := 49) (by omega)
  have r52 := rg_i m t p (i := 52) (by omega)
  refine j_aload_n (q := 1) dX7_rowOn_0 rfl (by rfl) ?_
  refine j_getr (q := 4) dX7_rowOn_1 rfl fX7_7 (by first | with_reducible assumption | assumption) (by rfl) ?_
  refine j_iload_n (q := 5) dX7_rowOn_4 rfl (by rfl) ?_
  refine j_bipush (q := 7) (v := 49) dX7_rowOn_5 rfl (by decide) ?_
  refine j_iadd (q := 8) dX7_rowOn_7 rfl ?_
  refine j_iaload (q := 9) dX7_rowOn_8 rfl (by first | with_reducible assumption | assumption) (by first | with_reducible assumption | assumption) ?_
  rw [r49]
  refine j_if_ne (q := 12) (tgt := 17) dX7_rowOn_9 rfl (by decide) (fun h9 => ?_) (fun h9 => ?_)
  · have hz : ¬ m.1 (t + 1) (p + 49) = 0 := by rw [r49]; exact h9
    refine j_aload_n (q := 18) dX7_rowOn_17 rfl (by rfl) ?_
    refine j_getr (q := 21) dX7_rowOn_18 rfl fX7_7 (by first | with_reducible assumption | assumption) (by rfl) ?_
    refine j_iload_n (q := 22) dX7_rowOn_21 rfl (by rfl) ?_
    refine j_bipush (q := 24) (v := 52) dX7_rowOn_22 rfl (by decide) ?_
    refine j_iadd (q := 25) dX7_rowOn_24 rfl ?_
    refine j_iaload (q := 26) dX7_rowOn_25 rfl (by first | with_reducible assumption | assumption) (by first | with_reducible assumption | assumption) ?_
    refine j_aload_n (q := 27) dX7_rowOn_26 rfl (by rfl) ?_
    refine j_getr (q := 30) dX7_rowOn_27 rfl fX7_7 (by first | with_reducible assumption | assumption) (by rfl) ?_
    refine j_iload_n (q := 31) dX7_rowOn_30 rfl (by rfl) ?_
    refine j_bipush (q := 33) (v := 49) dX7_rowOn_31 rfl (by decide) ?_
    refine j_iadd (q := 34) dX7_rowOn_33 rfl ?_
    refine j_iaload (q := 35) dX7_rowOn_34 rfl (by first | with_reducible assumption | assumption) (by first | with_reducible assumption | assumption) ?_
    refine j_irem (q := 36) dX7_rowOn_35 rfl (by first | with_reducible assumption | assumption) ?_
    refine o_iret hF rfl dX7_rowOn_36 ?_
    refine ⟨?_, rfl⟩
    unfold sTurn
    rw [r49, r52, if_neg]
    rw [e49] at h9 ⊢
    have : r ≠ 0 := fun q => h9 (by rw [q]; rfl)
    exact nI_nle (by omega) (by omega)
  · refine j_bipush (q := 14) (v := (-4)) dX7_rowOn_12 rfl (by decide) ?_
    refine j_goto (tgt := 36) dX7_rowOn_14 (by decide) ?_
    refine o_iret hF rfl dX7_rowOn_36 ?_
    refine ⟨?_, rfl⟩
    unfold sTurn
    rw [if_pos]
    rw [show pgR m t p 49 = 0 by first | exact h9 | exact Decidable.not_not.mp h9]
    exact Int32.le_refl 0
theorem cM_watchersOn (E : gEv) (σ : gSg) (m : gMem) (hi t p : Nat) (hR : gR σ t) (hp : p ≤ 265) (hok : okR (pgR m t p)) : gCo E yX7_watchersOn cX7_watchersOn 3 (some .int) 1 [.ref t, .int (nI p)] σ m hi (gX (some (.int (sWat (pgR m t p)))) m) := by
  refine gCo.of mwX7_watchersOn (Nat.le_of_ble_eq_true rfl) ?_
  intro F hF
  have h0 := hR.1
  have h1 := hR.2.1
  have hT := cM_rowOn E σ m hi t p hR hp hok
  obtain ⟨r, h, e49, hr12, e52, hh⟩ := hok
  by_cases hr : r = 0
  · subst hr
    rw [sTurn_zero e49] at hT
    refine j_aload_n (q := 1) dX7_watchersOn_0 rfl (by rfl) ?_
    refine j_iload_n (q := 2) dX7_watchersOn_1 rfl (by rfl) ?_
    refine o_callVi (q := 5) dX7_watchersOn_2 rfl lX7_131 mwX7_rowOn mvX7_rowOn cn7 (by assumption) (by rfl) rfl (Nat.le_of_ble_eq_true (by rfl)) (by first | decide | omega) (hT) ?_
    refine j_istore_n (q := 6) dX7_watchersOn_5 rfl (by decide) ?_
    refine j_iload_n (q := 7) dX7_watchersOn_6 rfl (by rfl) ?_
    refine j_bipush (q := 9) (v := (-4)) dX7_watchersOn_7 rfl (by decide) ?_
    refine j_icmp_ne (q := 12) (tgt := 16) dX7_watchersOn_9 rfl (by decide) (fun h9 => ?_) (fun h9 => ?_)
    · exact absurd rfl h9
    refine j_iconst (q := 13) (v := 0) dX7_watchersOn_12 rfl (by decide) ?_
    refine j_goto (tgt := 27) dX7_watchersOn_13 (by decide) ?_
    refine o_iret hF rfl dX7_watchersOn_27 ?_
    exact ⟨by unfold sWat; rw [e49, if_pos (by decide)], rfl⟩
  · have hlt := Nat.mod_lt h (show 0 < r by omega)
    rw [sTurn_pos e49 hr12 e52 hh (by omega)] at hT
    have ix : gIdx (nI p + 25 + nI (h % r)) 318 (p + (25 + h % r)) := gIdx.j 25 (h % r) (by omega) hp
    refine j_aload_n (q := 1) dX7_watchersOn_0 rfl (by rfl) ?_
    refine j_iload_n (q := 2) dX7_watchersOn_1 rfl (by rfl) ?_
    refine o_callVi (q := 5) dX7_watchersOn_2 rfl lX7_131 mwX7_rowOn mvX7_rowOn cn7 (by assumption) (by rfl) rfl (Nat.le_of_ble_eq_true (by rfl)) (by first | decide | omega) (hT) ?_
    refine j_istore_n (q := 6) dX7_watchersOn_5 rfl (by decide) ?_
    refine j_iload_n (q := 7) dX7_watchersOn_6 rfl (by rfl) ?_
    refine j_bipush (q := 9) (v := (-4)) dX7_watchersOn_7 rfl (by decide) ?_
    refine j_icmp_ne (q := 12) (tgt := 16) dX7_watchersOn_9 rfl (by decide) (fun h9 => ?_) (fun h9 => ?_)
    · refine j_aload_n (q := 17) dX7_watchersOn_16 rfl (by rfl) ?_
      refine j_getr (q := 20) dX7_watchersOn_17 rfl fX7_7 (by first | with_reducible assumption | assumption) (by rfl) ?_
      refine j_iload_n (q := 21) dX7_watchersOn_20 rfl (by rfl) ?_
      refine j_bipush (q := 23) (v := 25) dX7_watchersOn_21 rfl (by decide) ?_
      refine j_iadd (q := 24) dX7_watchersOn_23 rfl ?_
      refine j_iload_n (q := 25) dX7_watchersOn_24 rfl (by rfl) ?_
      refine j_iadd (q := 26) dX7_watchersOn_25 rfl ?_
      refine j_iaload (q := 27) dX7_watchersOn_26 rfl (by first | with_reducible assumption | assumption) (by first | with_reducible assumption | assumption) ?_
      refine o_iret hF rfl dX7_watchersOn_27 ?_
      exact ⟨by unfold sWat; rw [e49, e52, nI_clamp (by omega), nI_clamp (by omega), if_neg hr, rg_i m t p (by omega)], rfl⟩
    · exact absurd (show nI (h % r) < 0 by rw [show nI (h % r) = -4 by first | exact h9 | exact Decidable.not_not.mp h9]; decide) (nI_pos (by omega))
theorem cM_whomOn (E : gEv) (σ : gSg) (m : gMem) (hi t p : Nat) (hR : gR σ t) (hp : p ≤ 265) (hok : okR (pgR m t p)) : gCo E yX7_whomOn cX7_whomOn 3 (some .int) 1 [.ref t, .int (nI p)] σ m hi (gX (some (.int (sWho (pgR m t p)))) m) := by
  refine gCo.of mwX7_whomOn (Nat.le_of_ble_eq_true rfl) ?_
  intro F hF
  have h0 := hR.1
  have h1 := hR.2.1
  have hT := cM_rowOn E σ m hi t p hR hp hok
  obtain ⟨r, h, e49, hr12, e52, hh⟩ := hok
  by_cases hr : r = 0
  · subst hr
    rw [sTurn_zero e49] at hT
    refine j_aload_n (q := 1) dX7_whomOn_0 rfl (by rfl) ?_
    refine j_iload_n (q := 2) dX7_whomOn_1 rfl (by rfl) ?_
    refine o_callVi (q := 5) dX7_whomOn_2 rfl lX7_131 mwX7_rowOn mvX7_rowOn cn7 (by assumption) (by rfl) rfl (Nat.le_of_ble_eq_true (by rfl)) (by first | decide | omega) (hT) ?_
    refine j_istore_n (q := 6) dX7_whomOn_5 rfl (by decide) ?_
    refine j_iload_n (q := 7) dX7_whomOn_6 rfl (by rfl) ?_
    refine j_bipush (q := 9) (v := (-4)) dX7_whomOn_7 rfl (by decide) ?_
    refine j_icmp_ne (q := 12) (tgt := 16) dX7_whomOn_9 rfl (by decide) (fun h9 => ?_) (fun h9 => ?_)
    · exact absurd rfl h9
    refine j_iconst (q := 13) (v := 4) dX7_whomOn_12 rfl (by decide) ?_
    refine j_goto (tgt := 27) dX7_whomOn_13 (by decide) ?_
    refine o_iret hF rfl dX7_whomOn_27 ?_
    exact ⟨by unfold sWho; rw [e49, if_pos (by decide)], rfl⟩
  · have hlt := Nat.mod_lt h (show 0 < r by omega)
    rw [sTurn_pos e49 hr12 e52 hh (by omega)] at hT
    have ix : gIdx (nI p + 37 + nI (h % r)) 318 (p + (37 + h % r)) := gIdx.j 37 (h % r) (by omega) hp
    refine j_aload_n (q := 1) dX7_whomOn_0 rfl (by rfl) ?_
    refine j_iload_n (q := 2) dX7_whomOn_1 rfl (by rfl) ?_
    refine o_callVi (q := 5) dX7_whomOn_2 rfl lX7_131 mwX7_rowOn mvX7_rowOn cn7 (by assumption) (by rfl) rfl (Nat.le_of_ble_eq_true (by rfl)) (by first | decide | omega) (hT) ?_
    refine j_istore_n (q := 6) dX7_whomOn_5 rfl (by decide) ?_
    refine j_iload_n (q := 7) dX7_whomOn_6 rfl (by rfl) ?_
    refine j_bipush (q := 9) (v := (-4)) dX7_whomOn_7 rfl (by decide) ?_
    refine j_icmp_ne (q := 12) (tgt := 16) dX7_whomOn_9 rfl (by decide) (fun h9 => ?_) (fun h9 => ?_)
    · refine j_aload_n (q := 17) dX7_whomOn_16 rfl (by rfl) ?_
      refine j_getr (q := 20) dX7_whomOn_17 rfl fX7_7 (by first | with_reducible assumption | assumption) (by rfl) ?_
      refine j_iload_n (q := 21) dX7_whomOn_20 rfl (by rfl) ?_
      refine j_bipush (q := 23) (v := 37) dX7_whomOn_21 rfl (by decide) ?_
      refine j_iadd (q := 24) dX7_whomOn_23 rfl ?_
      refine j_iload_n (q := 25) dX7_whomOn_24 rfl (by rfl) ?_
      refine j_iadd (q := 26) dX7_whomOn_25 rfl ?_
      refine j_iaload (q := 27) dX7_whomOn_26 rfl (by first | with_reducible assumption | assumption) (by first | with_reducible assumption | assumption) ?_
      refine o_iret hF rfl dX7_whomOn_27 ?_
      exact ⟨by unfold sWho; rw [e49, e52, nI_clamp (by omega), nI_clamp (by omega), if_neg hr, rg_i m t p (by omega)], rfl⟩
    · exact absurd (show nI (h % r) < 0 by rw [show nI (h % r) = -4 by first | exact h9 | exact Decidable.not_not.mp h9]; decide) (nI_pos (by omega))
theorem mn_le {a x : Int32} (h : x ≤ a) : x = sMin a x := by
  unfold sMin
  by_cases h2 : x < a
  · rw [if_pos h2]
  · rw [if_neg h2]; exact Int32.le_antisymm h (Int32.not_lt.mp h2)
theorem mn_gt {a x : Int32} (h : ¬ x ≤ a) : a = sMin a x := by
  unfold sMin
  rw [if_neg (fun q => h (Int32.le_of_lt q))]
theorem mx_ge {x : Int32} (h : 0 ≤ x) : x = sMax 0 x := by
  unfold sMax
  by_cases h2 : 0 < x
  · rw [if_pos h2]
  · rw [if_neg h2]; exact Int32.le_antisymm (Int32.not_lt.mp h2) h
theorem mx_lt {x : Int32} (h : ¬ 0 ≤ x) : 0 = sMax 0 x := by
  unfold sMax
  rw [if_neg (fun q => h (Int32.le_of_lt q))]
theorem mx_0 (x : Int32) : 0 ≤ sMax 0 x := by
  unfold sMax
  by_cases h : 0 < x
  · rw [if_pos h]; exact Int32.le_of_lt h
  · rw [if_neg h]; exact Int32.le_refl 0
theorem cM_goesUp (E : gEv) (σ : gSg) (m : gMem) (hi t p j : Nat) (w cm : Int32) (G : Nat → Int32) (hG : pgR m t p = G) (hR : gR σ t) (hp : p ≤ 265) (hj : j < 4) (hz : ¬ G 24 ≤ 0) : gCo E yX7_goesUp cX7_goesUp 8 (some .boolean) 1 [.ref t, .int (nI p), .int (nI j), .int w, .int cm] σ m hi (gX (some (.int (if G (4 + j) + vF G w cm j ≤ vH G j then 1 else 0))) (gQ m t p (upd (upd (upd G (12 + j) (vX G w cm j 3)) (16 + j) (vX G w cm j 4)) (20 + j) (vX G w cm j 5)))) := by
  refine gCo.of mwX7_goesUp (Nat.le_of_ble_eq_true rfl) ?_
  intro F hF
  have h0 := hR.1
  have h1 := hR.2.1
  have i12 : gIdx (nI p + 12 + nI j) 318 (p + (12 + j)) := gIdx.j 12 j (by omega) hp
  have i16 : gIdx (nI p + 16 + nI j) 318 (p + (16 + j)) := gIdx.j 16 j (by omega) hp
  have i20 : gIdx (nI p + 20 + nI j) 318 (p + (20 + j)) := gIdx.j 20 j (by omega) hp
  have i4 : gIdx (nI p + 4 + nI j) 318 (p + (4 + j)) := gIdx.j 4 j (by omega) hp
  have i51 : gIdx (nI p + 51) 318 (p + 51) := gIdx.l 51 (by decide) hp
  have e12 : m.1 (t + 1) (p + (12 + j)) = G (12 + j) := by rw [rg_i m t p (by omega), hG]
  have e16 : m.1 (t + 1) (p + (16 + j)) = G (16 + j) := by rw [rg_i m t p (by omega), hG]
  have e4 : m.1 (t + 1) (p + (4 + j)) = G (4 + j) := by rw [rg_i m t p (by omega), hG]
  have e51 : m.1 (t + 1) (p + 51) + 4 = G 51 := by rw [← hG, pgR_lt (by decide)]; rfl
  have hSh := cM_shareOn E σ m hi t p j hR hp (by rw [hG]; exact hz)
  have hMi := cM_mindsOn E σ m hi t p j w hR hp hj
  have hFa := cM_fadesOn E σ m hi t p j hR hp hj
  rw [hG] at hSh hMi hFa
  have K171 : (gJ E yX7_goesUp cX7_goesUp 8 (some .boolean) (gRm 1 0 0) F 171 ([some (.ref t), some (.int (nI p)), some (.int (nI j)), some (.int w), some (.int cm), some (.int (vH G j)), some (.int (vF G w cm j)), some (.int (if G (4 + j) + vF G w cm j ≤ vH G j then 1 else 0))]) ([]) 0 0 σ (m) hi) := by
    by_cases hu : G (4 + j) + vF G w cm j ≤ vH G j
    · rw [if_pos hu]
      rw [if_pos hu] at hF
      refine j_aload_n (q := 172) dX7_goesUp_171 rfl (by rfl) ?_
      refine j_getr (q := 175) dX7_goesUp_172 rfl fX7_7 (by first | with_reducible assumption | assumption) (by rfl) ?_
      refine j_iload_n (q := 176) dX7_goesUp_175 rfl (by rfl) ?_
      refine j_bipush (q := 178) (v := 12) dX7_goesUp_176 rfl (by decide) ?_
      refine j_iadd (q := 179) dX7_goesUp_178 rfl ?_
      refine j_iload_n (q := 180) dX7_goesUp_179 rfl (by rfl) ?_
      refine j_iadd (q := 181) dX7_goesUp_180 rfl ?_
      refine j_iload (q := 183) dX7_goesUp_181 rfl (by rfl) ?_
      refine j_if_eq (q := 186) (tgt := 190) dX7_goesUp_183 rfl (by decide) (fun h183 => ?_) (fun h183 => ?_)
      · exact absurd h183 (by decide)
      refine j_iconst (q := 187) (v := 0) dX7_goesUp_186 rfl (by decide) ?_
      refine j_goto (tgt := 192) dX7_goesUp_187 (by decide) ?_
      refine j_iastore (q := 193) dX7_goesUp_192 rfl (by first | with_reducible assumption | assumption) (by first | with_reducible assumption | assumption) ?_
      rw [gW_rgi (by omega), hG]
      refine j_aload_n (q := 194) dX7_goesUp_193 rfl (by rfl) ?_
      refine j_getr (q := 197) dX7_goesUp_194 rfl fX7_7 (by first | with_reducible assumption | assumption) (by rfl) ?_
      refine j_iload_n (q := 198) dX7_goesUp_197 rfl (by rfl) ?_
      refine j_bipush (q := 200) (v := 16) dX7_goesUp_198 rfl (by decide) ?_
      refine j_iadd (q := 201) dX7_goesUp_200 rfl ?_
      refine j_iload_n (q := 202) dX7_goesUp_201 rfl (by rfl) ?_
      refine j_iadd (q := 203) dX7_goesUp_202 rfl ?_
      refine j_iload (q := 205) dX7_goesUp_203 rfl (by rfl) ?_
      refine j_if_eq (q := 208) (tgt := 212) dX7_goesUp_205 rfl (by decide) (fun h205 => ?_) (fun h205 => ?_)
      · exact absurd h205 (by decide)
      refine j_iconst (q := 209) (v := 0) dX7_goesUp_208 rfl (by decide) ?_
      refine j_goto (tgt := 214) dX7_goesUp_209 (by decide) ?_
      refine j_iastore (q := 215) dX7_goesUp_214 rfl (by first | with_reducible assumption | assumption) (by first | with_reducible assumption | assumption) ?_
      rw [gW_gQi (by omega)]
      refine j_aload_n (q := 216) dX7_goesUp_215 rfl (by rfl) ?_
      refine j_getr (q := 219) dX7_goesUp_216 rfl fX7_7 (by first | with_reducible assumption | assumption) (by rfl) ?_
      refine j_iload_n (q := 220) dX7_goesUp_219 rfl (by rfl) ?_
      refine j_bipush (q := 222) (v := 20) dX7_goesUp_220 rfl (by decide) ?_
      refine j_iadd (q := 223) dX7_goesUp_222 rfl ?_
      refine j_iload_n (q := 224) dX7_goesUp_223 rfl (by rfl) ?_
      refine j_iadd (q := 225) dX7_goesUp_224 rfl ?_
      refine j_dup2 (q := 226) dX7_goesUp_225 rfl rfl rfl ?_
      refine j_iaload (q := 227) dX7_goesUp_226 rfl (by first | with_reducible assumption | assumption) (by first | with_reducible assumption | assumption) ?_
      refine j_iload (q := 229) dX7_goesUp_227 rfl (by rfl) ?_
      rw [gQ_i (by omega), pk_un (by omega), pk_un (by omega)]
      refine j_if_eq (q := 232) (tgt := 236) dX7_goesUp_229 rfl (by decide) (fun h229 => ?_) (fun h229 => ?_)
      · exact absurd h229 (by decide)
      refine j_iconst (q := 233) (v := 1) dX7_goesUp_232 rfl (by decide) ?_
      refine j_goto (tgt := 237) dX7_goesUp_233 (by decide) ?_
      refine j_iadd (q := 238) dX7_goesUp_237 rfl ?_
      refine j_iastore (q := 239) dX7_goesUp_238 rfl (by first | with_reducible assumption | assumption) (by first | with_reducible assumption | assumption) ?_
      rw [gW_gQi (by omega)]
      refine j_iload (q := 241) dX7_goesUp_239 rfl (by rfl) ?_
      refine o_zret hF rfl dX7_goesUp_241 (by first | assumption | exact Or.inl rfl | exact Or.inr rfl) ?_
      refine ⟨rfl, ?_⟩
      unfold vX
      rw [if_pos hu, if_pos hu, if_pos hu]
      rfl
    · rw [if_neg hu]
      rw [if_neg hu] at hF
      refine j_aload_n (q := 172) dX7_goesUp_171 rfl (by rfl) ?_
      refine j_getr (q := 175) dX7_goesUp_172 rfl fX7_7 (by first | with_reducible assumption | assumption) (by rfl) ?_
      refine j_iload_n (q := 176) dX7_goesUp_175 rfl (by rfl) ?_
      refine j_bipush (q := 178) (v := 12) dX7_goesUp_176 rfl (by decide) ?_
      refine j_iadd (q := 179) dX7_goesUp_178 rfl ?_
      refine j_iload_n (q := 180) dX7_goesUp_179 rfl (by rfl) ?_
      refine j_iadd (q := 181) dX7_goesUp_180 rfl ?_
      refine j_iload (q := 183) dX7_goesUp_181 rfl (by rfl) ?_
      refine j_if_eq (q := 186) (tgt := 190) dX7_goesUp_183 rfl (by decide) (fun h183 => ?_) (fun h183 => ?_)
      case refine_2 => exact absurd rfl h183
      refine j_iload (q := 192) dX7_goesUp_190 rfl (by rfl) ?_
      refine j_iastore (q := 193) dX7_goesUp_192 rfl (by first | with_reducible assumption | assumption) (by first | with_reducible assumption | assumption) ?_
      rw [gW_rgi (by omega), hG]
      refine j_aload_n (q := 194) dX7_goesUp_193 rfl (by rfl) ?_
      refine j_getr (q := 197) dX7_goesUp_194 rfl fX7_7 (by first | with_reducible assumption | assumption) (by rfl) ?_
      refine j_iload_n (q := 198) dX7_goesUp_197 rfl (by rfl) ?_
      refine j_bipush (q := 200) (v := 16) dX7_goesUp_198 rfl (by decide) ?_
      refine j_iadd (q := 201) dX7_goesUp_200 rfl ?_
      refine j_iload_n (q := 202) dX7_goesUp_201 rfl (by rfl) ?_
      refine j_iadd (q := 203) dX7_goesUp_202 rfl ?_
      refine j_iload (q := 205) dX7_goesUp_203 rfl (by rfl) ?_
      refine j_if_eq (q := 208) (tgt := 212) dX7_goesUp_205 rfl (by decide) (fun h205 => ?_) (fun h205 => ?_)
      case refine_2 => exact absurd rfl h205
      refine j_iload (q := 214) dX7_goesUp_212 rfl (by rfl) ?_
      refine j_iastore (q := 215) dX7_goesUp_214 rfl (by first | with_reducible assumption | assumption) (by first | with_reducible assumption | assumption) ?_
      rw [gW_gQi (by omega)]
      refine j_aload_n (q := 216) dX7_goesUp_215 rfl (by rfl) ?_
      refine j_getr (q := 219) dX7_goesUp_216 rfl fX7_7 (by first | with_reducible assumption | assumption) (by rfl) ?_
      refine j_iload_n (q := 220) dX7_goesUp_219 rfl (by rfl) ?_
      refine j_bipush (q := 222) (v := 20) dX7_goesUp_220 rfl (by decide) ?_
      refine j_iadd (q := 223) dX7_goesUp_222 rfl ?_
      refine j_iload_n (q := 224) dX7_goesUp_223 rfl (by rfl) ?_
      refine j_iadd (q := 225) dX7_goesUp_224 rfl ?_
      refine j_dup2 (q := 226) dX7_goesUp_225 rfl rfl rfl ?_
      refine j_iaload (q := 227) dX7_goesUp_226 rfl (by first | with_reducible assumption | assumption) (by first | with_reducible assumption | assumption) ?_
      refine j_iload (q := 229) dX7_goesUp_227 rfl (by rfl) ?_
      rw [gQ_i (by omega), pk_un (by omega), pk_un (by omega)]
      refine j_if_eq (q := 232) (tgt := 236) dX7_goesUp_229 rfl (by decide) (fun h229 => ?_) (fun h229 => ?_)
      case refine_2 => exact absurd rfl h229
      refine j_iconst (q := 237) (v := 0) dX7_goesUp_236 rfl (by decide) ?_
      refine j_iadd (q := 238) dX7_goesUp_237 rfl ?_
      refine j_iastore (q := 239) dX7_goesUp_238 rfl (by first | with_reducible assumption | assumption) (by first | with_reducible assumption | assumption) ?_
      rw [gW_gQi (by omega), i_a0]
      refine j_iload (q := 241) dX7_goesUp_239 rfl (by rfl) ?_
      refine o_zret hF rfl dX7_goesUp_241 (by first | assumption | exact Or.inl rfl | exact Or.inr rfl) ?_
      refine ⟨rfl, ?_⟩
      unfold vX
      rw [if_neg hu, if_neg hu, if_neg hu]
      rfl
  have K146 : ∀ f : Int32, f = vF G w cm j → (gJ E yX7_goesUp cX7_goesUp 8 (some .boolean) (gRm 1 0 0) F 146 ([some (.ref t), some (.int (nI p)), some (.int (nI j)), some (.int w), some (.int cm), some (.int (vH G j)), some (.int f), none]) ([]) 0 0 σ (m) hi) := by
    intro f hf
    subst hf
    refine j_iload (q := 148) dX7_goesUp_146 rfl (by rfl) ?_
    refine j_aload_n (q := 149) dX7_goesUp_148 rfl (by rfl) ?_
    refine j_getr (q := 152) dX7_goesUp_149 rfl fX7_7 (by first | with_reducible assumption | assumption) (by rfl) ?_
    refine j_iload_n (q := 153) dX7_goesUp_152 rfl (by rfl) ?_
    refine j_iconst (q := 154) (v := 4) dX7_goesUp_153 rfl (by decide) ?_
    refine j_iadd (q := 155) dX7_goesUp_154 rfl ?_
    refine j_iload_n (q := 156) dX7_goesUp_155 rfl (by rfl) ?_
    refine j_iadd (q := 157) dX7_goesUp_156 rfl ?_
    refine j_iaload (q := 158) dX7_goesUp_157 rfl (by first | with_reducible assumption | assumption) (by first | with_reducible assumption | assumption) ?_
    refine j_iload (q := 160) dX7_goesUp_158 rfl (by rfl) ?_
    refine j_iadd (q := 161) dX7_goesUp_160 rfl ?_
    rw [e4]
    refine j_icmp_lt (q := 164) (tgt := 168) dX7_goesUp_161 rfl (by decide) (fun h161 => ?_) (fun h161 => ?_)
    · rw [if_neg (Int32.not_le.mpr h161)] at K171
      refine j_iconst (q := 169) (v := 0) dX7_goesUp_168 rfl (by decide) ?_
      refine j_istore (q := 171) dX7_goesUp_169 rfl (by decide) ?_
      exact K171
    · rw [if_pos (Int32.not_lt.mp h161)] at K171
      refine j_iconst (q := 165) (v := 1) dX7_goesUp_164 rfl (by decide) ?_
      refine j_goto (tgt := 169) dX7_goesUp_165 (by decide) ?_
      refine j_istore (q := 171) dX7_goesUp_169 rfl (by decide) ?_
      exact K171
  have K114 : ∀ f : Int32, f = sMax 0 (sMin 20 (G (16 + j) + sMinds (G j) (G (8 + j)) w) - (if nI j = cm then G 51 else 0)) → (gJ E yX7_goesUp cX7_goesUp 8 (some .boolean) (gRm 1 0 0) F 114 ([some (.ref t), some (.int (nI p)), some (.int (nI j)), some (.int w), some (.int cm), some (.int (vH G j)), some (.int f), none]) ([]) 0 0 σ (m) hi) := by
    intro f hf
    refine j_iload (q := 116) dX7_goesUp_114 rfl (by rfl) ?_
    refine j_iload_n (q := 117) dX7_goesUp_116 rfl (by rfl) ?_
    refine j_if_ne (q := 120) (tgt := 129) dX7_goesUp_117 rfl (by decide) (fun h117 => ?_) (fun h117 => ?_)
    · have hv : f = vF G w cm j := by unfold vF sFret; rw [if_neg h117]; exact hf
      have hf0 : 0 ≤ f := by rw [hf]; exact mx_0 _
      refine j_iconst (q := 130) (v := 0) dX7_goesUp_129 rfl (by decide) ?_
      refine j_isub (q := 131) dX7_goesUp_130 rfl ?_
      refine j_istore (q := 133) dX7_goesUp_131 rfl (by decide) ?_
      refine j_iload (q := 135) dX7_goesUp_133 rfl (by rfl) ?_
      rw [i_s0]
      refine j_if_ge (q := 138) (tgt := 142) dX7_goesUp_135 rfl (by decide) (fun h135 => ?_) (fun h135 => ?_)
      · refine j_iload (q := 144) dX7_goesUp_142 rfl (by rfl) ?_
        refine j_istore (q := 146) dX7_goesUp_144 rfl (by decide) ?_
        exact K146 f hv
      · exact absurd hf0 h135
    · have h117' : w = 0 := by first | exact h117 | exact Decidable.not_not.mp h117
      have hv : vF G w cm j = sMax 0 (f - sFades (G j)) := by unfold vF sFret; rw [if_pos h117', ← hf]
      refine j_aload_n (q := 121) dX7_goesUp_120 rfl (by rfl) ?_
      refine j_iload_n (q := 122) dX7_goesUp_121 rfl (by rfl) ?_
      refine j_iload_n (q := 123) dX7_goesUp_122 rfl (by rfl) ?_
      refine o_callVi (q := 126) dX7_goesUp_123 rfl lX7_141 mwX7_fadesOn mvX7_fadesOn cn7 (by assumption) (by rfl) rfl (Nat.le_of_ble_eq_true (by rfl)) (by first | decide | omega) (hFa) ?_
      refine j_goto (tgt := 130) dX7_goesUp_126 (by decide) ?_
      refine j_isub (q := 131) dX7_goesUp_130 rfl ?_
      refine j_istore (q := 133) dX7_goesUp_131 rfl (by decide) ?_
      refine j_iload (q := 135) dX7_goesUp_133 rfl (by rfl) ?_
      refine j_if_ge (q := 138) (tgt := 142) dX7_goesUp_135 rfl (by decide) (fun h135 => ?_) (fun h135 => ?_)
      · refine j_iload (q := 144) dX7_goesUp_142 rfl (by rfl) ?_
        refine j_istore (q := 146) dX7_goesUp_144 rfl (by decide) ?_
        exact K146 _ (by rw [hv]; exact mx_ge h135)
      · refine j_iconst (q := 139) (v := 0) dX7_goesUp_138 rfl (by decide) ?_
        refine j_goto (tgt := 144) dX7_goesUp_139 (by decide) ?_
        refine j_istore (q := 146) dX7_goesUp_144 rfl (by decide) ?_
        exact K146 _ (by rw [hv]; exact mx_lt h135)
  have K75 : ∀ f : Int32, f = sMin 20 (G (16 + j) + sMinds (G j) (G (8 + j)) w) → (gJ E yX7_goesUp cX7_goesUp 8 (some .boolean) (gRm 1 0 0) F 75 ([some (.ref t), some (.int (nI p)), some (.int (nI j)), some (.int w), some (.int cm), some (.int (vH G j)), some (.int f), none]) ([]) 0 0 σ (m) hi) := by
    intro f hf
    refine j_iload (q := 77) dX7_goesUp_75 rfl (by rfl) ?_
    refine j_iload (q := 79) dX7_goesUp_77 rfl (by rfl) ?_
    refine j_iload_n (q := 80) dX7_goesUp_79 rfl (by rfl) ?_
    refine j_icmp_ne (q := 83) (tgt := 97) dX7_goesUp_80 rfl (by decide) (fun h80 => ?_) (fun h80 => ?_)
    · have ec : (if nI j = cm then G 51 else 0) = 0 := if_neg (fun q => h80 q.symm)
      rw [ec, ← hf] at K114
      refine j_iconst (q := 98) (v := 0) dX7_goesUp_97 rfl (by decide) ?_
      refine j_isub (q := 99) dX7_goesUp_98 rfl ?_
      refine j_istore (q := 101) dX7_goesUp_99 rfl (by decide) ?_
      refine j_iload (q := 103) dX7_goesUp_101 rfl (by rfl) ?_
      refine j_if_ge (q := 106) (tgt := 110) dX7_goesUp_103 rfl (by decide) (fun h103 => ?_) (fun h103 => ?_)
      · refine j_iload (q := 112) dX7_goesUp_110 rfl (by rfl) ?_
        refine j_istore (q := 114) dX7_goesUp_112 rfl (by decide) ?_
        exact K114 _ (mx_ge h103)
      · refine j_iconst (q := 107) (v := 0) dX7_goesUp_106 rfl (by decide) ?_
        refine j_goto (tgt := 112) dX7_goesUp_107 (by decide) ?_
        refine j_istore (q := 114) dX7_goesUp_112 rfl (by decide) ?_
        exact K114 _ (mx_lt h103)
    · have ec : (if nI j = cm then G 51 else 0) = G 51 := if_pos (Eq.symm (by first | exact h80 | exact Decidable.not_not.mp h80))
      rw [ec, ← hf] at K114
      refine j_aload_n (q := 84) dX7_goesUp_83 rfl (by rfl) ?_
      refine j_getr (q := 87) dX7_goesUp_84 rfl fX7_7 (by first | with_reducible assumption | assumption) (by rfl) ?_
      refine j_iload_n (q := 88) dX7_goesUp_87 rfl (by rfl) ?_
      refine j_bipush (q := 90) (v := 51) dX7_goesUp_88 rfl (by decide) ?_
      refine j_iadd (q := 91) dX7_goesUp_90 rfl ?_
      refine j_iaload (q := 92) dX7_goesUp_91 rfl (by first | with_reducible assumption | assumption) (by first | with_reducible assumption | assumption) ?_
      refine j_iconst (q := 93) (v := 4) dX7_goesUp_92 rfl (by decide) ?_
      refine j_iadd (q := 94) dX7_goesUp_93 rfl ?_
      rw [e51]
      refine j_goto (tgt := 98) dX7_goesUp_94 (by decide) ?_
      refine j_isub (q := 99) dX7_goesUp_98 rfl ?_
      refine j_istore (q := 101) dX7_goesUp_99 rfl (by decide) ?_
      refine j_iload (q := 103) dX7_goesUp_101 rfl (by rfl) ?_
      refine j_if_ge (q := 106) (tgt := 110) dX7_goesUp_103 rfl (by decide) (fun h103 => ?_) (fun h103 => ?_)
      · refine j_iload (q := 112) dX7_goesUp_110 rfl (by rfl) ?_
        refine j_istore (q := 114) dX7_goesUp_112 rfl (by decide) ?_
        exact K114 _ (mx_ge h103)
      · refine j_iconst (q := 107) (v := 0) dX7_goesUp_106 rfl (by decide) ?_
        refine j_goto (tgt := 112) dX7_goesUp_107 (by decide) ?_
        refine j_istore (q := 114) dX7_goesUp_112 rfl (by decide) ?_
        exact K114 _ (mx_lt h103)
  have K59 : ∀ a : Int32, a = vH G j → (gJ E yX7_goesUp cX7_goesUp 8 (some .boolean) (gRm 1 0 0) F 59 ([some (.ref t), some (.int (nI p)), some (.int (nI j)), some (.int w), some (.int cm), some (.int a), some (.int (G (16 + j) + sMinds (G j) (G (8 + j)) w)), none]) ([]) 0 0 σ (m) hi) := by
    intro a ha
    subst ha
    refine j_iload (q := 61) dX7_goesUp_59 rfl (by rfl) ?_
    refine j_bipush (q := 63) (v := 20) dX7_goesUp_61 rfl (by decide) ?_
    refine j_icmp_le (q := 66) (tgt := 71) dX7_goesUp_63 rfl (by decide) (fun h63 => ?_) (fun h63 => ?_)
    · refine j_iload (q := 73) dX7_goesUp_71 rfl (by rfl) ?_
      refine j_istore (q := 75) dX7_goesUp_73 rfl (by decide) ?_
      exact K75 _ (mn_le h63)
    · refine j_bipush (q := 68) (v := 20) dX7_goesUp_66 rfl (by decide) ?_
      refine j_goto (tgt := 73) dX7_goesUp_68 (by decide) ?_
      refine j_istore (q := 75) dX7_goesUp_73 rfl (by decide) ?_
      exact K75 _ (mn_gt h63)
  refine j_aload_n (q := 1) dX7_goesUp_0 rfl (by rfl) ?_
  refine j_getr (q := 4) dX7_goesUp_1 rfl fX7_7 (by first | with_reducible assumption | assumption) (by rfl) ?_
  refine j_iload_n (q := 5) dX7_goesUp_4 rfl (by rfl) ?_
  refine j_bipush (q := 7) (v := 12) dX7_goesUp_5 rfl (by decide) ?_
  refine j_iadd (q := 8) dX7_goesUp_7 rfl ?_
  refine j_iload_n (q := 9) dX7_goesUp_8 rfl (by rfl) ?_
  refine j_iadd (q := 10) dX7_goesUp_9 rfl ?_
  refine j_iaload (q := 11) dX7_goesUp_10 rfl (by first | with_reducible assumption | assumption) (by first | with_reducible assumption | assumption) ?_
  refine j_aload_n (q := 12) dX7_goesUp_11 rfl (by rfl) ?_
  refine j_iload_n (q := 13) dX7_goesUp_12 rfl (by rfl) ?_
  refine j_iload_n (q := 14) dX7_goesUp_13 rfl (by rfl) ?_
  rw [e12]
  refine o_callVi (q := 17) dX7_goesUp_14 rfl lX7_134 mwX7_shareOn mvX7_shareOn cn7 (by assumption) (by rfl) rfl (Nat.le_of_ble_eq_true (by rfl)) (by first | decide | omega) (hSh) ?_
  refine j_iadd (q := 18) dX7_goesUp_17 rfl ?_
  refine j_istore (q := 20) dX7_goesUp_18 rfl (by decide) ?_
  refine j_aload_n (q := 21) dX7_goesUp_20 rfl (by rfl) ?_
  refine j_getr (q := 24) dX7_goesUp_21 rfl fX7_7 (by first | with_reducible assumption | assumption) (by rfl) ?_
  refine j_iload_n (q := 25) dX7_goesUp_24 rfl (by rfl) ?_
  refine j_bipush (q := 27) (v := 16) dX7_goesUp_25 rfl (by decide) ?_
  refine j_iadd (q := 28) dX7_goesUp_27 rfl ?_
  refine j_iload_n (q := 29) dX7_goesUp_28 rfl (by rfl) ?_
  refine j_iadd (q := 30) dX7_goesUp_29 rfl ?_
  refine j_iaload (q := 31) dX7_goesUp_30 rfl (by first | with_reducible assumption | assumption) (by first | with_reducible assumption | assumption) ?_
  refine j_aload_n (q := 32) dX7_goesUp_31 rfl (by rfl) ?_
  refine j_iload_n (q := 33) dX7_goesUp_32 rfl (by rfl) ?_
  refine j_iload_n (q := 34) dX7_goesUp_33 rfl (by rfl) ?_
  refine j_iload_n (q := 35) dX7_goesUp_34 rfl (by rfl) ?_
  rw [e16]
  refine o_callVi (q := 38) dX7_goesUp_35 rfl lX7_137 mwX7_mindsOn mvX7_mindsOn cn7 (by assumption) (by rfl) rfl (Nat.le_of_ble_eq_true (by rfl)) (by first | decide | omega) (hMi) ?_
  refine j_iadd (q := 39) dX7_goesUp_38 rfl ?_
  refine j_istore (q := 41) dX7_goesUp_39 rfl (by decide) ?_
  refine j_iload (q := 43) dX7_goesUp_41 rfl (by rfl) ?_
  refine j_sipush (q := 46) (v := 199) dX7_goesUp_43 rfl (by decide) ?_
  refine j_icmp_le (q := 49) (tgt := 55) dX7_goesUp_46 rfl (by decide) (fun h46 => ?_) (fun h46 => ?_)
  · refine j_iload (q := 57) dX7_goesUp_55 rfl (by rfl) ?_
    refine j_istore (q := 59) dX7_goesUp_57 rfl (by decide) ?_
    exact K59 _ (mn_le h46)
  · refine j_sipush (q := 52) (v := 199) dX7_goesUp_49 rfl (by decide) ?_
    refine j_goto (tgt := 57) dX7_goesUp_52 (by decide) ?_
    refine j_istore (q := 59) dX7_goesUp_57 rfl (by decide) ?_
    exact K59 _ (mn_gt h46)
theorem cM_hourOn (E : gEv) (σ : gSg) (m : gMem) (hi t p : Nat) (w cm : Int32) (hR : gR σ t) (hp : p ≤ 265) (hok : okC (pgR m t p)) : gCo E yX7_hourOn cX7_hourOn 6 (some .int) 2 [.ref t, .int (nI p), .int w, .int cm] σ m hi (gX (some (.int (hrU (pgR m t p) w cm))) (gQ m t p (hr (pgR m t p) w cm))) := by
  refine gCo.of mwX7_hourOn (Nat.le_of_ble_eq_true rfl) ?_
  intro F hF
  have h0 := hR.1
  have h1 := hR.2.1
  obtain ⟨c, hc, hc4⟩ := hok
  have hcn : cnt (pgR m t p) = c := by unfold cnt; rw [hc]; exact nI_clamp (by omega)
  have i24 : gIdx (nI p + 24) 318 (p + 24) := gIdx.l 24 (by decide) hp
  have i52 : gIdx (nI p + 52) 318 (p + 52) := gIdx.l 52 (by decide) hp
  generalize hG : pgR m t p = g at *
  have hg0 : pg0 g := by rw [← hG]; exact pgR_0 m t p
  have hJ0 : ∀ j, pg0 (hrJ j g w cm) := fun j i hi' => by rw [hrJ_ge (by omega)]; exact hg0 i hi'
  have K6 : ∀ n j : Nat, j + n = c → (gJ E yX7_hourOn cX7_hourOn 6 (some .int) (gRm 2 0 0) F 6 ([some (.ref t), some (.int (nI p)), some (.int w), some (.int cm), some (.int (hrUj g w cm j)), some (.int (nI j))]) ([]) 0 0 σ (gQ m t p (hrJ j g w cm)) hi) := by
    intro n
    induction n with
    | zero =>
      intro j hj
      have hjc : j = c := by omega
      refine j_iload (q := 8) dX7_hourOn_6 rfl (by rfl) ?_
      refine j_aload_n (q := 9) dX7_hourOn_8 rfl (by rfl) ?_
      refine j_getr (q := 12) dX7_hourOn_9 rfl fX7_7 (by first | with_reducible assumption | assumption) (by rfl) ?_
      refine j_iload_n (q := 13) dX7_hourOn_12 rfl (by rfl) ?_
      refine j_bipush (q := 15) (v := 24) dX7_hourOn_13 rfl (by decide) ?_
      refine j_iadd (q := 16) dX7_hourOn_15 rfl ?_
      refine j_iaload (q := 17) dX7_hourOn_16 rfl (by first | with_reducible assumption | assumption) (by first | with_reducible assumption | assumption) ?_
      rw [gQ_i (by omega), hrJ_ge (by omega), hc]
      refine j_icmp_ge (q := 20) (tgt := 51) dX7_hourOn_17 rfl (by decide) (fun h17 => ?_) (fun h17 => ?_)
      · refine j_aload_n (q := 52) dX7_hourOn_51 rfl (by rfl) ?_
        refine j_getr (q := 55) dX7_hourOn_52 rfl fX7_7 (by first | with_reducible assumption | assumption) (by rfl) ?_
        refine j_iload_n (q := 56) dX7_hourOn_55 rfl (by rfl) ?_
        refine j_bipush (q := 58) (v := 52) dX7_hourOn_56 rfl (by decide) ?_
        refine j_iadd (q := 59) dX7_hourOn_58 rfl ?_
        refine j_dup2 (q := 60) dX7_hourOn_59 rfl rfl rfl ?_
        refine j_iaload (q := 61) dX7_hourOn_60 rfl (by first | with_reducible assumption | assumption) (by first | with_reducible assumption | assumption) ?_
        rw [gQ_i (by omega), hrJ_ge (by omega)]
        refine j_iconst (q := 62) (v := 1) dX7_hourOn_61 rfl (by decide) ?_
        refine j_iadd (q := 63) dX7_hourOn_62 rfl ?_
        refine j_iastore (q := 64) dX7_hourOn_63 rfl (by first | with_reducible assumption | assumption) (by first | with_reducible assumption | assumption) ?_
        rw [gW_gQi (by omega)]
        refine j_iload (q := 66) dX7_hourOn_64 rfl (by rfl) ?_
        refine o_iret hF rfl dX7_hourOn_66 ?_
        refine ⟨by rw [hrU, hcn, hjc], ?_⟩
        unfold hr
        rw [hcn, hjc]
      · exact absurd (nI_le (by omega) (by omega)) h17
    | succ n ih =>
      intro j hj
      have hj4 : j < 4 := by omega
      have hU := cM_goesUp E σ (gQ m t p (hrJ j g w cm)) hi t p j w cm (hrJ j g w cm) (pgR_gQ (hJ0 j) m t p) hR hp hj4 (by rw [hrJ_ge (by omega), hc]; exact nI_nle (by omega) (by omega))
      have a0 : hrJ j g w cm j = g j := hrJ_ge (by omega)
      have a4 : hrJ j g w cm (4 + j) = g (4 + j) := hrJ_ge (by omega)
      have a8 : hrJ j g w cm (8 + j) = g (8 + j) := hrJ_ge (by omega)
      have a12 : hrJ j g w cm (12 + j) = g (12 + j) := hrJ_own (by omega)
      have a16 : hrJ j g w cm (16 + j) = g (16 + j) := hrJ_own (by omega)
      have a20 : hrJ j g w cm (20 + j) = g (20 + j) := hrJ_own (by omega)
      have a24 : hrJ j g w cm 24 = g 24 := hrJ_ge (by omega)
      have a50 : hrJ j g w cm 50 = g 50 := hrJ_ge (by omega)
      have a51 : hrJ j g w cm 51 = g 51 := hrJ_ge (by omega)
      have aH : vH (hrJ j g w cm) j = vH g j := by unfold vH sShr; rw [a12, a24, a50]
      have aF : vF (hrJ j g w cm) w cm j = vF g w cm j := by unfold vF; rw [a0, a8, a16, a51]
      have aX : ∀ k, vX (hrJ j g w cm) w cm j k = vX g w cm j k := fun k => by unfold vX; rw [aH, aF, a4, a20]
      rw [aX, aX, aX, aH, aF, a4, ← hrJ_succ hj4, gQ_gQ] at hU
      refine j_iload (q := 8) dX7_hourOn_6 rfl (by rfl) ?_
      refine j_aload_n (q := 9) dX7_hourOn_8 rfl (by rfl) ?_
      refine j_getr (q := 12) dX7_hourOn_9 rfl fX7_7 (by first | with_reducible assumption | assumption) (by rfl) ?_
      refine j_iload_n (q := 13) dX7_hourOn_12 rfl (by rfl) ?_
      refine j_bipush (q := 15) (v := 24) dX7_hourOn_13 rfl (by decide) ?_
      refine j_iadd (q := 16) dX7_hourOn_15 rfl ?_
      refine j_iaload (q := 17) dX7_hourOn_16 rfl (by first | with_reducible assumption | assumption) (by first | with_reducible assumption | assumption) ?_
      rw [gQ_i (by omega), hrJ_ge (by omega), hc]
      refine j_icmp_ge (q := 20) (tgt := 51) dX7_hourOn_17 rfl (by decide) (fun h17 => ?_) (fun h17 => ?_)
      · exact absurd h17 (nI_ge (by omega) (by omega))
      refine j_iload (q := 22) dX7_hourOn_20 rfl (by rfl) ?_
      refine j_aload_n (q := 23) dX7_hourOn_22 rfl (by rfl) ?_
      refine j_iload_n (q := 24) dX7_hourOn_23 rfl (by rfl) ?_
      refine j_iload (q := 26) dX7_hourOn_24 rfl (by rfl) ?_
      refine j_iload_n (q := 27) dX7_hourOn_26 rfl (by rfl) ?_
      refine j_iload_n (q := 28) dX7_hourOn_27 rfl (by rfl) ?_
      refine o_callVi (q := 31) dX7_hourOn_28 rfl lX7_144 mwX7_goesUp mvX7_goesUp cn7 (by assumption) (by rfl) rfl (Nat.le_of_ble_eq_true (by rfl)) (by first | decide | omega) (hU) ?_
      by_cases hu : g (4 + j) + vF g w cm j ≤ vH g j
      · rw [if_pos hu]
        refine j_if_eq (q := 34) (tgt := 41) dX7_hourOn_31 rfl (by decide) (fun h31 => ?_) (fun h31 => ?_)
        · exact absurd h31 (by decide)
        refine j_iconst (q := 35) (v := 1) dX7_hourOn_34 rfl (by decide) ?_
        refine j_iload (q := 37) dX7_hourOn_35 rfl (by rfl) ?_
        refine j_ishl (q := 38) dX7_hourOn_37 rfl ?_
        refine j_goto (tgt := 42) dX7_hourOn_38 (by decide) ?_
        refine j_ior (q := 43) dX7_hourOn_42 rfl ?_
        refine j_istore (q := 45) dX7_hourOn_43 rfl (by decide) ?_
        refine j_iinc (q := 48) dX7_hourOn_45 rfl (by rfl) (by first | exact nI_inc _ | rfl) (by decide) ?_
        refine j_goto (tgt := 6) dX7_hourOn_48 (by decide) ?_
        have := ih (j + 1) (by omega)
        rw [hrUj, if_pos hu] at this
        exact this
      · rw [if_neg hu]
        refine j_if_eq (q := 34) (tgt := 41) dX7_hourOn_31 rfl (by decide) (fun h31 => ?_) (fun h31 => ?_)
        case refine_2 => exact absurd rfl h31
        refine j_iconst (q := 42) (v := 0) dX7_hourOn_41 rfl (by decide) ?_
        refine j_ior (q := 43) dX7_hourOn_42 rfl ?_
        refine j_istore (q := 45) dX7_hourOn_43 rfl (by decide) ?_
        refine j_iinc (q := 48) dX7_hourOn_45 rfl (by rfl) (by first | exact nI_inc _ | rfl) (by decide) ?_
        refine j_goto (tgt := 6) dX7_hourOn_48 (by decide) ?_
        have := ih (j + 1) (by omega)
        rw [hrUj, if_neg hu] at this
        rw [Int32.or_zero]
        exact this
  refine j_iconst (q := 1) (v := 0) dX7_hourOn_0 rfl (by decide) ?_
  refine j_istore (q := 3) dX7_hourOn_1 rfl (by decide) ?_
  refine j_iconst (q := 4) (v := 0) dX7_hourOn_3 rfl (by decide) ?_
  refine j_istore (q := 6) dX7_hourOn_4 rfl (by decide) ?_
  refine gJ.mm ?_ (K6 c 0 (by omega))
  rw [hrJ_0, ← hG, gQ_pgR]
theorem cM_planOn (E : gEv) (σ : gSg) (m : gMem) (hi t p : Nat) (hR : gR σ t) (hp : p ≤ 265) (hok : okC (pgR m t p)) (hor : okR (pgR m t p)) : gCo E yX7_planOn cX7_planOn 2 (some .int) 3 [.ref t, .int (nI p)] σ m hi (gX (some (.int (plU (pgR m t p)))) (gQ m t p (pl (pgR m t p)))) := by
  refine gCo.of mwX7_planOn (Nat.le_of_ble_eq_true rfl) ?_
  intro F hF
  have h0 := hR.1
  refine j_aload_n (q := 1) dX7_planOn_0 rfl (by rfl) ?_
  refine j_iload_n (q := 2) dX7_planOn_1 rfl (by rfl) ?_
  refine j_aload_n (q := 3) dX7_planOn_2 rfl (by rfl) ?_
  refine j_iload_n (q := 4) dX7_planOn_3 rfl (by rfl) ?_
  refine o_callVi (q := 7) dX7_planOn_4 rfl lX7_148 mwX7_watchersOn mvX7_watchersOn cn7 (by assumption) (by rfl) rfl (Nat.le_of_ble_eq_true (by rfl)) (by first | decide | omega) (cM_watchersOn E σ m hi t p hR hp hor) ?_
  refine j_aload_n (q := 8) dX7_planOn_7 rfl (by rfl) ?_
  refine j_iload_n (q := 9) dX7_planOn_8 rfl (by rfl) ?_
  refine o_callVi (q := 12) dX7_planOn_9 rfl lX7_151 mwX7_whomOn mvX7_whomOn cn7 (by assumption) (by rfl) rfl (Nat.le_of_ble_eq_true (by rfl)) (by first | decide | omega) (cM_whomOn E σ m hi t p hR hp hor) ?_
  refine o_callVi (q := 15) dX7_planOn_12 rfl lX7_154 mwX7_hourOn mvX7_hourOn cn7 (by assumption) (by rfl) rfl (Nat.le_of_ble_eq_true (by rfl)) (by first | decide | omega) (cM_hourOn E σ m hi t p _ _ hR hp hok) ?_
  refine o_iret hF rfl dX7_planOn_15 ?_
  exact ⟨rfl, rfl⟩
theorem cM_plan (E : gEv) (σ : gSg) (m : gMem) (hi t p n b : Nat) (g : Nat → Int32) (hR : gR σ t) (hp : p ≤ 265) (h0 : pg0 g) (hc : okC g) (hr : okB g b) (hb : b + n < 2 ^ 30) : gCo E yX7_planOn cX7_planOn 2 (some .int) 3 [.ref t, .int (nI p)] σ (gQ m t p (plN g n)) hi (gX (some (.int (plU (plN g n)))) (gQ m t p (plN g (n + 1)))) := by
  have h := cM_planOn E σ (gQ m t p (plN g n)) hi t p hR hp (by rw [pgR_gQ (plN_0 h0 n)]; exact plN_C hc n) (by rw [pgR_gQ (plN_0 h0 n)]; exact (plN_B hr n).r hb)
  rw [pgR_gQ (plN_0 h0 n), gQ_gQ] at h
  exact h
