/-! the class's reader -/
theorem not_m1 : ¬ isSp (-1) ∧ ¬ isLe (-1) ∧ ¬ isFg (-1) := by decide
/-- one token on -/
theorem cR_advance (E : gEv) (σ : gSg) (m : gMem) (hi x L p0 : Nat) (f0 : Nat → Int32) (hN : gN σ x) (hT : okT m x L) (hf0 : m.1 (x + 20) = f0) (h1 : f0 1 = nI p0) (hp0 : p0 ≤ L) (h5 : f0 5 = 0) : gCo E yX1_advance cX1_advance 3 (none) 1 [.ref (x + 20)] σ m hi (fun v' m' => v' = none ∧ rdr x m m' ∧ RS (m'.1 (x + 20)) (nxt (m.1 (x + 22)) L p0)) := by
  refine gCo.of mwX1_advance (Nat.le_of_ble_eq_true rfl) ?_
  intro F hF
  have hN0 := hN
  obtain ⟨-, -, -, -, -, -, h20, h21, h22, -⟩ := hN
  have hL := hT.2.1
  have hTm : ∀ f, okT (mR m (x + 20) f) x L := fun f => by
    unfold okT
    rw [mR_n (by omega), mR_n (by omega)]
    exact hT
  have hB : ∀ (f : Nat → Int32) (p : Nat), p ≤ 1000 → gCo E yX4_byteAt cX4_byteAt 2 (some .int) 0 [.ref (x + 21), .int (nI p)] σ (mR m (x + 20) f) hi (gX (some (.int (bA (-1) (m.1 (x + 22)) L p))) (mR m (x + 20) f)) := by
    intro f p hp
    have := cT_byteAt E σ (mR m (x + 20) f) hi x L p hN0 (hTm f) (by omega)
    rw [mR_n (show x + 22 ≠ x + 20 by omega)] at this
    exact this
  generalize hBe : m.1 (x + 22) = B at hB hF
  have hBb : ∀ p, p < L → ∃ b, b < 128 ∧ B p = nI b := fun p hp => by rw [← hBe]; exact hT.2.2 p hp
  have hx := lx_s B L (rn isSp B L p0)
  have hk := lx_k B L (rn isSp B L p0)
  have hsr := rn_le isSp B (L := L) hp0
  have K270 : ∀ (f : Nat → Int32) (o1 o2 : Option Value) (t : tkT), lx B L (rn isSp B L p0) = t → f 2 = nI t.1 → f 3 = nI t.2.1 → (t.1 ≠ 0 → t.1 ≠ 4 → f 1 = nI t.2.2.1) → (t.1 = 2 → f 4 = t.2.2.2) → f 5 = 0 → f 7 = f0 7 → f 8 = f0 8 → (gJ E yX1_advance cX1_advance 3 (none) (gRm 1 0 0) F 270 ([some (.ref (x + 20)), o1, o2]) ([]) 0 0 σ (mR m (x + 20) f) hi) := by
    intro f o1 o2 t ht q2 q3 q1 q4 q5 q7 q8
    have hx' : t.2.1 = rn isSp B L p0 := by rw [← ht]; exact hx
    have hk' : t.1 < 5 := by rw [← ht]; exact hk.1
    have hrd : ∀ f', f' 7 = f0 7 → f' 8 = f0 8 → rdr x m (mR m (x + 20) f') := fun f' a b => ⟨fun q hq => mR_n hq f', by rw [mR_a, hf0]; exact a, by rw [mR_a, hf0]; exact b⟩
    refine j_aload_n (q := 271) dX1_advance_270 rfl (by rfl) ?_
    refine j_geti (q := 274) dX1_advance_271 rfl fX1_43 (by assumption) (by rfl) ?_
    refine j_iconst (q := 275) (v := 4) dX1_advance_274 rfl (by decide) ?_
    rw [mR_a, q2]
    by_cases h4 : t.1 = 4
    · refine j_icmp_ne (q := 278) (tgt := 287) dX1_advance_275 rfl (by decide) (fun h275 => ?_) (fun h275 => ?_)
      · exact absurd (by rw [h4]; rfl) h275
      · have hFl := cR_fail E σ m hi x f 1 (nI t.2.1) hN0
        rw [if_pos q5] at hFl
        refine j_aload_n (q := 279) dX1_advance_278 rfl (by rfl) ?_
        refine j_iconst (q := 280) (v := 1) dX1_advance_279 rfl (by decide) ?_
        refine j_aload_n (q := 281) dX1_advance_280 rfl (by rfl) ?_
        refine j_geti (q := 284) dX1_advance_281 rfl fX1_54 (by assumption) (by rfl) ?_
        rw [mR_a, q3]
        refine o_callVv (q := 287) dX1_advance_284 rfl lX1_57 mwX1_fail mvX1_fail cn1 (by assumption) (by rfl) rfl (Nat.le_of_ble_eq_true (by rfl)) (by first | decide | omega) (hFl) ?_
        refine o_vret hF rfl dX1_advance_287 ?_
        refine ⟨rfl, hrd _ ?_ ?_, ?_⟩
        · rw [pk_un (by decide), pk_un (by decide)]; exact q7
        · rw [pk_un (by decide), pk_un (by decide)]; exact q8
        · unfold nxt lex
          rw [ht, if_pos h4, mR_a]
          exact ⟨by rw [pk_un (by decide), pk_us]; rfl, by rw [pk_us]⟩
    · refine j_icmp_ne (q := 278) (tgt := 287) dX1_advance_275 rfl (by decide) (fun h275 => ?_) (fun h275 => ?_)
      · refine o_vret hF rfl dX1_advance_287 ?_
        refine ⟨rfl, hrd f q7 q8, ?_⟩
        unfold nxt lex
        rw [ht, if_neg h4, mR_a]
        exact ⟨q5, q2, q3, fun h => q1 h h4, q4⟩
      · exact absurd (nI_inj (b := 4) (by omega) (by omega) (by first | exact h275 | exact Decidable.not_not.mp h275)) h4
  have K76 : ∀ (s : Nat) (f : Nat → Int32) (o2 : Option Value), s = rn isSp B L p0 → f 1 = nI (s + 1) → f 3 = nI s → f 4 = 0 → f 5 = 0 → f 7 = f0 7 → f 8 = f0 8 → (gJ E yX1_advance cX1_advance 3 (none) (gRm 1 0 0) F 76 ([some (.ref (x + 20)), some (.int (bA (-1) B L s)), o2]) ([]) 0 0 σ (mR m (x + 20) f) hi) := by
    intro s f o2 hs q1 q3 q4 q5 q7 q8
    refine j_iload_n (q := 77) dX1_advance_76 rfl (by rfl) ?_
    by_cases hsL : s < L
    · obtain ⟨b, hb, eb⟩ := hBb s hsL
      rw [bA_lt hsL]
      refine j_if_ge (q := 80) (tgt := 88) dX1_advance_77 rfl (by decide) (fun h77 => ?_) (fun h77 => ?_)
      · refine j_iload_n (q := 89) dX1_advance_88 rfl (by rfl) ?_
        refine j_bipush (q := 91) (v := 59) dX1_advance_89 rfl (by decide) ?_
        refine j_icmp_ne (q := 94) (tgt := 102) dX1_advance_91 rfl (by decide) (fun h91 => ?_) (fun h91 => ?_)
        · refine j_iload_n (q := 103) dX1_advance_102 rfl (by rfl) ?_
          refine o_callSi (q := 106) dX1_advance_103 rfl lX1_114 mwX1_isLetter msX1_isLetter (by rfl) rfl (Nat.le_of_ble_eq_true (by rfl)) (by first | decide | omega) (cR_isLetter E σ _ hi (B s)) ?_
          by_cases hle : isLe (B s)
          · rw [if_pos hle]
            refine j_if_eq (q := 109) (tgt := 159) dX1_advance_106 rfl (by decide) (fun h106 => ?_) (fun h106 => ?_)
            · exact absurd h106 (by decide)
            have K116 : ∀ (n p : Nat) (g : Nat → Int32), p + n = L → s < p → rn isLe B L p = rn isLe B L (s + 1) → g 1 = nI p → g 2 = 1 → g 3 = nI s → g 5 = 0 → g 7 = f0 7 → g 8 = f0 8 → (gJ E yX1_advance cX1_advance 3 (none) (gRm 1 0 0) F 116 ([some (.ref (x + 20)), some (.int (B s)), some (.int (nI (p - (s + 1))))]) ([]) 0 0 σ (mR m (x + 20) g) hi) := by
              intro n
              induction n with
              | zero =>
                intro p g hpn hsp hrn g1 g2 g3 g5 g7 g8
                have hpL : p = L := by omega
                subst hpL
                have hend : rn isLe B p (s + 1) = p := by rw [← hrn]; exact rn_L isLe B (Nat.le_refl _)
                have hlx : lx B p (rn isSp B p p0) = (1, s, p, 0) := by unfold lx; rw [← hs, if_neg (by omega), if_neg h91, if_pos hle, hend]
                have K := K270 g (some (.int (B s))) (some (.int (nI (p - (s + 1))))) _ hlx g2 g3 (fun _ _ => g1) (fun h => absurd h (by show ¬ 1 = 2; decide)) g5 g7 g8
                refine j_iload_n (q := 117) dX1_advance_116 rfl (by rfl) ?_
                refine j_sipush (q := 120) (v := 160) dX1_advance_117 rfl (by decide) ?_
                refine j_icmp_ge (q := 123) (tgt := 156) dX1_advance_120 rfl (by decide) (fun h120 => ?_) (fun h120 => ?_)
                · exact absurd h120 (nI_ge (a := p - (s + 1)) (b := 160) (by omega) (by omega))
                refine j_aload_n (q := 124) dX1_advance_123 rfl (by rfl) ?_
                refine j_getr (q := 127) dX1_advance_124 rfl fX1_12 (by assumption) (by rfl) ?_
                refine j_aload_n (q := 128) dX1_advance_127 rfl (by rfl) ?_
                refine j_geti (q := 131) dX1_advance_128 rfl fX1_18 (by assumption) (by rfl) ?_
                rw [mR_a, g1]
                refine o_callVi (q := 134) dX1_advance_131 rfl lX1_110 mwX4_byteAt mvX4_byteAt cn4 (by assumption) (by rfl) rfl (Nat.le_of_ble_eq_true (by rfl)) (by first | decide | omega) (hB g p (by omega)) ?_
                refine o_callSi (q := 137) dX1_advance_134 rfl lX1_114 mwX1_isLetter msX1_isLetter (by rfl) rfl (Nat.le_of_ble_eq_true (by rfl)) (by first | decide | omega) (cR_isLetter E σ _ hi _) ?_
                rw [bA_ge (Nat.le_refl _), if_neg not_m1.2.1]
                refine j_if_eq (q := 140) (tgt := 156) dX1_advance_137 rfl (by decide) (fun h137 => ?_) (fun h137 => ?_)
                · refine j_goto (tgt := 270) dX1_advance_156 (by decide) ?_
                  exact K
                · exact absurd rfl h137
              | succ n ih =>
                intro p g hpn hsp hrn g1 g2 g3 g5 g7 g8
                refine j_iload_n (q := 117) dX1_advance_116 rfl (by rfl) ?_
                refine j_sipush (q := 120) (v := 160) dX1_advance_117 rfl (by decide) ?_
                refine j_icmp_ge (q := 123) (tgt := 156) dX1_advance_120 rfl (by decide) (fun h120 => ?_) (fun h120 => ?_)
                · exact absurd h120 (nI_ge (a := p - (s + 1)) (b := 160) (by omega) (by omega))
                refine j_aload_n (q := 124) dX1_advance_123 rfl (by rfl) ?_
                refine j_getr (q := 127) dX1_advance_124 rfl fX1_12 (by assumption) (by rfl) ?_
                refine j_aload_n (q := 128) dX1_advance_127 rfl (by rfl) ?_
                refine j_geti (q := 131) dX1_advance_128 rfl fX1_18 (by assumption) (by rfl) ?_
                rw [mR_a, g1]
                refine o_callVi (q := 134) dX1_advance_131 rfl lX1_110 mwX4_byteAt mvX4_byteAt cn4 (by assumption) (by rfl) rfl (Nat.le_of_ble_eq_true (by rfl)) (by first | decide | omega) (hB g p (by omega)) ?_
                refine o_callSi (q := 137) dX1_advance_134 rfl lX1_114 mwX1_isLetter msX1_isLetter (by rfl) rfl (Nat.le_of_ble_eq_true (by rfl)) (by first | decide | omega) (cR_isLetter E σ _ hi _) ?_
                by_cases hl2 : isLe (bA (-1) B L p)
                · have hy := rn_y not_m1.2.1 hl2
                  rw [if_pos hl2]
                  refine j_if_eq (q := 140) (tgt := 156) dX1_advance_137 rfl (by decide) (fun h137 => ?_) (fun h137 => ?_)
                  · exact absurd h137 (by decide)
                  · refine j_aload_n (q := 141) dX1_advance_140 rfl (by rfl) ?_
                    refine j_dup (q := 142) dX1_advance_141 rfl rfl ?_
                    refine j_geti (q := 145) dX1_advance_142 rfl fX1_18 (by assumption) (by rfl) ?_
                    refine j_iconst (q := 146) (v := 1) dX1_advance_145 rfl (by decide) ?_
                    refine j_iadd (q := 147) dX1_advance_146 rfl ?_
                    refine j_puti (q := 150) dX1_advance_147 rfl fX1_18 p1_1 (by assumption) (by rfl) ?_
                    rw [mR_a, g1, nI_1, gW_mR]
                    refine j_iinc (q := 153) dX1_advance_150 rfl (by rfl) (by first | exact nI_inc _ | rfl) (by decide) ?_
                    refine j_goto (tgt := 116) dX1_advance_153 (by decide) ?_
                    have := ih (p + 1) (upd g 1 (nI (p + 1))) (by omega) (by omega) (by rw [← hy.2]; exact hrn) (by rw [pk_us]) (by rw [pk_un (by decide)]; exact g2) (by rw [pk_un (by decide)]; exact g3) (by rw [pk_un (by decide)]; exact g5) (by rw [pk_un (by decide)]; exact g7) (by rw [pk_un (by decide)]; exact g8)
                    rw [show p + 1 - (s + 1) = p - (s + 1) + 1 by omega] at this
                    exact this
                · have hno := rn_n hl2
                  have hend : rn isLe B L (s + 1) = p := by rw [← hrn]; exact hno
                  have hlx : lx B L (rn isSp B L p0) = (1, s, p, 0) := by unfold lx; rw [← hs, if_neg (by omega), if_neg h91, if_pos hle, hend]
                  have K := K270 g (some (.int (B s))) (some (.int (nI (p - (s + 1))))) _ hlx g2 g3 (fun _ _ => g1) (fun h => absurd h (by show ¬ 1 = 2; decide)) g5 g7 g8
                  rw [if_neg hl2]
                  refine j_if_eq (q := 140) (tgt := 156) dX1_advance_137 rfl (by decide) (fun h137 => ?_) (fun h137 => ?_)
                  · refine j_goto (tgt := 270) dX1_advance_156 (by decide) ?_
                    exact K
                  · exact absurd rfl h137
            refine j_aload_n (q := 110) dX1_advance_109 rfl (by rfl) ?_
            refine j_iconst (q := 111) (v := 1) dX1_advance_110 rfl (by decide) ?_
            refine j_puti (q := 114) dX1_advance_111 rfl fX1_43 p1_2 (by assumption) (by rfl) ?_
            refine j_iconst (q := 115) (v := 0) dX1_advance_114 rfl (by decide) ?_
            refine j_istore_n (q := 116) dX1_advance_115 rfl (by decide) ?_
            rw [gW_mR]
            have := K116 (L - (s + 1)) (s + 1) (upd f 2 1) (by omega) (by omega) rfl (by rw [pk_un (by decide)]; exact q1) (by rw [pk_us]) (by rw [pk_un (by decide)]; exact q3) (by rw [pk_un (by decide)]; exact q5) (by rw [pk_un (by decide)]; exact q7) (by rw [pk_un (by decide)]; exact q8)
            rw [show s + 1 - (s + 1) = 0 by omega] at this
            exact this
          · rw [if_neg hle]
            refine j_if_eq (q := 109) (tgt := 159) dX1_advance_106 rfl (by decide) (fun h106 => ?_) (fun h106 => ?_)
            · refine j_iload_n (q := 160) dX1_advance_159 rfl (by rfl) ?_
              refine o_callSi (q := 163) dX1_advance_160 rfl lX1_118 mwX1_isFigure msX1_isFigure (by rfl) rfl (Nat.le_of_ble_eq_true (by rfl)) (by first | decide | omega) (cR_isFigure E σ _ hi (B s)) ?_
              by_cases hfg : isFg (B s)
              · rw [if_pos hfg]
                refine j_if_eq (q := 166) (tgt := 265) dX1_advance_163 rfl (by decide) (fun h163 => ?_) (fun h163 => ?_)
                · exact absurd h163 (by decide)
                -- the number's end: how many figures were read
                have K240 : ∀ (e : Nat) (g : Nat → Int32) (o2 : Option Value) (v : Int32), e ≤ s + 3 → s < e → g 1 = nI e → g 3 = nI s → g 4 = v → g 5 = 0 → g 7 = f0 7 → g 8 = f0 8 → (e ≤ s + 2 → rn isFg B L (s + 1) = e ∧ v = (if rn isFg B L (s + 1) = s + 1 then B s - 48 else 10 * (B s - 48) + B (s + 1) - 48)) → (e = s + 3 → ¬ rn isFg B L (s + 1) ≤ s + 2) → (gJ E yX1_advance cX1_advance 3 (none) (gRm 1 0 0) F 240 ([some (.ref (x + 20)), some (.int (B s)), o2]) ([]) 0 0 σ (mR m (x + 20) g) hi) := by
                  intro e g o2 v he3 hse g1 g3 g4 g5 g7 g8 hA hC
                  refine j_aload_n (q := 241) dX1_advance_240 rfl (by rfl) ?_
                  refine j_aload_n (q := 242) dX1_advance_241 rfl (by rfl) ?_
                  refine j_geti (q := 245) dX1_advance_242 rfl fX1_18 (by assumption) (by rfl) ?_
                  refine j_aload_n (q := 246) dX1_advance_245 rfl (by rfl) ?_
                  refine j_geti (q := 249) dX1_advance_246 rfl fX1_54 (by assumption) (by rfl) ?_
                  rw [mR_a, g1, g3]
                  refine j_isub (q := 250) dX1_advance_249 rfl ?_
                  refine j_iconst (q := 251) (v := 2) dX1_advance_250 rfl (by decide) ?_
                  rw [pk_sub (by omega)]
                  by_cases h2 : e ≤ s + 2
                  · obtain ⟨hr, hv⟩ := hA h2
                    have hlx : lx B L (rn isSp B L p0) = (2, s, e, v) := by unfold lx; rw [← hs, if_neg (by omega), if_neg h91, if_neg hle, if_pos hfg, if_pos (by omega), ← hv, hr]
                    refine j_icmp_le (q := 254) (tgt := 258) dX1_advance_251 rfl (by decide) (fun h251 => ?_) (fun h251 => ?_)
                    · refine j_iconst (q := 259) (v := 2) dX1_advance_258 rfl (by decide) ?_
                      refine j_puti (q := 262) dX1_advance_259 rfl fX1_43 p1_2 (by assumption) (by rfl) ?_
                      refine j_goto (tgt := 270) dX1_advance_262 (by decide) ?_
                      rw [gW_mR]
                      exact K270 (upd g 2 2) _ _ _ hlx (by rw [pk_us]; rfl) (by rw [pk_un (by decide)]; exact g3) (fun _ _ => by rw [pk_un (by decide)]; exact g1) (fun _ => by rw [pk_un (by decide)]; exact g4) (by rw [pk_un (by decide)]; exact g5) (by rw [pk_un (by decide)]; exact g7) (by rw [pk_un (by decide)]; exact g8)
                    · exact absurd (show nI (e - s) ≤ 2 from nI_le (b := 2) (by omega) (by omega)) h251
                  · have hlx : lx B L (rn isSp B L p0) = (4, s, s, 0) := by unfold lx; rw [← hs, if_neg (by omega), if_neg h91, if_neg hle, if_pos hfg, if_neg (hC (by omega))]
                    refine j_icmp_le (q := 254) (tgt := 258) dX1_advance_251 rfl (by decide) (fun h251 => ?_) (fun h251 => ?_)
                    · exact absurd h251 (nI_ge (a := 2) (b := e - s) (by omega) (by omega))
                    · refine j_iconst (q := 255) (v := 4) dX1_advance_254 rfl (by decide) ?_
                      refine j_goto (tgt := 259) dX1_advance_255 (by decide) ?_
                      refine j_puti (q := 262) dX1_advance_259 rfl fX1_43 p1_2 (by assumption) (by rfl) ?_
                      refine j_goto (tgt := 270) dX1_advance_262 (by decide) ?_
                      rw [gW_mR]
                      exact K270 (upd g 2 4) _ _ _ hlx (by rw [pk_us]; rfl) (by rw [pk_un (by decide)]; exact g3) (fun _ h => absurd rfl h) (fun h => absurd h (by show ¬ 4 = 2; decide)) (by rw [pk_un (by decide)]; exact g5) (by rw [pk_un (by decide)]; exact g7) (by rw [pk_un (by decide)]; exact g8)
                refine j_aload_n (q := 167) dX1_advance_166 rfl (by rfl) ?_
                refine j_iload_n (q := 168) dX1_advance_167 rfl (by rfl) ?_
                refine j_bipush (q := 170) (v := 48) dX1_advance_168 rfl (by decide) ?_
                refine j_isub (q := 171) dX1_advance_170 rfl ?_
                refine j_puti (q := 174) dX1_advance_171 rfl fX1_104 p1_4 (by assumption) (by rfl) ?_
                refine j_iconst (q := 175) (v := 0) dX1_advance_174 rfl (by decide) ?_
                refine j_istore_n (q := 176) dX1_advance_175 rfl (by decide) ?_
                rw [gW_mR]
                refine j_iload_n (q := 177) dX1_advance_176 rfl (by rfl) ?_
                refine j_iconst (q := 178) (v := 2) dX1_advance_177 rfl (by decide) ?_
                refine j_icmp_ge (q := 181) (tgt := 240) dX1_advance_178 rfl (by decide) (fun h178 => ?_) (fun h178 => ?_)
                · exact absurd h178 (by decide)
                refine j_aload_n (q := 182) dX1_advance_181 rfl (by rfl) ?_
                refine j_getr (q := 185) dX1_advance_182 rfl fX1_12 (by assumption) (by rfl) ?_
                refine j_aload_n (q := 186) dX1_advance_185 rfl (by rfl) ?_
                refine j_geti (q := 189) dX1_advance_186 rfl fX1_18 (by assumption) (by rfl) ?_
                rw [mR_a, pk_un (show 1 ≠ 4 by decide), q1]
                refine o_callVi (q := 192) dX1_advance_189 rfl lX1_110 mwX4_byteAt mvX4_byteAt cn4 (by assumption) (by rfl) rfl (Nat.le_of_ble_eq_true (by rfl)) (by first | decide | omega) (hB _ (s + 1) (by omega)) ?_
                refine o_callSi (q := 195) dX1_advance_192 rfl lX1_118 mwX1_isFigure msX1_isFigure (by rfl) rfl (Nat.le_of_ble_eq_true (by rfl)) (by first | decide | omega) (cR_isFigure E σ _ hi _) ?_
                by_cases hf1 : isFg (bA (-1) B L (s + 1))
                · have hy := rn_y not_m1.2.2 hf1
                  rw [if_pos hf1]
                  refine j_if_eq (q := 198) (tgt := 240) dX1_advance_195 rfl (by decide) (fun h195 => ?_) (fun h195 => ?_)
                  · exact absurd h195 (by decide)
                  refine j_aload_n (q := 199) dX1_advance_198 rfl (by rfl) ?_
                  refine j_bipush (q := 201) (v := 10) dX1_advance_199 rfl (by decide) ?_
                  refine j_aload_n (q := 202) dX1_advance_201 rfl (by rfl) ?_
                  refine j_geti (q := 205) dX1_advance_202 rfl fX1_104 (by assumption) (by rfl) ?_
                  refine j_imul (q := 206) dX1_advance_205 rfl ?_
                  refine j_aload_n (q := 207) dX1_advance_206 rfl (by rfl) ?_
                  refine j_getr (q := 210) dX1_advance_207 rfl fX1_12 (by assumption) (by rfl) ?_
                  refine j_aload_n (q := 211) dX1_advance_210 rfl (by rfl) ?_
                  refine j_geti (q := 214) dX1_advance_211 rfl fX1_18 (by assumption) (by rfl) ?_
                  rw [mR_a, pk_us, pk_un (show 1 ≠ 4 by decide), q1]
                  refine o_callVi (q := 217) dX1_advance_214 rfl lX1_110 mwX4_byteAt mvX4_byteAt cn4 (by assumption) (by rfl) rfl (Nat.le_of_ble_eq_true (by rfl)) (by first | decide | omega) (hB _ (s + 1) (by omega)) ?_
                  refine j_iadd (q := 218) dX1_advance_217 rfl ?_
                  refine j_bipush (q := 220) (v := 48) dX1_advance_218 rfl (by decide) ?_
                  refine j_isub (q := 221) dX1_advance_220 rfl ?_
                  refine j_puti (q := 224) dX1_advance_221 rfl fX1_104 p1_4 (by assumption) (by rfl) ?_
                  rw [gW_mR, bA_lt hy.1]
                  refine j_aload_n (q := 225) dX1_advance_224 rfl (by rfl) ?_
                  refine j_dup (q := 226) dX1_advance_225 rfl rfl ?_
                  refine j_geti (q := 229) dX1_advance_226 rfl fX1_18 (by assumption) (by rfl) ?_
                  refine j_iconst (q := 230) (v := 1) dX1_advance_229 rfl (by decide) ?_
                  refine j_iadd (q := 231) dX1_advance_230 rfl ?_
                  refine j_puti (q := 234) dX1_advance_231 rfl fX1_18 p1_1 (by assumption) (by rfl) ?_
                  rw [mR_a, pk_un (show 1 ≠ 4 by decide), pk_un (show 1 ≠ 4 by decide), q1, nI_1, gW_mR]
                  refine j_iinc (q := 237) dX1_advance_234 rfl (by rfl) (by first | exact nI_inc _ | rfl) (by decide) ?_
                  refine j_goto (tgt := 176) dX1_advance_237 (by decide) ?_
                  refine j_iload_n (q := 177) dX1_advance_176 rfl (by rfl) ?_
                  refine j_iconst (q := 178) (v := 2) dX1_advance_177 rfl (by decide) ?_
                  refine j_icmp_ge (q := 181) (tgt := 240) dX1_advance_178 rfl (by decide) (fun h178b => ?_) (fun h178b => ?_)
                  · exact absurd h178b (by decide)
                  refine j_aload_n (q := 182) dX1_advance_181 rfl (by rfl) ?_
                  refine j_getr (q := 185) dX1_advance_182 rfl fX1_12 (by assumption) (by rfl) ?_
                  refine j_aload_n (q := 186) dX1_advance_185 rfl (by rfl) ?_
                  refine j_geti (q := 189) dX1_advance_186 rfl fX1_18 (by assumption) (by rfl) ?_
                  rw [mR_a, pk_us]
                  refine o_callVi (q := 192) dX1_advance_189 rfl lX1_110 mwX4_byteAt mvX4_byteAt cn4 (by assumption) (by rfl) rfl (Nat.le_of_ble_eq_true (by rfl)) (by first | decide | omega) (hB _ (s + 2) (by omega)) ?_
                  refine o_callSi (q := 195) dX1_advance_192 rfl lX1_118 mwX1_isFigure msX1_isFigure (by rfl) rfl (Nat.le_of_ble_eq_true (by rfl)) (by first | decide | omega) (cR_isFigure E σ _ hi _) ?_
                  by_cases hf2 : isFg (bA (-1) B L (s + 2))
                  · have hy2 := rn_y not_m1.2.2 hf2
                    have hr3 := rn_le isFg B (L := L) (p := s + 2 + 1) (by omega)
                    rw [if_pos hf2]
                    refine j_if_eq (q := 198) (tgt := 240) dX1_advance_195 rfl (by decide) (fun h195b => ?_) (fun h195b => ?_)
                    · exact absurd h195b (by decide)
                    refine j_aload_n (q := 199) dX1_advance_198 rfl (by rfl) ?_
                    refine j_bipush (q := 201) (v := 10) dX1_advance_199 rfl (by decide) ?_
                    refine j_aload_n (q := 202) dX1_advance_201 rfl (by rfl) ?_
                    refine j_geti (q := 205) dX1_advance_202 rfl fX1_104 (by assumption) (by rfl) ?_
                    refine j_imul (q := 206) dX1_advance_205 rfl ?_
                    refine j_aload_n (q := 207) dX1_advance_206 rfl (by rfl) ?_
                    refine j_getr (q := 210) dX1_advance_207 rfl fX1_12 (by assumption) (by rfl) ?_
                    refine j_aload_n (q := 211) dX1_advance_210 rfl (by rfl) ?_
                    refine j_geti (q := 214) dX1_advance_211 rfl fX1_18 (by assumption) (by rfl) ?_
                    rw [mR_a, pk_us]
                    refine o_callVi (q := 217) dX1_advance_214 rfl lX1_110 mwX4_byteAt mvX4_byteAt cn4 (by assumption) (by rfl) rfl (Nat.le_of_ble_eq_true (by rfl)) (by first | decide | omega) (hB _ (s + 2) (by omega)) ?_
                    refine j_iadd (q := 218) dX1_advance_217 rfl ?_
                    refine j_bipush (q := 220) (v := 48) dX1_advance_218 rfl (by decide) ?_
                    refine j_isub (q := 221) dX1_advance_220 rfl ?_
                    refine j_puti (q := 224) dX1_advance_221 rfl fX1_104 p1_4 (by assumption) (by rfl) ?_
                    rw [gW_mR]
                    refine j_aload_n (q := 225) dX1_advance_224 rfl (by rfl) ?_
                    refine j_dup (q := 226) dX1_advance_225 rfl rfl ?_
                    refine j_geti (q := 229) dX1_advance_226 rfl fX1_18 (by assumption) (by rfl) ?_
                    refine j_iconst (q := 230) (v := 1) dX1_advance_229 rfl (by decide) ?_
                    refine j_iadd (q := 231) dX1_advance_230 rfl ?_
                    refine j_puti (q := 234) dX1_advance_231 rfl fX1_18 p1_1 (by assumption) (by rfl) ?_
                    rw [mR_a, pk_un (show 1 ≠ 4 by decide), pk_us, nI_1, gW_mR]
                    refine j_iinc (q := 237) dX1_advance_234 rfl (by rfl) (by first | exact nI_inc _ | rfl) (by decide) ?_
                    refine j_goto (tgt := 176) dX1_advance_237 (by decide) ?_
                    refine j_iload_n (q := 177) dX1_advance_176 rfl (by rfl) ?_
                    refine j_iconst (q := 178) (v := 2) dX1_advance_177 rfl (by decide) ?_
                    refine j_icmp_ge (q := 181) (tgt := 240) dX1_advance_178 rfl (by decide) (fun h178c => ?_) (fun h178c => ?_)
                    · refine K240 (s + 3) _ _ _ (Nat.le_refl _) (by omega) (by rw [pk_us]) ?_ rfl ?_ ?_ ?_ (fun h => absurd h (by omega)) (fun _ => ?_)
                      · rw [pk_un (by decide), pk_un (by decide), pk_un (by decide), pk_un (by decide), pk_un (by decide)]; exact q3
                      · rw [pk_un (by decide), pk_un (by decide), pk_un (by decide), pk_un (by decide), pk_un (by decide)]; exact q5
                      · rw [pk_un (by decide), pk_un (by decide), pk_un (by decide), pk_un (by decide), pk_un (by decide)]; exact q7
                      · rw [pk_un (by decide), pk_un (by decide), pk_un (by decide), pk_un (by decide), pk_un (by decide)]; exact q8
                      · have e1 := hy.2
                        have e2 := hy2.2
                        rw [show s + 1 + 1 = s + 2 by omega] at e1
                        omega
                    · exact absurd (show (2 : Int32) ≤ nI 2 by decide) h178c
                  · have hno := rn_n hf2
                    have e1 := hy.2
                    rw [show s + 1 + 1 = s + 2 by omega, hno] at e1
                    rw [if_neg hf2]
                    refine j_if_eq (q := 198) (tgt := 240) dX1_advance_195 rfl (by decide) (fun h195b => ?_) (fun h195b => ?_)
                    · refine K240 (s + 2) _ _ (10 * (B s - 48) + B (s + 1) - 48) (by omega) (by omega) (by rw [pk_us]) ?_ ?_ ?_ ?_ ?_ (fun _ => ⟨e1, by rw [e1, if_neg (by omega)]⟩) (fun h => absurd h (by omega))
                      · rw [pk_un (by decide), pk_un (by decide), pk_un (by decide)]; exact q3
                      · rw [pk_un (by decide), pk_us]
                      · rw [pk_un (by decide), pk_un (by decide), pk_un (by decide)]; exact q5
                      · rw [pk_un (by decide), pk_un (by decide), pk_un (by decide)]; exact q7
                      · rw [pk_un (by decide), pk_un (by decide), pk_un (by decide)]; exact q8
                    · exact absurd rfl h195b
                · have e1 := rn_n hf1
                  rw [if_neg hf1]
                  refine j_if_eq (q := 198) (tgt := 240) dX1_advance_195 rfl (by decide) (fun h195 => ?_) (fun h195 => ?_)
                  · refine K240 (s + 1) _ _ (B s - 48) (by omega) (by omega) ?_ ?_ ?_ ?_ ?_ ?_ (fun _ => ⟨e1, by rw [e1, if_pos rfl]⟩) (fun h => absurd h (by omega))
                    · rw [pk_un (by decide)]; exact q1
                    · rw [pk_un (by decide)]; exact q3
                    · rw [pk_us]
                    · rw [pk_un (by decide)]; exact q5
                    · rw [pk_un (by decide)]; exact q7
                    · rw [pk_un (by decide)]; exact q8
                  · exact absurd rfl h195
              · rw [if_neg hfg]
                have hlx : lx B L (rn isSp B L p0) = (4, s, s, 0) := by unfold lx; rw [← hs, if_neg (by omega), if_neg h91, if_neg hle, if_neg hfg]
                refine j_if_eq (q := 166) (tgt := 265) dX1_advance_163 rfl (by decide) (fun h163 => ?_) (fun h163 => ?_)
                · refine j_aload_n (q := 266) dX1_advance_265 rfl (by rfl) ?_
                  refine j_iconst (q := 267) (v := 4) dX1_advance_266 rfl (by decide) ?_
                  refine j_puti (q := 270) dX1_advance_267 rfl fX1_43 p1_2 (by assumption) (by rfl) ?_
                  rw [gW_mR]
                  exact K270 (upd f 2 4) _ _ _ hlx (by rw [pk_us]; rfl) (by rw [pk_un (by decide)]; exact q3) (fun _ h => absurd rfl h) (fun h => absurd h (by show ¬ 4 = 2; decide)) (by rw [pk_un (by decide)]; exact q5) (by rw [pk_un (by decide)]; exact q7) (by rw [pk_un (by decide)]; exact q8)
                · exact absurd rfl h163
            · exact absurd rfl h106
        · have h59 : B s = 59 := by first | exact h91 | exact Decidable.not_not.mp h91
          have hlx : lx B L (rn isSp B L p0) = (3, s, s + 1, 0) := by unfold lx; rw [← hs, if_neg (by omega), if_pos h59]
          refine j_aload_n (q := 95) dX1_advance_94 rfl (by rfl) ?_
          refine j_iconst (q := 96) (v := 3) dX1_advance_95 rfl (by decide) ?_
          refine j_puti (q := 99) dX1_advance_96 rfl fX1_43 p1_2 (by assumption) (by rfl) ?_
          refine j_goto (tgt := 270) dX1_advance_99 (by decide) ?_
          rw [gW_mR]
          exact K270 (upd f 2 3) _ _ _ hlx (by rw [pk_us]; rfl) (by rw [pk_un (by decide)]; exact q3) (fun _ _ => by rw [pk_un (by decide)]; exact q1) (fun h => absurd h (by show ¬ 3 = 2; decide)) (by rw [pk_un (by decide)]; exact q5) (by rw [pk_un (by decide)]; exact q7) (by rw [pk_un (by decide)]; exact q8)
      · exact absurd (by rw [eb]; exact nI_pos' (by omega)) h77
    · rw [bA_ge (by omega)]
      have hlx : lx B L (rn isSp B L p0) = (0, s, s, 0) := by unfold lx; rw [← hs, if_pos (by omega)]
      refine j_if_ge (q := 80) (tgt := 88) dX1_advance_77 rfl (by decide) (fun h77 => ?_) (fun h77 => ?_)
      · exact absurd h77 (by decide)
      · refine j_aload_n (q := 81) dX1_advance_80 rfl (by rfl) ?_
        refine j_iconst (q := 82) (v := 0) dX1_advance_81 rfl (by decide) ?_
        refine j_puti (q := 85) dX1_advance_82 rfl fX1_43 p1_2 (by assumption) (by rfl) ?_
        refine j_goto (tgt := 270) dX1_advance_85 (by decide) ?_
        rw [gW_mR]
        exact K270 (upd f 2 0) _ _ _ hlx (by rw [pk_us]; rfl) (by rw [pk_un (by decide)]; exact q3) (fun h => absurd rfl h) (fun h => absurd h (by show ¬ 0 = 2; decide)) (by rw [pk_un (by decide)]; exact q5) (by rw [pk_un (by decide)]; exact q7) (by rw [pk_un (by decide)]; exact q8)
  have K41 : ∀ (s : Nat) (f : Nat → Int32) (o1 : Option Value), s = rn isSp B L p0 → s ≤ L → f 1 = nI s → f 5 = 0 → f 7 = f0 7 → f 8 = f0 8 → (gJ E yX1_advance cX1_advance 3 (none) (gRm 1 0 0) F 41 ([some (.ref (x + 20)), o1, none]) ([]) 0 0 σ (mR m (x + 20) f) hi) := by
    intro s f o1 hs hsL q1 q5 q7 q8
    refine j_aload_n (q := 42) dX1_advance_41 rfl (by rfl) ?_
    refine j_aload_n (q := 43) dX1_advance_42 rfl (by rfl) ?_
    refine j_geti (q := 46) dX1_advance_43 rfl fX1_18 (by assumption) (by rfl) ?_
    refine j_puti (q := 49) dX1_advance_46 rfl fX1_54 p1_3 (by assumption) (by rfl) ?_
    rw [mR_a, q1, gW_mR]
    refine j_aload_n (q := 50) dX1_advance_49 rfl (by rfl) ?_
    refine j_iconst (q := 51) (v := 0) dX1_advance_50 rfl (by decide) ?_
    refine j_puti (q := 54) dX1_advance_51 rfl fX1_104 p1_4 (by assumption) (by rfl) ?_
    refine j_aload_n (q := 55) dX1_advance_54 rfl (by rfl) ?_
    refine j_getr (q := 58) dX1_advance_55 rfl fX1_12 (by assumption) (by rfl) ?_
    refine j_aload_n (q := 59) dX1_advance_58 rfl (by rfl) ?_
    refine j_geti (q := 62) dX1_advance_59 rfl fX1_18 (by assumption) (by rfl) ?_
    rw [gW_mR, mR_a, pk_un (show 1 ≠ 4 by decide), pk_un (show 1 ≠ 3 by decide), q1]
    refine o_callVi (q := 65) dX1_advance_62 rfl lX1_110 mwX4_byteAt mvX4_byteAt cn4 (by assumption) (by rfl) rfl (Nat.le_of_ble_eq_true (by rfl)) (by first | decide | omega) (hB _ s (by omega)) ?_
    refine j_istore_n (q := 66) dX1_advance_65 rfl (by decide) ?_
    refine j_aload_n (q := 67) dX1_advance_66 rfl (by rfl) ?_
    refine j_dup (q := 68) dX1_advance_67 rfl rfl ?_
    refine j_geti (q := 71) dX1_advance_68 rfl fX1_18 (by assumption) (by rfl) ?_
    refine j_iconst (q := 72) (v := 1) dX1_advance_71 rfl (by decide) ?_
    refine j_iadd (q := 73) dX1_advance_72 rfl ?_
    refine j_puti (q := 76) dX1_advance_73 rfl fX1_18 p1_1 (by assumption) (by rfl) ?_
    rw [mR_a, pk_un (show 1 ≠ 4 by decide), pk_un (show 1 ≠ 3 by decide), q1, nI_1, gW_mR]
    refine K76 s _ _ hs (by rw [pk_us]) ?_ ?_ ?_ ?_ ?_
    · rw [pk_un (by decide), pk_un (by decide), pk_us]
    · rw [pk_un (by decide), pk_us]
    · rw [pk_un (by decide), pk_un (by decide), pk_un (by decide)]; exact q5
    · rw [pk_un (by decide), pk_un (by decide), pk_un (by decide)]; exact q7
    · rw [pk_un (by decide), pk_un (by decide), pk_un (by decide)]; exact q8
  have K2 : ∀ (n p : Nat) (f : Nat → Int32), p + n = L → p0 ≤ p → rn isSp B L p = rn isSp B L p0 → f 1 = nI p → f 5 = 0 → f 7 = f0 7 → f 8 = f0 8 → (gJ E yX1_advance cX1_advance 3 (none) (gRm 1 0 0) F 2 ([some (.ref (x + 20)), some (.int (nI (p - p0))), none]) ([]) 0 0 σ (mR m (x + 20) f) hi) := by
    intro n
    induction n with
    | zero =>
      intro p f hpn hp hrn q1 q5 q7 q8
      have hpL : p = L := by omega
      subst hpL
      have hs : p = rn isSp B p p0 := by rw [← hrn]; exact (rn_L isSp B (Nat.le_refl _)).symm
      have K := K41 p f (some (.int (nI (p - p0)))) hs (Nat.le_refl _) q1 q5 q7 q8
      refine j_iload_n (q := 3) dX1_advance_2 rfl (by rfl) ?_
      refine j_sipush (q := 6) (v := 160) dX1_advance_3 rfl (by decide) ?_
      refine j_icmp_ge (q := 9) (tgt := 41) dX1_advance_6 rfl (by decide) (fun h6 => ?_) (fun h6 => ?_)
      · exact K
      refine j_aload_n (q := 10) dX1_advance_9 rfl (by rfl) ?_
      refine j_getr (q := 13) dX1_advance_10 rfl fX1_12 (by assumption) (by rfl) ?_
      refine j_aload_n (q := 14) dX1_advance_13 rfl (by rfl) ?_
      refine j_geti (q := 17) dX1_advance_14 rfl fX1_18 (by assumption) (by rfl) ?_
      rw [mR_a, q1]
      refine o_callVi (q := 20) dX1_advance_17 rfl lX1_110 mwX4_byteAt mvX4_byteAt cn4 (by assumption) (by rfl) rfl (Nat.le_of_ble_eq_true (by rfl)) (by first | decide | omega) (hB f p (by omega)) ?_
      refine j_bipush (q := 22) (v := 32) dX1_advance_20 rfl (by decide) ?_
      rw [bA_ge (Nat.le_refl _)]
      refine j_icmp_ne (q := 25) (tgt := 41) dX1_advance_22 rfl (by decide) (fun h22 => ?_) (fun h22 => ?_)
      · exact K
      · exact absurd (by first | exact h22 | exact Decidable.not_not.mp h22) (show ¬ (-1 : Int32) = 32 by decide)
    | succ n ih =>
      intro p f hpn hp hrn q1 q5 q7 q8
      refine j_iload_n (q := 3) dX1_advance_2 rfl (by rfl) ?_
      refine j_sipush (q := 6) (v := 160) dX1_advance_3 rfl (by decide) ?_
      refine j_icmp_ge (q := 9) (tgt := 41) dX1_advance_6 rfl (by decide) (fun h6 => ?_) (fun h6 => ?_)
      · exact absurd h6 (nI_ge (a := p - p0) (b := 160) (by omega) (by omega))
      refine j_aload_n (q := 10) dX1_advance_9 rfl (by rfl) ?_
      refine j_getr (q := 13) dX1_advance_10 rfl fX1_12 (by assumption) (by rfl) ?_
      refine j_aload_n (q := 14) dX1_advance_13 rfl (by rfl) ?_
      refine j_geti (q := 17) dX1_advance_14 rfl fX1_18 (by assumption) (by rfl) ?_
      rw [mR_a, q1]
      refine o_callVi (q := 20) dX1_advance_17 rfl lX1_110 mwX4_byteAt mvX4_byteAt cn4 (by assumption) (by rfl) rfl (Nat.le_of_ble_eq_true (by rfl)) (by first | decide | omega) (hB f p (by omega)) ?_
      refine j_bipush (q := 22) (v := 32) dX1_advance_20 rfl (by decide) ?_
      refine j_icmp_ne (q := 25) (tgt := 41) dX1_advance_22 rfl (by decide) (fun h22 => ?_) (fun h22 => ?_)
      · have hs := rn_n (P := isSp) (z := -1) (B := B) (L := L) (p := p) h22
        exact K41 p f _ (by rw [← hrn]; exact hs.symm) (by omega) q1 q5 q7 q8
      · have hy := rn_y (P := isSp) not_m1.1 (show isSp (bA (-1) B L p) by first | exact h22 | exact Decidable.not_not.mp h22)
        refine j_aload_n (q := 26) dX1_advance_25 rfl (by rfl) ?_
        refine j_dup (q := 27) dX1_advance_26 rfl rfl ?_
        refine j_geti (q := 30) dX1_advance_27 rfl fX1_18 (by assumption) (by rfl) ?_
        refine j_iconst (q := 31) (v := 1) dX1_advance_30 rfl (by decide) ?_
        refine j_iadd (q := 32) dX1_advance_31 rfl ?_
        refine j_puti (q := 35) dX1_advance_32 rfl fX1_18 p1_1 (by assumption) (by rfl) ?_
        rw [mR_a, q1, nI_1, gW_mR]
        refine j_iinc (q := 38) dX1_advance_35 rfl (by rfl) (by first | exact nI_inc _ | rfl) (by decide) ?_
        refine j_goto (tgt := 2) dX1_advance_38 (by decide) ?_
        have := ih (p + 1) (upd f 1 (nI (p + 1))) (by omega) (by omega) (by rw [← hy.2]; exact hrn) (by rw [pk_us]) (by rw [pk_un (by decide)]; exact q5) (by rw [pk_un (by decide)]; exact q7) (by rw [pk_un (by decide)]; exact q8)
        rw [show p + 1 - p0 = p - p0 + 1 by omega] at this
        exact this
  refine j_iconst (q := 1) (v := 0) dX1_advance_0 rfl (by decide) ?_
  refine j_istore_n (q := 2) dX1_advance_1 rfl (by decide) ?_
  have := K2 (L - p0) p0 f0 (by omega) (Nat.le_refl _) rfl h1 h5 rfl rfl
  rw [show p0 - p0 = 0 by omega, ← hf0, mR_self] at this
  exact this
