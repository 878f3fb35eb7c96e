/-! the reference: its reader -/
def okTR (m : gMem) (t L : Nat) : Prop := m.1 t 5 = nI L ∧ L ≤ 160 ∧ ∀ p, p < L → ∃ b, b < 128 ∧ m.1 (t + 3) p = nI b
def ks (f0 f : Nat → Int32) : Prop := ∀ k, ¬ (7 ≤ k ∧ k ≤ 12) → f k = f0 k
theorem ks.rf (f : Nat → Int32) : ks f f := fun _ _ => rfl
theorem ks.tr {f0 f f' : Nat → Int32} (h : ks f0 f) (h' : ks f f') : ks f0 f' := fun k hk => (h' k hk).trans (h k hk)
theorem ks.up {f0 f : Nat → Int32} (h : ks f0 f) {k : Nat} (hk : 7 ≤ k ∧ k ≤ 12) (v : Int32) : ks f0 (upd f k v) := fun j hj => by rw [pk_un (by omega)]; exact h j hj
def RSR (f : Nat → Int32) : pT → Prop
  | .inl e => f 7 = nI e.1 ∧ f 8 = nI e.2
  | .inr t => f 7 = 0 ∧ f 11 = nI t.1 ∧ f 10 = nI t.2.1 ∧ f 9 = nI t.2.2.1 ∧ (t.1 = 2 → f 12 = t.2.2.2)
def rdq (t : Nat) (m m' : gMem) : Prop := ∃ f, m' = mR m t f ∧ ks (m.1 t) f
theorem rdq.rf (t : Nat) (m : gMem) : rdq t m m := ⟨m.1 t, (mR_self m t).symm, ks.rf _⟩
theorem rdq.tr {t : Nat} {m m' m'' : gMem} (h : rdq t m m') (h' : rdq t m' m'') : rdq t m m'' := by
  obtain ⟨f, rfl, hf⟩ := h
  obtain ⟨f', rfl, hf'⟩ := h'
  rw [mR_a] at hf'
  exact ⟨f', mR_mR m t f f', hf.tr hf'⟩
theorem rdq.n {t : Nat} {m m' : gMem} (h : rdq t m m') {q : Nat} (hq : q ≠ t) : m'.1 q = m.1 q := by
  obtain ⟨f, rfl, -⟩ := h
  exact mR_n hq f
theorem rdq.k {t : Nat} {m m' : gMem} (h : rdq t m m') {k : Nat} (hk : ¬ (7 ≤ k ∧ k ≤ 12)) : m'.1 t k = m.1 t k := by
  obtain ⟨f, rfl, hf⟩ := h
  rw [mR_a]
  exact hf k hk
theorem okTR.q {t L : Nat} {m m' : gMem} (h : okTR m t L) (hr : rdq t m m') : okTR m' t L := by
  unfold okTR
  rw [hr.k (by omega), hr.n (by omega)]
  exact h
theorem cM_byteAt (E : gEv) (σ : gSg) (m : gMem) (hi t L p : Nat) (hR : gR σ t) (h5 : m.1 t 5 = nI L) (hL : L ≤ 160) (hp : p < 2 ^ 30) : gCo E yX7_byteAt cX7_byteAt 2 (some .int) 0 [.ref t, .int (nI p)] σ m hi (gX (some (.int (bA (-4) (m.1 (t + 3)) L p))) m) := by
  refine gCo.of mwX7_byteAt (Nat.le_of_ble_eq_true rfl) ?_
  intro F hF
  have h0 := hR.1
  have h3 := hR.2.2.2.1
  refine j_iload_n (q := 1) dX7_byteAt_0 rfl (by rfl) ?_
  refine j_aload_n (q := 2) dX7_byteAt_1 rfl (by rfl) ?_
  refine j_geti (q := 5) dX7_byteAt_2 rfl fX7_59 (by first | with_reducible assumption | assumption) (by rfl) ?_
  rw [h5]
  by_cases hlt : p < L
  · have ix : gIdx (nI p) 160 p := gIdx.of rfl (by omega) (by decide)
    rw [bA_lt hlt] at hF
    refine j_icmp_ge (q := 8) (tgt := 17) dX7_byteAt_5 rfl (by decide) (fun h5' => ?_) (fun h5' => ?_)
    · exact absurd h5' (nI_ge hlt (by omega))
    refine j_aload_n (q := 9) dX7_byteAt_8 rfl (by rfl) ?_
    refine j_getr (q := 12) dX7_byteAt_9 rfl fX7_16 (by first | with_reducible assumption | assumption) (by rfl) ?_
    refine j_iload_n (q := 13) dX7_byteAt_12 rfl (by rfl) ?_
    refine j_iaload (q := 14) dX7_byteAt_13 rfl (by first | with_reducible assumption | assumption) (by first | with_reducible assumption | assumption) ?_
    refine j_goto (tgt := 19) dX7_byteAt_14 (by decide) ?_
    refine o_iret hF rfl dX7_byteAt_19 ?_
    exact ⟨rfl, rfl⟩
  · rw [bA_ge (by omega)] at hF
    refine j_icmp_ge (q := 8) (tgt := 17) dX7_byteAt_5 rfl (by decide) (fun h5' => ?_) (fun h5' => ?_)
    · refine j_bipush (q := 19) (v := (-4)) dX7_byteAt_17 rfl (by decide) ?_
      refine o_iret hF rfl dX7_byteAt_19 ?_
      exact ⟨rfl, rfl⟩
    · exact absurd (nI_le (by omega) (by omega)) h5'
theorem cM_fails (E : gEv) (σ : gSg) (m : gMem) (hi t : Nat) (f : Nat → Int32) (c : Int32) (hR : gR σ t) : gCo E yX7_fails cX7_fails 2 (none) 0 [.ref t, .int c] σ (mR m t f) hi (gX none (mR m t (if f 7 = 0 then upd (upd f 7 c) 8 (f 10) else f))) := by
  refine gCo.of mwX7_fails (Nat.le_of_ble_eq_true rfl) ?_
  intro F hF
  have h0 := hR.1
  refine j_aload_n (q := 1) dX7_fails_0 rfl (by rfl) ?_
  refine j_geti (q := 4) dX7_fails_1 rfl fX7_63 (by first | with_reducible assumption | assumption) (by rfl) ?_
  rw [mR_a]
  refine j_if_ne (q := 7) (tgt := 20) dX7_fails_4 rfl (by decide) (fun h4 => ?_) (fun h4 => ?_)
  · refine o_vret hF rfl dX7_fails_20 ?_
    rw [if_neg h4]
    exact ⟨rfl, rfl⟩
  · have h4' : f 7 = 0 := by first | exact h4 | exact Decidable.not_not.mp h4
    rw [if_pos h4'] at hF
    refine j_aload_n (q := 8) dX7_fails_7 rfl (by rfl) ?_
    refine j_iload_n (q := 9) dX7_fails_8 rfl (by rfl) ?_
    refine j_puti (q := 12) dX7_fails_9 rfl fX7_63 p7_7 (by first | with_reducible assumption | assumption) (by rfl) ?_
    rw [gW_mR]
    refine j_aload_n (q := 13) dX7_fails_12 rfl (by rfl) ?_
    refine j_aload_n (q := 14) dX7_fails_13 rfl (by rfl) ?_
    refine j_geti (q := 17) dX7_fails_14 rfl fX7_66 (by first | with_reducible assumption | assumption) (by rfl) ?_
    rw [mR_a, pk_un (by decide)]
    refine j_puti (q := 20) dX7_fails_17 rfl fX7_69 p7_8 (by first | with_reducible assumption | assumption) (by rfl) ?_
    rw [gW_mR]
    refine o_vret hF rfl dX7_fails_20 ?_
    exact ⟨rfl, rfl⟩
theorem cM_readsOn0 (E : gEv) (σ : gSg) (m : gMem) (hi t : Nat) (hR : gR σ t) (h7 : ¬ m.1 t 7 ≤ 0) : gCo E yX7_readsOn cX7_readsOn 2 (none) 1 [.ref t] σ m hi (gX none m) := by
  refine gCo.of mwX7_readsOn (Nat.le_of_ble_eq_true rfl) ?_
  intro F hF
  have h0 := hR.1
  refine j_aload_n (q := 1) dX7_readsOn_0 rfl (by rfl) ?_
  refine j_geti (q := 4) dX7_readsOn_1 rfl fX7_63 (by first | with_reducible assumption | assumption) (by rfl) ?_
  refine j_if_le (q := 7) (tgt := 8) dX7_readsOn_4 rfl (by decide) (fun h4 => ?_) (fun h4 => ?_)
  · exact absurd h4 h7
  refine o_vret hF rfl dX7_readsOn_7 ?_
  exact ⟨rfl, rfl⟩
theorem not_m4 : ¬ isSp (-4) ∧ ¬ isLe (-4) ∧ ¬ isFg (-4) := by decide
theorem le_ne59 {b : Int32} (h : isLe b) : ¬ b = 59 := fun e => absurd h (by rw [e]; decide)
theorem fg_ne59 {b : Int32} (h : isFg b) : ¬ b = 59 := fun e => absurd h (by rw [e]; decide)
theorem v10 (x : Int32) : (10 : Int32) * 0 + x - 48 = x - 48 := by rw [Int32.mul_zero, Int32.zero_add]
theorem cM_readsOn1 (E : gEv) (σ : gSg) (m : gMem) (hi t L p0 : Nat) (hR : gR σ t) (hT : okTR m t L) (h7 : m.1 t 7 = 0) (h9 : m.1 t 9 = nI p0) (hp0 : p0 ≤ L) : gCo E yX7_readsOn cX7_readsOn 2 (none) 1 [.ref t] σ m hi (fun v' m' => v' = none ∧ rdq t m m' ∧ RSR (m'.1 t) (nxt (m.1 (t + 3)) L p0)) := by
  refine gCo.of mwX7_readsOn (Nat.le_of_ble_eq_true rfl) ?_
  intro F hF
  have h0 := hR.1
  have hL := hT.2.1
  have hB : ∀ (f : Nat → Int32) (p : Nat), ks (m.1 t) f → p ≤ 1000 → gCo E yX7_byteAt cX7_byteAt 2 (some .int) 0 [.ref t, .int (nI p)] σ (mR m t f) hi (gX (some (.int (bA (-4) (m.1 (t + 3)) L p))) (mR m t f)) := by
    intro f p hf hp
    have := cM_byteAt E σ (mR m t f) hi t L p hR (by rw [mR_a, hf 5 (by omega)]; exact hT.1) hL (by omega)
    rw [mR_n (show t + 3 ≠ t by omega)] at this
    exact this
  generalize hBe : m.1 (t + 3) = B at hB hF
  have hBb : ∀ p, p < L → ∃ b, b < 128 ∧ B p = nI b := fun p hp => by rw [← hBe]; exact hT.2.2 p hp
  generalize hf0 : m.1 t = f0 at *
  have hrd : ∀ f, ks f0 f → rdq t m (mR m t f) := fun f hf => ⟨f, rfl, by rw [hf0]; exact hf⟩
  have hsr := rn_le isSp B (L := L) hp0
  generalize hS : rn isSp B L p0 = s at *
  -- the end: a token, or none
  have Ktok : ∀ (f : Nat → Int32) (o1 : Option Value) (u : tkT), lx B L s = u → u.1 ≠ 4 → f 7 = 0 → f 11 = nI u.1 → f 10 = nI u.2.1 → f 9 = nI u.2.2.1 → (u.1 = 2 → f 12 = u.2.2.2) → ks f0 f → (gJ E yX7_readsOn cX7_readsOn 2 (none) (gRm 1 0 0) F 269 ([some (.ref t), o1]) ([]) 0 0 σ (mR m t f) hi) := by
    intro f o1 u hu h4 q7 q11 q10 q9 q12 hk
    refine o_vret hF rfl dX7_readsOn_269 ?_
    refine ⟨rfl, hrd f hk, ?_⟩
    unfold nxt lex
    rw [hS, hu, if_neg h4, mR_a]
    exact ⟨q7, q11, q10, q9, q12⟩
  have Kbad : ∀ (f : Nat → Int32), (lx B L s).1 = 4 → (lx B L s).2.1 = s → f 7 = 0 → f 10 = nI s → ks f0 f → (rdq t m (mR m t (if f 7 = 0 then upd (upd f 7 1) 8 (f 10) else f)) ∧ RSR ((mR m t (if f 7 = 0 then upd (upd f 7 1) 8 (f 10) else f)).1 t) (nxt B L p0)) := by
    intro f h4 h5 q7 q10 hk
    rw [if_pos q7]
    refine ⟨hrd _ ((hk.up (by omega) _).up (by omega) _), ?_⟩
    unfold nxt lex
    rw [hS, if_pos h4, h5, mR_a]
    exact ⟨by rw [pk_un (by decide), pk_us]; rfl, by rw [pk_us]; exact q10⟩
  have K56 : ∀ (f : Nat → Int32), f 7 = 0 → f 9 = nI s → f 10 = nI s → f 12 = 0 → ks f0 f → (gJ E yX7_readsOn cX7_readsOn 2 (none) (gRm 1 0 0) F 56 ([some (.ref t), some (.int (bA (-4) B L s))]) ([]) 0 0 σ (mR m t f) hi) := by
    intro f q7 q9 q10 q12 hk
    refine j_iload_n (q := 57) dX7_readsOn_56 rfl (by rfl) ?_
    refine j_bipush (q := 59) (v := (-4)) dX7_readsOn_57 rfl (by decide) ?_
    by_cases hsL : s < L
    · obtain ⟨b, hb, eb⟩ := hBb s hsL
      have hn4 : ¬ B s = -4 := by rw [eb]; exact fun q => nI_pos (n := b) (by omega) (by rw [q]; decide)
      have eA : bA (-4) B L s = B s := bA_lt hsL
      rw [eA]
      have hI1 := fun mm => cM_inI E σ mm hi (B s) 97 122 (L := 97) (H := 122) (by decide) (by decide)
      have hI2 := fun mm => cM_inI E σ mm hi (B s) 48 57 (L := 48) (H := 57) (by decide) (by decide)
      simp only [sWi_eq] at hI1 hI2
      refine j_icmp_ne (q := 62) (tgt := 70) dX7_readsOn_59 rfl (by decide) (fun h59 => ?_) (fun h59 => ?_)
      · refine j_iload_n (q := 71) dX7_readsOn_70 rfl (by rfl) ?_
        refine j_i2l (q := 72) dX7_readsOn_71 rfl ?_
        refine j_ldc2 (q := 75) dX7_readsOn_72 rfl kX7_85 ?_
        refine j_ldc2 (q := 78) dX7_readsOn_75 rfl kX7_87 ?_
        refine o_callSi (q := 81) dX7_readsOn_78 rfl lX7_55 mwX7_in msX7_in (by rfl) rfl (Nat.le_of_ble_eq_true (by rfl)) (by first | decide | omega) (hI1 _) ?_
        by_cases hle : isLe (B s)
        · rw [if_pos hle]
          refine j_if_eq (q := 84) (tgt := 126) dX7_readsOn_81 rfl (by decide) (fun h81 => ?_) (fun h81 => ?_)
          · exact absurd h81 (by decide)
          have hr1 := (rn_y (z := -4) (B := B) (L := L) (p := s) not_m4.2.1 (by rw [eA]; exact hle)).2
          have K84 : ∀ (n p : Nat) (g : Nat → Int32), p + n = L → s ≤ p → rn isLe B L p = rn isLe B L s → g 7 = 0 → g 9 = nI p → g 10 = nI s → ks f0 g → (gJ E yX7_readsOn cX7_readsOn 2 (none) (gRm 1 0 0) F 84 ([some (.ref t), some (.int (B s))]) ([]) 0 0 σ (mR m t g) hi) := by
            intro n
            induction n with
            | zero =>
              intro p g hpn hsp hrn g7 g9 g10 hg
              have hpL : p = L := by omega
              have hend : rn isLe B L (s + 1) = p := by rw [← hr1, ← hrn]; exact rn_L isLe B (by omega)
              have hlx : lx B L s = (1, s, p, 0) := by unfold lx; rw [if_neg (by omega), if_neg (le_ne59 hle), if_pos hle, hend]
              have hI := cM_inI E σ (mR m t g) hi (-4) 97 122 (L := 97) (H := 122) (by decide) (by decide)
              rw [show sWi (-4) 97 122 = 0 by decide] at hI
              refine j_aload_n (q := 85) dX7_readsOn_84 rfl (by rfl) ?_
              refine j_aload_n (q := 86) dX7_readsOn_85 rfl (by rfl) ?_
              refine j_geti (q := 89) dX7_readsOn_86 rfl fX7_75 (by first | with_reducible assumption | assumption) (by rfl) ?_
              rw [mR_a, g9]
              refine o_callVi (q := 92) dX7_readsOn_89 rfl lX7_78 mwX7_byteAt mvX7_byteAt cn7 (by assumption) (by rfl) rfl (Nat.le_of_ble_eq_true (by rfl)) (by first | decide | omega) (hB g p hg (by omega)) ?_
              rw [bA_ge (by omega)]
              refine j_i2l (q := 93) dX7_readsOn_92 rfl ?_
              refine j_ldc2 (q := 96) dX7_readsOn_93 rfl kX7_85 ?_
              refine j_ldc2 (q := 99) dX7_readsOn_96 rfl kX7_87 ?_
              refine o_callSi (q := 102) dX7_readsOn_99 rfl lX7_55 mwX7_in msX7_in (by rfl) rfl (Nat.le_of_ble_eq_true (by rfl)) (by first | decide | omega) (hI) ?_
              refine j_if_eq (q := 105) (tgt := 118) dX7_readsOn_102 rfl (by decide) (fun h102 => ?_) (fun h102 => ?_)
              · refine j_aload_n (q := 119) dX7_readsOn_118 rfl (by rfl) ?_
                refine j_iconst (q := 120) (v := 1) dX7_readsOn_119 rfl (by decide) ?_
                refine j_puti (q := 123) dX7_readsOn_120 rfl fX7_72 p7_11 (by first | with_reducible assumption | assumption) (by rfl) ?_
                rw [gW_mR]
                refine j_goto (tgt := 269) dX7_readsOn_123 (by decide) ?_
                exact Ktok _ _ _ hlx (by show ¬ 1 = 4; decide) (by rw [pk_un (by decide)]; exact g7) (by rw [pk_us]; rfl) (by rw [pk_un (by decide)]; exact g10) (by rw [pk_un (by decide)]; exact g9) (fun h => absurd h (by show ¬ 1 = 2; decide)) (hg.up (by omega) _)
              · exact absurd rfl h102
            | succ n ih =>
              intro p g hpn hsp hrn g7 g9 g10 hg
              have hI := cM_inI E σ (mR m t g) hi (bA (-4) B L p) 97 122 (L := 97) (H := 122) (by decide) (by decide)
              rw [sWi_eq] at hI
              refine j_aload_n (q := 85) dX7_readsOn_84 rfl (by rfl) ?_
              refine j_aload_n (q := 86) dX7_readsOn_85 rfl (by rfl) ?_
              refine j_geti (q := 89) dX7_readsOn_86 rfl fX7_75 (by first | with_reducible assumption | assumption) (by rfl) ?_
              rw [mR_a, g9]
              refine o_callVi (q := 92) dX7_readsOn_89 rfl lX7_78 mwX7_byteAt mvX7_byteAt cn7 (by assumption) (by rfl) rfl (Nat.le_of_ble_eq_true (by rfl)) (by first | decide | omega) (hB g p hg (by omega)) ?_
              refine j_i2l (q := 93) dX7_readsOn_92 rfl ?_
              refine j_ldc2 (q := 96) dX7_readsOn_93 rfl kX7_85 ?_
              refine j_ldc2 (q := 99) dX7_readsOn_96 rfl kX7_87 ?_
              refine o_callSi (q := 102) dX7_readsOn_99 rfl lX7_55 mwX7_in msX7_in (by rfl) rfl (Nat.le_of_ble_eq_true (by rfl)) (by first | decide | omega) (hI) ?_
              by_cases hl2 : isLe (bA (-4) B L p)
              · have hy := rn_y not_m4.2.1 hl2
                rw [if_pos hl2]
                refine j_if_eq (q := 105) (tgt := 118) dX7_readsOn_102 rfl (by decide) (fun h102 => ?_) (fun h102 => ?_)
                · exact absurd h102 (by decide)
                refine j_aload_n (q := 106) dX7_readsOn_105 rfl (by rfl) ?_
                refine j_dup (q := 107) dX7_readsOn_106 rfl rfl ?_
                refine j_geti (q := 110) dX7_readsOn_107 rfl fX7_75 (by first | with_reducible assumption | assumption) (by rfl) ?_
                rw [mR_a, g9]
                refine j_iconst (q := 111) (v := 1) dX7_readsOn_110 rfl (by decide) ?_
                refine j_iadd (q := 112) dX7_readsOn_111 rfl ?_
                rw [nI_1]
                refine j_puti (q := 115) dX7_readsOn_112 rfl fX7_75 p7_9 (by first | with_reducible assumption | assumption) (by rfl) ?_
                rw [gW_mR]
                refine j_goto (tgt := 84) dX7_readsOn_115 (by decide) ?_
                exact ih (p + 1) _ (by omega) (by omega) (by rw [← hy.2]; exact hrn) (by rw [pk_un (by decide)]; exact g7) (by rw [pk_us]) (by rw [pk_un (by decide)]; exact g10) (hg.up (by omega) _)
              · have hend : rn isLe B L (s + 1) = p := by rw [← hr1, ← hrn]; exact rn_n hl2
                have hlx : lx B L s = (1, s, p, 0) := by unfold lx; rw [if_neg (by omega), if_neg (le_ne59 hle), if_pos hle, hend]
                rw [if_neg hl2]
                refine j_if_eq (q := 105) (tgt := 118) dX7_readsOn_102 rfl (by decide) (fun h102 => ?_) (fun h102 => ?_)
                · refine j_aload_n (q := 119) dX7_readsOn_118 rfl (by rfl) ?_
                  refine j_iconst (q := 120) (v := 1) dX7_readsOn_119 rfl (by decide) ?_
                  refine j_puti (q := 123) dX7_readsOn_120 rfl fX7_72 p7_11 (by first | with_reducible assumption | assumption) (by rfl) ?_
                  rw [gW_mR]
                  refine j_goto (tgt := 269) dX7_readsOn_123 (by decide) ?_
                  exact Ktok _ _ _ hlx (by show ¬ 1 = 4; decide) (by rw [pk_un (by decide)]; exact g7) (by rw [pk_us]; rfl) (by rw [pk_un (by decide)]; exact g10) (by rw [pk_un (by decide)]; exact g9) (fun h => absurd h (by show ¬ 1 = 2; decide)) (hg.up (by omega) _)
                · exact absurd rfl h102
          exact K84 (L - s) s f (by omega) (by omega) rfl q7 q9 q10 hk
        · rw [if_neg hle]
          refine j_if_eq (q := 84) (tgt := 126) dX7_readsOn_81 rfl (by decide) (fun h81 => ?_) (fun h81 => ?_)
          · refine j_iload_n (q := 127) dX7_readsOn_126 rfl (by rfl) ?_
            refine j_i2l (q := 128) dX7_readsOn_127 rfl ?_
            refine j_ldc2 (q := 131) dX7_readsOn_128 rfl kX7_89 ?_
            refine j_ldc2 (q := 134) dX7_readsOn_131 rfl kX7_91 ?_
            refine o_callSi (q := 137) dX7_readsOn_134 rfl lX7_55 mwX7_in msX7_in (by rfl) rfl (Nat.le_of_ble_eq_true (by rfl)) (by first | decide | omega) (hI2 _) ?_
            by_cases hfg : isFg (B s)
            · rw [if_pos hfg]
              refine j_if_eq (q := 140) (tgt := 243) dX7_readsOn_137 rfl (by decide) (fun h137 => ?_) (fun h137 => ?_)
              · exact absurd h137 (by decide)
              have hr1 := (rn_y (z := -4) (B := B) (L := L) (p := s) not_m4.2.2 (by rw [eA]; exact hfg)).2
              have hgt := (rn_le isFg B (L := L) (p := s + 1) (by omega)).1
              have K217 : ∀ (p : Nat) (g : Nat → Int32), p ≤ L → rn isFg B L (s + 1) = p → g 7 = 0 → g 9 = nI p → g 10 = nI s → g 12 = (if p = s then 0 else if p = s + 1 then B s - 48 else 10 * (B s - 48) + B (s + 1) - 48) → ks f0 g → (gJ E yX7_readsOn cX7_readsOn 2 (none) (gRm 1 0 0) F 217 ([some (.ref t), some (.int (B s))]) ([]) 0 0 σ (mR m t g) hi) := by
                intro p g hpL hend g7 g9 g10 g12 hg
                rw [if_neg (by omega)] at g12
                refine j_aload_n (q := 218) dX7_readsOn_217 rfl (by rfl) ?_
                refine j_iconst (q := 219) (v := 2) dX7_readsOn_218 rfl (by decide) ?_
                refine j_puti (q := 222) dX7_readsOn_219 rfl fX7_72 p7_11 (by first | with_reducible assumption | assumption) (by rfl) ?_
                rw [gW_mR]
                refine j_aload_n (q := 223) dX7_readsOn_222 rfl (by rfl) ?_
                refine j_geti (q := 226) dX7_readsOn_223 rfl fX7_75 (by first | with_reducible assumption | assumption) (by rfl) ?_
                rw [mR_a, pk_un (by decide), g9]
                refine j_aload_n (q := 227) dX7_readsOn_226 rfl (by rfl) ?_
                refine j_geti (q := 230) dX7_readsOn_227 rfl fX7_66 (by first | with_reducible assumption | assumption) (by rfl) ?_
                rw [mR_a, pk_un (by decide), g10]
                refine j_isub (q := 231) dX7_readsOn_230 rfl ?_
                rw [pk_sub (by omega)]
                refine j_iconst (q := 232) (v := 2) dX7_readsOn_231 rfl (by decide) ?_
                by_cases h2 : p ≤ s + 2
                · have hlx : lx B L s = (2, s, p, if p = s + 1 then B s - 48 else 10 * (B s - 48) + B (s + 1) - 48) := by unfold lx; rw [if_neg (by omega), if_neg (fg_ne59 hfg), if_neg hle, if_pos hfg, hend, if_pos h2]
                  refine j_icmp_le (q := 235) (tgt := 269) dX7_readsOn_232 rfl (by decide) (fun h232 => ?_) (fun h232 => ?_)
                  · exact Ktok _ _ _ hlx (by show ¬ 2 = 4; decide) (by rw [pk_un (by decide)]; exact g7) (by rw [pk_us]; rfl) (by rw [pk_un (by decide)]; exact g10) (by rw [pk_un (by decide)]; exact g9) (fun _ => by rw [pk_un (by decide)]; exact g12) (hg.up (by omega) _)
                  · exact absurd (nI_le (b := 2) (by omega) (by omega)) h232
                · have hlx : lx B L s = (4, s, s, 0) := by unfold lx; rw [if_neg (by omega), if_neg (fg_ne59 hfg), if_neg hle, if_pos hfg, hend, if_neg h2]
                  refine j_icmp_le (q := 235) (tgt := 269) dX7_readsOn_232 rfl (by decide) (fun h232 => ?_) (fun h232 => ?_)
                  · exact absurd h232 (nI_ge (a := 2) (by omega) (by omega))
                  refine j_aload_n (q := 236) dX7_readsOn_235 rfl (by rfl) ?_
                  refine j_iconst (q := 237) (v := 1) dX7_readsOn_236 rfl (by decide) ?_
                  refine o_callVv (q := 240) dX7_readsOn_237 rfl lX7_93 mwX7_fails mvX7_fails cn7 (by assumption) (by rfl) rfl (Nat.le_of_ble_eq_true (by rfl)) (by first | decide | omega) (cM_fails E σ m hi t _ _ hR) ?_
                  refine j_goto (tgt := 269) dX7_readsOn_240 (by decide) ?_
                  refine o_vret hF rfl dX7_readsOn_269 ?_
                  have hKb := Kbad (upd g 11 2) (by rw [hlx]) (by rw [hlx]) (by rw [pk_un (by decide)]; exact g7) (by rw [pk_un (by decide)]; exact g10) (hg.up (by omega) _)
                  exact ⟨rfl, hKb.1, hKb.2⟩
              have K140 : ∀ (n p : Nat) (g : Nat → Int32), p + n = L → s ≤ p → rn isFg B L p = rn isFg B L s → g 7 = 0 → g 9 = nI p → g 10 = nI s → g 12 = (if p = s then 0 else if p = s + 1 then B s - 48 else 10 * (B s - 48) + B (s + 1) - 48) → ks f0 g → (gJ E yX7_readsOn cX7_readsOn 2 (none) (gRm 1 0 0) F 140 ([some (.ref t), some (.int (B s))]) ([]) 0 0 σ (mR m t g) hi) := by
                intro n
                induction n with
                | zero =>
                  intro p g hpn hsp hrn g7 g9 g10 g12 hg
                  have hend : rn isFg B L (s + 1) = p := by rw [← hr1, ← hrn]; exact rn_L isFg B (by omega)
                  have hI := cM_inI E σ (mR m t g) hi (-4) 48 57 (L := 48) (H := 57) (by decide) (by decide)
                  rw [show sWi (-4) 48 57 = 0 by decide] at hI
                  refine j_aload_n (q := 141) dX7_readsOn_140 rfl (by rfl) ?_
                  refine j_aload_n (q := 142) dX7_readsOn_141 rfl (by rfl) ?_
                  refine j_geti (q := 145) dX7_readsOn_142 rfl fX7_75 (by first | with_reducible assumption | assumption) (by rfl) ?_
                  rw [mR_a, g9]
                  refine o_callVi (q := 148) dX7_readsOn_145 rfl lX7_78 mwX7_byteAt mvX7_byteAt cn7 (by assumption) (by rfl) rfl (Nat.le_of_ble_eq_true (by rfl)) (by first | decide | omega) (hB g p hg (by omega)) ?_
                  rw [bA_ge (by omega)]
                  refine j_i2l (q := 149) dX7_readsOn_148 rfl ?_
                  refine j_ldc2 (q := 152) dX7_readsOn_149 rfl kX7_89 ?_
                  refine j_ldc2 (q := 155) dX7_readsOn_152 rfl kX7_91 ?_
                  refine o_callSi (q := 158) dX7_readsOn_155 rfl lX7_55 mwX7_in msX7_in (by rfl) rfl (Nat.le_of_ble_eq_true (by rfl)) (by first | decide | omega) (hI) ?_
                  refine j_if_eq (q := 161) (tgt := 217) dX7_readsOn_158 rfl (by decide) (fun h158 => ?_) (fun h158 => ?_)
                  · exact K217 p g (by omega) hend g7 g9 g10 g12 hg
                  · exact absurd rfl h158
                | succ n ih =>
                  intro p g hpn hsp hrn g7 g9 g10 g12 hg
                  have hI := cM_inI E σ (mR m t g) hi (bA (-4) B L p) 48 57 (L := 48) (H := 57) (by decide) (by decide)
                  rw [sWi_eq] at hI
                  refine j_aload_n (q := 141) dX7_readsOn_140 rfl (by rfl) ?_
                  refine j_aload_n (q := 142) dX7_readsOn_141 rfl (by rfl) ?_
                  refine j_geti (q := 145) dX7_readsOn_142 rfl fX7_75 (by first | with_reducible assumption | assumption) (by rfl) ?_
                  rw [mR_a, g9]
                  refine o_callVi (q := 148) dX7_readsOn_145 rfl lX7_78 mwX7_byteAt mvX7_byteAt cn7 (by assumption) (by rfl) rfl (Nat.le_of_ble_eq_true (by rfl)) (by first | decide | omega) (hB g p hg (by omega)) ?_
                  refine j_i2l (q := 149) dX7_readsOn_148 rfl ?_
                  refine j_ldc2 (q := 152) dX7_readsOn_149 rfl kX7_89 ?_
                  refine j_ldc2 (q := 155) dX7_readsOn_152 rfl kX7_91 ?_
                  refine o_callSi (q := 158) dX7_readsOn_155 rfl lX7_55 mwX7_in msX7_in (by rfl) rfl (Nat.le_of_ble_eq_true (by rfl)) (by first | decide | omega) (hI) ?_
                  by_cases hl2 : isFg (bA (-4) B L p)
                  · have hy := rn_y not_m4.2.2 hl2
                    rw [if_pos hl2]
                    have K204 : ∀ z : Int32, z = (if p + 1 = s then 0 else if p + 1 = s + 1 then B s - 48 else 10 * (B s - 48) + B (s + 1) - 48) → (gJ E yX7_readsOn cX7_readsOn 2 (none) (gRm 1 0 0) F 204 ([some (.ref t), some (.int (B s))]) ([]) 0 0 σ (mR m t (upd g 12 z)) hi) := by
                      intro z hz
                      refine j_aload_n (q := 205) dX7_readsOn_204 rfl (by rfl) ?_
                      refine j_dup (q := 206) dX7_readsOn_205 rfl rfl ?_
                      refine j_geti (q := 209) dX7_readsOn_206 rfl fX7_75 (by first | with_reducible assumption | assumption) (by rfl) ?_
                      rw [mR_a, pk_un (by decide), g9]
                      refine j_iconst (q := 210) (v := 1) dX7_readsOn_209 rfl (by decide) ?_
                      refine j_iadd (q := 211) dX7_readsOn_210 rfl ?_
                      rw [nI_1]
                      refine j_puti (q := 214) dX7_readsOn_211 rfl fX7_75 p7_9 (by first | with_reducible assumption | assumption) (by rfl) ?_
                      rw [gW_mR]
                      refine j_goto (tgt := 140) dX7_readsOn_214 (by decide) ?_
                      exact ih (p + 1) _ (by omega) (by omega) (by rw [← hy.2]; exact hrn) (by rw [pk_un (by decide), pk_un (by decide)]; exact g7) (by rw [pk_us]) (by rw [pk_un (by decide), pk_un (by decide)]; exact g10) (by rw [pk_un (by decide), pk_us]; exact hz) ((hg.up (by omega) _).up (by omega) _)
                    refine j_if_eq (q := 161) (tgt := 217) dX7_readsOn_158 rfl (by decide) (fun h158 => ?_) (fun h158 => ?_)
                    · exact absurd h158 (by decide)
                    refine j_aload_n (q := 162) dX7_readsOn_161 rfl (by rfl) ?_
                    refine j_aload_n (q := 163) dX7_readsOn_162 rfl (by rfl) ?_
                    refine j_geti (q := 166) dX7_readsOn_163 rfl fX7_75 (by first | with_reducible assumption | assumption) (by rfl) ?_
                    rw [mR_a, g9]
                    refine j_aload_n (q := 167) dX7_readsOn_166 rfl (by rfl) ?_
                    refine j_geti (q := 170) dX7_readsOn_167 rfl fX7_66 (by first | with_reducible assumption | assumption) (by rfl) ?_
                    rw [mR_a, g10]
                    refine j_isub (q := 171) dX7_readsOn_170 rfl ?_
                    rw [pk_sub (by omega)]
                    refine j_iconst (q := 172) (v := 2) dX7_readsOn_171 rfl (by decide) ?_
                    by_cases h2 : p - s < 2
                    · refine j_icmp_ge (q := 175) (tgt := 197) dX7_readsOn_172 rfl (by decide) (fun h172 => ?_) (fun h172 => ?_)
                      · exact absurd h172 (nI_ge (b := 2) (by omega) (by omega))
                      refine j_bipush (q := 177) (v := 10) dX7_readsOn_175 rfl (by decide) ?_
                      refine j_aload_n (q := 178) dX7_readsOn_177 rfl (by rfl) ?_
                      refine j_geti (q := 181) dX7_readsOn_178 rfl fX7_82 (by first | with_reducible assumption | assumption) (by rfl) ?_
                      rw [mR_a, g12]
                      refine j_imul (q := 182) dX7_readsOn_181 rfl ?_
                      refine j_aload_n (q := 183) dX7_readsOn_182 rfl (by rfl) ?_
                      refine j_aload_n (q := 184) dX7_readsOn_183 rfl (by rfl) ?_
                      refine j_geti (q := 187) dX7_readsOn_184 rfl fX7_75 (by first | with_reducible assumption | assumption) (by rfl) ?_
                      rw [mR_a, g9]
                      refine o_callVi (q := 190) dX7_readsOn_187 rfl lX7_78 mwX7_byteAt mvX7_byteAt cn7 (by assumption) (by rfl) rfl (Nat.le_of_ble_eq_true (by rfl)) (by first | decide | omega) (hB g p hg (by omega)) ?_
                      rw [bA_lt hy.1]
                      refine j_iadd (q := 191) dX7_readsOn_190 rfl ?_
                      refine j_bipush (q := 193) (v := 48) dX7_readsOn_191 rfl (by decide) ?_
                      refine j_isub (q := 194) dX7_readsOn_193 rfl ?_
                      refine j_goto (tgt := 201) dX7_readsOn_194 (by decide) ?_
                      refine j_puti (q := 204) dX7_readsOn_201 rfl fX7_82 p7_12 (by first | with_reducible assumption | assumption) (by rfl) ?_
                      rw [gW_mR]
                      refine K204 _ ?_
                      by_cases h3 : p = s
                      · rw [if_pos h3, if_neg (show ¬ p + 1 = s by omega), if_pos (show p + 1 = s + 1 by omega), h3, v10]
                      · have h4 : p = s + 1 := by omega
                        rw [if_neg h3, if_pos h4, if_neg (show ¬ p + 1 = s by omega), if_neg (show ¬ p + 1 = s + 1 by omega), h4]
                    · refine j_icmp_ge (q := 175) (tgt := 197) dX7_readsOn_172 rfl (by decide) (fun h172 => ?_) (fun h172 => ?_)
                      · refine j_aload_n (q := 198) dX7_readsOn_197 rfl (by rfl) ?_
                        refine j_geti (q := 201) dX7_readsOn_198 rfl fX7_82 (by first | with_reducible assumption | assumption) (by rfl) ?_
                        rw [mR_a]
                        refine j_puti (q := 204) dX7_readsOn_201 rfl fX7_82 p7_12 (by first | with_reducible assumption | assumption) (by rfl) ?_
                        rw [gW_mR]
                        refine K204 _ ?_
                        rw [g12, if_neg (by omega), if_neg (by omega), if_neg (by omega), if_neg (by omega)]
                      · exact absurd (nI_le (a := 2) (by omega) (by omega)) h172
                  · have hend : rn isFg B L (s + 1) = p := by rw [← hr1, ← hrn]; exact rn_n hl2
                    rw [if_neg hl2]
                    refine j_if_eq (q := 161) (tgt := 217) dX7_readsOn_158 rfl (by decide) (fun h158 => ?_) (fun h158 => ?_)
                    · exact K217 p g (by omega) hend g7 g9 g10 g12 hg
                    · exact absurd rfl h158
              exact K140 (L - s) s f (by omega) (by omega) rfl q7 q9 q10 (by rw [if_pos rfl]; exact q12) hk
            · rw [if_neg hfg]
              refine j_if_eq (q := 140) (tgt := 243) dX7_readsOn_137 rfl (by decide) (fun h137 => ?_) (fun h137 => ?_)
              · refine j_aload_n (q := 244) dX7_readsOn_243 rfl (by rfl) ?_
                refine j_iconst (q := 245) (v := 3) dX7_readsOn_244 rfl (by decide) ?_
                refine j_puti (q := 248) dX7_readsOn_245 rfl fX7_72 p7_11 (by first | with_reducible assumption | assumption) (by rfl) ?_
                rw [gW_mR]
                refine j_aload_n (q := 249) dX7_readsOn_248 rfl (by rfl) ?_
                refine j_dup (q := 250) dX7_readsOn_249 rfl rfl ?_
                refine j_geti (q := 253) dX7_readsOn_250 rfl fX7_75 (by first | with_reducible assumption | assumption) (by rfl) ?_
                rw [mR_a, pk_un (by decide), q9]
                refine j_iconst (q := 254) (v := 1) dX7_readsOn_253 rfl (by decide) ?_
                refine j_iadd (q := 255) dX7_readsOn_254 rfl ?_
                rw [nI_1]
                refine j_puti (q := 258) dX7_readsOn_255 rfl fX7_75 p7_9 (by first | with_reducible assumption | assumption) (by rfl) ?_
                rw [gW_mR]
                refine j_iload_n (q := 259) dX7_readsOn_258 rfl (by rfl) ?_
                refine j_bipush (q := 261) (v := 59) dX7_readsOn_259 rfl (by decide) ?_
                refine j_icmp_eq (q := 264) (tgt := 269) dX7_readsOn_261 rfl (by decide) (fun h261 => ?_) (fun h261 => ?_)
                · have h261' : B s = 59 := by first | exact h261 | exact Decidable.not_not.mp h261
                  have hlx : lx B L s = (3, s, s + 1, 0) := by unfold lx; rw [if_neg (by omega), if_pos h261']
                  exact Ktok _ _ _ hlx (by show ¬ 3 = 4; decide) (by rw [pk_un (by decide), pk_un (by decide)]; exact q7) (by rw [pk_un (by decide), pk_us]; rfl) (by rw [pk_un (by decide), pk_un (by decide)]; exact q10) (by rw [pk_us]) (fun h => absurd h (by show ¬ 3 = 2; decide)) ((hk.up (by omega) _).up (by omega) _)
                · have hlx : lx B L s = (4, s, s, 0) := by unfold lx; rw [if_neg (by omega), if_neg h261, if_neg hle, if_neg hfg]
                  refine j_aload_n (q := 265) dX7_readsOn_264 rfl (by rfl) ?_
                  refine j_iconst (q := 266) (v := 1) dX7_readsOn_265 rfl (by decide) ?_
                  refine o_callVv (q := 269) dX7_readsOn_266 rfl lX7_93 mwX7_fails mvX7_fails cn7 (by assumption) (by rfl) rfl (Nat.le_of_ble_eq_true (by rfl)) (by first | decide | omega) (cM_fails E σ m hi t _ _ hR) ?_
                  refine o_vret hF rfl dX7_readsOn_269 ?_
                  have hKb := Kbad (upd (upd f 11 3) 9 (nI (s + 1))) (by rw [hlx]) (by rw [hlx]) (by rw [pk_un (by decide), pk_un (by decide)]; exact q7) (by rw [pk_un (by decide), pk_un (by decide)]; exact q10) ((hk.up (by omega) _).up (by omega) _)
                  exact ⟨rfl, hKb.1, hKb.2⟩
              · exact absurd rfl h137
          · exact absurd rfl h81
      · exact absurd (by first | exact h59 | exact Decidable.not_not.mp h59) hn4
    · have eA : bA (-4) B L s = -4 := bA_ge (by omega)
      rw [eA]
      have hlx : lx B L s = (0, s, s, 0) := by unfold lx; rw [if_pos (by omega)]
      refine j_icmp_ne (q := 62) (tgt := 70) dX7_readsOn_59 rfl (by decide) (fun h59 => ?_) (fun h59 => ?_)
      · exact absurd rfl h59
      refine j_aload_n (q := 63) dX7_readsOn_62 rfl (by rfl) ?_
      refine j_iconst (q := 64) (v := 0) dX7_readsOn_63 rfl (by decide) ?_
      refine j_puti (q := 67) dX7_readsOn_64 rfl fX7_72 p7_11 (by first | with_reducible assumption | assumption) (by rfl) ?_
      rw [gW_mR]
      refine j_goto (tgt := 269) dX7_readsOn_67 (by decide) ?_
      exact Ktok _ _ _ hlx (by show ¬ 0 = 4; decide) (by rw [pk_un (by decide)]; exact q7) (by rw [pk_us]; rfl) (by rw [pk_un (by decide)]; exact q10) (by rw [pk_un (by decide)]; exact q9) (fun h => absurd h (by show ¬ 0 = 2; decide)) (hk.up (by omega) _)
  have K34 : ∀ (f : Nat → Int32), f 7 = 0 → f 9 = nI s → ks f0 f → (gJ E yX7_readsOn cX7_readsOn 2 (none) (gRm 1 0 0) F 34 ([some (.ref t), none]) ([]) 0 0 σ (mR m t f) hi) := by
    intro f q7 q9 hk
    refine j_aload_n (q := 35) dX7_readsOn_34 rfl (by rfl) ?_
    refine j_aload_n (q := 36) dX7_readsOn_35 rfl (by rfl) ?_
    refine j_geti (q := 39) dX7_readsOn_36 rfl fX7_75 (by first | with_reducible assumption | assumption) (by rfl) ?_
    rw [mR_a, q9]
    refine j_puti (q := 42) dX7_readsOn_39 rfl fX7_66 p7_10 (by first | with_reducible assumption | assumption) (by rfl) ?_
    rw [gW_mR]
    refine j_aload_n (q := 43) dX7_readsOn_42 rfl (by rfl) ?_
    refine j_aload_n (q := 44) dX7_readsOn_43 rfl (by rfl) ?_
    refine j_geti (q := 47) dX7_readsOn_44 rfl fX7_75 (by first | with_reducible assumption | assumption) (by rfl) ?_
    rw [mR_a, pk_un (by decide), q9]
    refine o_callVi (q := 50) dX7_readsOn_47 rfl lX7_78 mwX7_byteAt mvX7_byteAt cn7 (by assumption) (by rfl) rfl (Nat.le_of_ble_eq_true (by rfl)) (by first | decide | omega) (hB _ s (hk.up (by omega) _) (by omega)) ?_
    refine j_istore_n (q := 51) dX7_readsOn_50 rfl (by decide) ?_
    refine j_aload_n (q := 52) dX7_readsOn_51 rfl (by rfl) ?_
    refine j_iconst (q := 53) (v := 0) dX7_readsOn_52 rfl (by decide) ?_
    refine j_puti (q := 56) dX7_readsOn_53 rfl fX7_82 p7_12 (by first | with_reducible assumption | assumption) (by rfl) ?_
    rw [gW_mR]
    exact K56 _ (by rw [pk_un (by decide), pk_un (by decide)]; exact q7) (by rw [pk_un (by decide), pk_un (by decide)]; exact q9) (by rw [pk_un (by decide), pk_us]) (by rw [pk_us]) ((hk.up (by omega) _).up (by omega) _)
  have K8 : ∀ (n p : Nat) (f : Nat → Int32), p + n = L → rn isSp B L p = s → f 7 = 0 → f 9 = nI p → ks f0 f → (gJ E yX7_readsOn cX7_readsOn 2 (none) (gRm 1 0 0) F 8 ([some (.ref t), none]) ([]) 0 0 σ (mR m t f) hi) := by
    intro n
    induction n with
    | zero =>
      intro p f hpn hrn q7 q9 hk
      have hps : p = s := by rw [← hrn]; exact (rn_L isSp B (by omega)).symm
      refine j_aload_n (q := 9) dX7_readsOn_8 rfl (by rfl) ?_
      refine j_aload_n (q := 10) dX7_readsOn_9 rfl (by rfl) ?_
      refine j_geti (q := 13) dX7_readsOn_10 rfl fX7_75 (by first | with_reducible assumption | assumption) (by rfl) ?_
      rw [mR_a, q9]
      refine o_callVi (q := 16) dX7_readsOn_13 rfl lX7_78 mwX7_byteAt mvX7_byteAt cn7 (by assumption) (by rfl) rfl (Nat.le_of_ble_eq_true (by rfl)) (by first | decide | omega) (hB f p hk (by omega)) ?_
      rw [bA_ge (by omega)]
      refine j_bipush (q := 18) (v := 32) dX7_readsOn_16 rfl (by decide) ?_
      refine j_icmp_ne (q := 21) (tgt := 34) dX7_readsOn_18 rfl (by decide) (fun h18 => ?_) (fun h18 => ?_)
      · exact K34 f q7 (by rw [← hps]; exact q9) hk
      · exact absurd (show (-4 : Int32) = 32 by first | exact h18 | exact Decidable.not_not.mp h18) (by decide)
    | succ n ih =>
      intro p f hpn hrn q7 q9 hk
      refine j_aload_n (q := 9) dX7_readsOn_8 rfl (by rfl) ?_
      refine j_aload_n (q := 10) dX7_readsOn_9 rfl (by rfl) ?_
      refine j_geti (q := 13) dX7_readsOn_10 rfl fX7_75 (by first | with_reducible assumption | assumption) (by rfl) ?_
      rw [mR_a, q9]
      refine o_callVi (q := 16) dX7_readsOn_13 rfl lX7_78 mwX7_byteAt mvX7_byteAt cn7 (by assumption) (by rfl) rfl (Nat.le_of_ble_eq_true (by rfl)) (by first | decide | omega) (hB f p hk (by omega)) ?_
      refine j_bipush (q := 18) (v := 32) dX7_readsOn_16 rfl (by decide) ?_
      refine j_icmp_ne (q := 21) (tgt := 34) dX7_readsOn_18 rfl (by decide) (fun h18 => ?_) (fun h18 => ?_)
      · have hps : p = s := by rw [← hrn]; exact (rn_n (z := -4) h18).symm
        exact K34 f q7 (by rw [← hps]; exact q9) hk
      · have hsp : isSp (bA (-4) B L p) := by first | exact h18 | exact Decidable.not_not.mp h18
        have hy := rn_y not_m4.1 hsp
        refine j_aload_n (q := 22) dX7_readsOn_21 rfl (by rfl) ?_
        refine j_dup (q := 23) dX7_readsOn_22 rfl rfl ?_
        refine j_geti (q := 26) dX7_readsOn_23 rfl fX7_75 (by first | with_reducible assumption | assumption) (by rfl) ?_
        rw [mR_a, q9]
        refine j_iconst (q := 27) (v := 1) dX7_readsOn_26 rfl (by decide) ?_
        refine j_iadd (q := 28) dX7_readsOn_27 rfl ?_
        rw [nI_1]
        refine j_puti (q := 31) dX7_readsOn_28 rfl fX7_75 p7_9 (by first | with_reducible assumption | assumption) (by rfl) ?_
        rw [gW_mR]
        refine j_goto (tgt := 8) dX7_readsOn_31 (by decide) ?_
        exact ih (p + 1) _ (by omega) (by rw [← hy.2]; exact hrn) (by rw [pk_un (by decide)]; exact q7) (by rw [pk_us]) (hk.up (by omega) _)
  refine j_aload_n (q := 1) dX7_readsOn_0 rfl (by rfl) ?_
  refine j_geti (q := 4) dX7_readsOn_1 rfl fX7_63 (by first | with_reducible assumption | assumption) (by rfl) ?_
  rw [hf0, h7]
  refine j_if_le (q := 7) (tgt := 8) dX7_readsOn_4 rfl (by decide) (fun h4 => ?_) (fun h4 => ?_)
  · refine gJ.mm ?_ (K8 (L - p0) p0 f0 (by omega) hS h7 h9 (ks.rf _))
    rw [← hf0, mR_self]
  · exact absurd (Int32.le_refl 0) h4
