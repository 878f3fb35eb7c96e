/-! the reference: play -/
def gbM (m : gMem) (t : Nat) (S : plS) : gMem := gW (mR (mR m (t + 6) S.1) (t + 7) S.2.1) t 21 S.2.2
theorem gbM_r6 (m : gMem) (t : Nat) (S : plS) : (gbM m t S).1 (t + 6) = S.1 := by
  unfold gbM
  rw [gW_rn (by omega), mR_n (by omega), mR_a]
theorem gbM_r7 (m : gMem) (t : Nat) (S : plS) : (gbM m t S).1 (t + 7) = S.2.1 := by
  unfold gbM
  rw [gW_rn (by omega), mR_a]
theorem gbM_r21 (m : gMem) (t : Nat) (S : plS) : (gbM m t S).1 t 21 = S.2.2 := by
  unfold gbM
  rw [gW_s]
theorem gbM_rn {m : gMem} {t q : Nat} {S : plS} (h : q ≠ t ∧ q ≠ t + 6 ∧ q ≠ t + 7) : (gbM m t S).1 q = m.1 q := by
  unfold gbM
  rw [gW_rn h.1, mR_n h.2.2, mR_n h.2.1]
theorem gbM_rt {m : gMem} {t k : Nat} {S : plS} (h : k ≠ 21) : (gbM m t S).1 t k = m.1 t k := by
  unfold gbM
  rw [gW_n (by omega), mR_n (by omega), mR_n (by omega)]
theorem gbM_e {m m' : gMem} {t : Nat} {S : plS} (h1 : m'.1 (t + 6) = S.1) (h2 : m'.1 (t + 7) = S.2.1) (h3 : m'.1 t 21 = S.2.2) (h4 : ∀ q, q ≠ t ∧ q ≠ t + 6 ∧ q ≠ t + 7 → m'.1 q = m.1 q) (h5 : ∀ k, k ≠ 21 → m'.1 t k = m.1 t k) (h6 : m'.2 = m.2) : m' = gbM m t S := by
  apply gMem_ext
  · intro q r
    by_cases a : q = t
    · subst a
      by_cases b : r = 21
      · subst b; rw [gbM_r21, h3]
      · rw [gbM_rt b, h5 r b]
    · by_cases b : q = t + 6
      · subst b; rw [gbM_r6, h1]
      · by_cases c : q = t + 7
        · subst c; rw [gbM_r7, h2]
        · rw [gbM_rn ⟨a, b, c⟩, h4 q ⟨a, b, c⟩]
  · exact h6
theorem gbM_6 (m : gMem) (t : Nat) (S : plS) (k : Nat) (v : Int32) : gW (gbM m t S) (t + 6) k v = gbM m t (upd S.1 k v, S.2.1, S.2.2) :=
  gbM_e (by rw [gW_ro, gbM_r6]) (by rw [gW_rn (by omega), gbM_r7]) (by rw [gW_rn (by omega), gbM_r21]) (fun q h => by rw [gW_rn h.2.1, gbM_rn h]) (fun j h => by rw [gW_rn (by omega), gbM_rt h]) rfl
theorem gbM_7 (m : gMem) (t : Nat) (S : plS) (k : Nat) (v : Int32) : gW (gbM m t S) (t + 7) k v = gbM m t (S.1, upd S.2.1 k v, S.2.2) :=
  gbM_e (by rw [gW_rn (by omega), gbM_r6]) (by rw [gW_ro, gbM_r7]) (by rw [gW_rn (by omega), gbM_r21]) (fun q h => by rw [gW_rn h.2.2, gbM_rn h]) (fun j h => by rw [gW_rn (by omega), gbM_rt h]) rfl
theorem gbM_21 (m : gMem) (t : Nat) (S : plS) (v : Int32) : gW (gbM m t S) t 21 v = gbM m t (S.1, S.2.1, v) :=
  gbM_e (by rw [gW_rn (by omega), gbM_r6]) (by rw [gW_rn (by omega), gbM_r7]) (by rw [gW_s]) (fun q h => by rw [gW_rn h.1, gbM_rn h]) (fun j h => by rw [gW_n (by omega), gbM_rt h]) rfl
theorem gbM_self (m : gMem) (t : Nat) : gbM m t (m.1 (t + 6), m.1 (t + 7), m.1 t 21) = m := (gbM_e rfl rfl rfl (fun _ _ => rfl) (fun _ _ => rfl) rfl).symm
theorem pgR_row {m m' : gMem} {t : Nat} (h : m'.1 (t + 1) = m.1 (t + 1)) (p : Nat) : pgR m' t p = pgR m t p := by
  funext i
  unfold pgR
  rw [h]
theorem gbM_s {m m' : gMem} {t : Nat} (h : rsc t m m') (S : plS) : rsc t m (gbM m' t S) :=
  ⟨fun q a => by rw [gbM_rn (by omega)]; exact h.1 q a, fun r a => by rw [gbM_rn (by omega)]; exact h.2.1 r a, fun r a => by rw [gbM_rt (by omega)]; exact h.2.2 r a⟩
theorem cM_figuresOf (E : gEv) (σ : gSg) (m : gMem) (hi t w e n : Nat) (hR : gR σ t) (hn : n ≤ 4) (hw : w < 2 ^ 30) (he : 0 < e) (he2 : e < 2 ^ 30) : gCo E yX7_figuresOf cX7_figuresOf 6 (none) 0 [.ref t, .int (nI w), .int (nI e), .int (nI n)] σ m hi (fun v' m' => v' = none ∧ ∃ fg, m' = mR m (t + 8) fg ∧ ∀ k, k < n → fg k = nI (dg e w n k)) := by
  refine gCo.of mwX7_figuresOf (Nat.le_of_ble_eq_true rfl) ?_
  intro F hF
  have h0 := hR.1
  obtain ⟨-, -, -, -, -, -, -, -, h8, -⟩ := id hR
  have hz : ¬ nI e = 0 := nI_ne0 he (by omega)
  have K8 : ∀ (k : Nat) (fg : Nat → Int32), k < n → (∀ i, k < i → i < n → fg i = nI (dg e w n i)) → (gJ E yX7_figuresOf cX7_figuresOf 6 (none) (gRm 0 0 0) F 8 ([some (.ref t), some (.int (nI w)), some (.int (nI e)), some (.int (nI n)), some (.int (nI (w / e ^ (n - 1 - k)))), some (.int (nI k))]) ([]) 0 0 σ (mR m (t + 8) fg) hi) := by
    intro k
    induction k with
    | zero =>
      intro fg hk hF2
      have hlt : w / e ^ (n - 1 - 0) < 2 ^ 31 := Nat.lt_of_le_of_lt (Nat.div_le_self _ _) (by omega)
      have er : nI (w / e ^ (n - 1 - 0)) - nI (w / e ^ (n - 1 - 0)) / nI e * nI e = nI (dg e w n 0) := by
        rw [pk_rem hlt he (by omega)]
        rfl
      have ix : gIdx (nI 0) 4 0 := gIdx.of rfl (by omega) (by decide)
      refine j_iload (q := 10) dX7_figuresOf_8 rfl (by rfl) ?_
      refine j_if_lt (q := 13) (tgt := 36) dX7_figuresOf_10 rfl (by decide) (fun h10 => ?_) (fun h10 => ?_)
      · exact absurd h10 (by decide)
      refine j_aload_n (q := 14) dX7_figuresOf_13 rfl (by rfl) ?_
      refine j_getr (q := 17) dX7_figuresOf_14 rfl fX7_31 (by first | with_reducible assumption | assumption) (by rfl) ?_
      refine j_iload (q := 19) dX7_figuresOf_17 rfl (by rfl) ?_
      refine j_iload (q := 21) dX7_figuresOf_19 rfl (by rfl) ?_
      refine j_iload_n (q := 22) dX7_figuresOf_21 rfl (by rfl) ?_
      refine j_irem (q := 23) dX7_figuresOf_22 rfl (by first | with_reducible assumption | assumption) ?_
      rw [er]
      refine j_iastore (q := 24) dX7_figuresOf_23 rfl (by first | with_reducible assumption | assumption) (by first | with_reducible assumption | assumption) ?_
      rw [gW_mR]
      refine j_iload (q := 26) dX7_figuresOf_24 rfl (by rfl) ?_
      refine j_iload_n (q := 27) dX7_figuresOf_26 rfl (by rfl) ?_
      refine j_idiv (q := 28) dX7_figuresOf_27 rfl (by first | with_reducible assumption | assumption) ?_
      refine j_istore (q := 30) dX7_figuresOf_28 rfl (by decide) ?_
      refine j_iinc (q := 33) (v := -1) dX7_figuresOf_30 rfl (by rfl) (by decide) (by decide) ?_
      refine j_goto (tgt := 8) dX7_figuresOf_33 (by decide) ?_
      refine j_iload (q := 10) dX7_figuresOf_8 rfl (by rfl) ?_
      refine j_if_lt (q := 13) (tgt := 36) dX7_figuresOf_10 rfl (by decide) (fun h10' => ?_) (fun h10' => ?_)
      · refine o_vret hF rfl dX7_figuresOf_36 ?_
        refine ⟨rfl, _, rfl, fun k hk' => ?_⟩
        by_cases h : k = 0
        · subst h; rw [pk_us]
        · rw [pk_un h]; exact hF2 k (by omega) hk'
      · exact absurd (by decide) h10'
    | succ k ih =>
      intro fg hk hF2
      have hlt : w / e ^ (n - 1 - (k + 1)) < 2 ^ 31 := Nat.lt_of_le_of_lt (Nat.div_le_self _ _) (by omega)
      have er : nI (w / e ^ (n - 1 - (k + 1))) - nI (w / e ^ (n - 1 - (k + 1))) / nI e * nI e = nI (dg e w n (k + 1)) := by
        rw [pk_rem hlt he (by omega)]
        rfl
      have ed : nI (w / e ^ (n - 1 - (k + 1))) / nI e = nI (w / e ^ (n - 1 - k)) := by
        rw [pk_div hlt he (by omega), Nat.div_div_eq_div_mul, ← Nat.pow_succ]
        congr 3
        omega
      have ix : gIdx (nI (k + 1)) 4 (k + 1) := gIdx.of rfl (by omega) (by decide)
      refine j_iload (q := 10) dX7_figuresOf_8 rfl (by rfl) ?_
      refine j_if_lt (q := 13) (tgt := 36) dX7_figuresOf_10 rfl (by decide) (fun h10 => ?_) (fun h10 => ?_)
      · exact absurd h10 (nI_pos (by omega))
      refine j_aload_n (q := 14) dX7_figuresOf_13 rfl (by rfl) ?_
      refine j_getr (q := 17) dX7_figuresOf_14 rfl fX7_31 (by first | with_reducible assumption | assumption) (by rfl) ?_
      refine j_iload (q := 19) dX7_figuresOf_17 rfl (by rfl) ?_
      refine j_iload (q := 21) dX7_figuresOf_19 rfl (by rfl) ?_
      refine j_iload_n (q := 22) dX7_figuresOf_21 rfl (by rfl) ?_
      refine j_irem (q := 23) dX7_figuresOf_22 rfl (by first | with_reducible assumption | assumption) ?_
      rw [er]
      refine j_iastore (q := 24) dX7_figuresOf_23 rfl (by first | with_reducible assumption | assumption) (by first | with_reducible assumption | assumption) ?_
      rw [gW_mR]
      refine j_iload (q := 26) dX7_figuresOf_24 rfl (by rfl) ?_
      refine j_iload_n (q := 27) dX7_figuresOf_26 rfl (by rfl) ?_
      refine j_idiv (q := 28) dX7_figuresOf_27 rfl (by first | with_reducible assumption | assumption) ?_
      rw [ed]
      refine j_istore (q := 30) dX7_figuresOf_28 rfl (by decide) ?_
      refine j_iinc (q := 33) dX7_figuresOf_30 rfl (by rfl) (by first | exact nI_dec _ | rfl) (by decide) ?_
      refine j_goto (tgt := 8) dX7_figuresOf_33 (by decide) ?_
      refine ih _ (by omega) (fun i h1 h2 => ?_)
      by_cases h : i = k + 1
      · subst h; rw [pk_us]
      · rw [pk_un h]; exact hF2 i (by omega) h2
  by_cases hn0 : n = 0
  · subst hn0
    refine j_iload_n (q := 1) dX7_figuresOf_0 rfl (by rfl) ?_
    refine j_istore (q := 3) dX7_figuresOf_1 rfl (by decide) ?_
    refine j_iload_n (q := 4) dX7_figuresOf_3 rfl (by rfl) ?_
    refine j_iconst (q := 5) (v := 1) dX7_figuresOf_4 rfl (by decide) ?_
    refine j_isub (q := 6) dX7_figuresOf_5 rfl ?_
    refine j_istore (q := 8) dX7_figuresOf_6 rfl (by decide) ?_
    refine j_iload (q := 10) dX7_figuresOf_8 rfl (by rfl) ?_
    refine j_if_lt (q := 13) (tgt := 36) dX7_figuresOf_10 rfl (by decide) (fun h10 => ?_) (fun h10 => ?_)
    · refine o_vret hF rfl dX7_figuresOf_36 ?_
      exact ⟨rfl, m.1 (t + 8), (mR_self m (t + 8)).symm, fun k hk => absurd hk (by omega)⟩
    · exact absurd (by decide) h10
  · have en : nI n - 1 = nI (n - 1) := pk_sub (b := 1) (by omega)
    refine j_iload_n (q := 1) dX7_figuresOf_0 rfl (by rfl) ?_
    refine j_istore (q := 3) dX7_figuresOf_1 rfl (by decide) ?_
    refine j_iload_n (q := 4) dX7_figuresOf_3 rfl (by rfl) ?_
    refine j_iconst (q := 5) (v := 1) dX7_figuresOf_4 rfl (by decide) ?_
    refine j_isub (q := 6) dX7_figuresOf_5 rfl ?_
    rw [en]
    refine j_istore (q := 8) dX7_figuresOf_6 rfl (by decide) ?_
    have := K8 (n - 1) (m.1 (t + 8)) (by omega) (fun i h1 h2 => absurd h1 (by omega))
    rw [show n - 1 - (n - 1) = 0 by omega, Nat.pow_zero, Nat.div_one, mR_self] at this
    exact this
theorem cM_goesBack (E : gEv) (σ : gSg) (m : gMem) (hi t e n : Nat) (v : Int32) (fg : Nat → Nat) (g : Nat → Int32) (S : plS) (hR : gR σ t) (hn : n ≤ 4) (hn1 : 1 ≤ n) (he1 : 1 ≤ e) (he2 : e < 2 ^ 30) (hG : pgR m t 0 = g) (hF8 : ∀ k, k < n → m.1 (t + 8) k = nI (fg k) ∧ fg k < 2 ^ 30) (h6 : m.1 (t + 6) = S.1) (h7 : m.1 (t + 7) = S.2.1) (h21 : m.1 t 21 = S.2.2) : gCo E yX7_goesBack cX7_goesBack 6 (none) 1 [.ref t, .int v, .int (nI e), .int (nI n)] σ m hi (gX none (gbM m t (gbk e g fg n v S))) := by
  refine gCo.of mwX7_goesBack (Nat.le_of_ble_eq_true rfl) ?_
  intro F hF
  have h0 := hR.1
  obtain ⟨-, -, -, -, -, -, s6, s7, s8, -⟩ := id hR
  have h2z : ¬ (2 : Int32) = 0 := by decide
  have ix0 : gIdx 0 4 0 := gIdx.of rfl (by omega) (by decide)
  have hpg : ∀ S', pgR (gbM m t S') t 0 = g := fun S' => by rw [pgR_row (gbM_rn (by omega))]; exact hG
  have e8 : ∀ (S' : plS) (k : Nat), k < n → (gbM m t S').1 (t + 8) k = nI (fg k) := fun S' k hk => by rw [gbM_rn (by omega)]; exact (hF8 k hk).1
  have K8 : ∀ (k : Nat) (v1 : Int32) (S' : plS), k < n → gbk e g fg n v S = gbk e g fg (k + 1) v1 S' → (gJ E yX7_goesBack cX7_goesBack 6 (none) (gRm 1 0 0) F 8 ([some (.ref t), some (.int v), some (.int (nI e)), some (.int (nI n)), some (.int v1), some (.int (nI k))]) ([]) 0 0 σ (gbM m t S') hi) := by
    intro k
    induction k with
    | zero =>
      intro v1 S' hk hE
      have er : nI (fg 0) - nI (fg 0) / 2 * 2 = nI (fg 0 % 2) := pk_rem (d := 2) (by have := (hF8 0 hk).2; omega) (by decide) (by decide)
      have ed : nI (fg 0) / 2 = nI (fg 0 / 2) := pk_div (d := 2) (by have := (hF8 0 hk).2; omega) (by decide) (by decide)
      have ixk : gIdx (nI 0) 4 0 := gIdx.of rfl (by omega) (by decide)
      rw [gbk] at hE
      have K43 : ∀ l : Int32, l = gbl v1 (S'.1 0) → (gJ E yX7_goesBack cX7_goesBack 6 (none) (gRm 1 0 0) F 43 ([some (.ref t), some (.int v), some (.int (nI e)), some (.int (nI n)), some (.int v1), some (.int (nI 0))]) ([.int l, .int (nI 0), .ref (t + 6)]) 0 0 σ (gbM m t S') hi) := by
        intro l hl
        refine j_iastore (q := 44) dX7_goesBack_43 rfl (by first | with_reducible assumption | assumption) (by first | with_reducible assumption | assumption) ?_
        rw [gbM_6]
        refine j_aload_n (q := 45) dX7_goesBack_44 rfl (by rfl) ?_
        refine j_getr (q := 48) dX7_goesBack_45 rfl fX7_31 (by first | with_reducible assumption | assumption) (by rfl) ?_
        refine j_iload (q := 50) dX7_goesBack_48 rfl (by rfl) ?_
        refine j_iaload (q := 51) dX7_goesBack_50 rfl (by first | with_reducible assumption | assumption) (by first | with_reducible assumption | assumption) ?_
        rw [e8 _ 0 hk]
        refine j_iconst (q := 52) (v := 2) dX7_goesBack_51 rfl (by decide) ?_
        refine j_irem (q := 53) dX7_goesBack_52 rfl (by first | with_reducible assumption | assumption) ?_
        rw [er]
        by_cases hev : fg 0 % 2 = 0
        · rw [if_pos hev, ← hl] at hE
          rw [hE] at hF
          rw [hev]
          refine j_if_ne (q := 56) (tgt := 57) dX7_goesBack_53 rfl (by decide) (fun h53 => ?_) (fun h53 => ?_)
          · exact absurd rfl h53
          refine o_vret hF rfl dX7_goesBack_56 ?_
          exact ⟨rfl, rfl⟩
        · rw [if_neg hev, if_pos (Or.inl rfl), ← hl] at hE
          unfold gbT at hE
          refine j_if_ne (q := 56) (tgt := 57) dX7_goesBack_53 rfl (by decide) (fun h53 => ?_) (fun h53 => ?_)
          · refine j_aload_n (q := 58) dX7_goesBack_57 rfl (by rfl) ?_
            refine j_getr (q := 61) dX7_goesBack_58 rfl fX7_25 (by first | with_reducible assumption | assumption) (by rfl) ?_
            refine j_iload (q := 63) dX7_goesBack_61 rfl (by rfl) ?_
            refine j_iaload (q := 64) dX7_goesBack_63 rfl (by first | with_reducible assumption | assumption) (by first | with_reducible assumption | assumption) ?_
            rw [gbM_r6]
            rw [show ((upd S'.1 0 l, S'.2.1, S'.2.2) : plS).1 0 = l from pk_us (f := S'.1) (k := 0) (x := l)]
            refine j_istore (q := 66) dX7_goesBack_64 rfl (by decide) ?_
            refine j_aload_n (q := 67) dX7_goesBack_66 rfl (by rfl) ?_
            refine j_getr (q := 70) dX7_goesBack_67 rfl fX7_25 (by first | with_reducible assumption | assumption) (by rfl) ?_
            refine j_iload (q := 72) dX7_goesBack_70 rfl (by rfl) ?_
            refine j_ldc (q := 74) dX7_goesBack_72 rfl kX7_232 ?_
            refine j_iastore (q := 75) dX7_goesBack_74 rfl (by first | with_reducible assumption | assumption) (by first | with_reducible assumption | assumption) ?_
            rw [gbM_6]
            dsimp only
            rw [upd_u]
            refine j_iload (q := 77) dX7_goesBack_75 rfl (by rfl) ?_
            refine j_aload_n (q := 78) dX7_goesBack_77 rfl (by rfl) ?_
            refine j_getr (q := 81) dX7_goesBack_78 rfl fX7_28 (by first | with_reducible assumption | assumption) (by rfl) ?_
            refine j_iload (q := 83) dX7_goesBack_81 rfl (by rfl) ?_
            refine j_iaload (q := 84) dX7_goesBack_83 rfl (by first | with_reducible assumption | assumption) (by first | with_reducible assumption | assumption) ?_
            rw [gbM_r7]
            by_cases hgt : S'.2.1 0 < l
            · rw [if_pos hgt, if_pos rfl] at hE
              rw [hE] at hF
              have hWb := cM_whomBy E σ (gbM m t (upd S'.1 0 1000000, upd S'.2.1 0 l, S'.2.2)) hi t (nI (fg 0 / 2)) hR
              rw [hpg] at hWb
              refine j_icmp_le (q := 87) (tgt := 124) dX7_goesBack_84 rfl (by decide) (fun h84 => ?_) (fun h84 => ?_)
              · exact absurd hgt (Int32.not_lt.mpr h84)
              refine j_aload_n (q := 88) dX7_goesBack_87 rfl (by rfl) ?_
              refine j_getr (q := 91) dX7_goesBack_88 rfl fX7_28 (by first | with_reducible assumption | assumption) (by rfl) ?_
              refine j_iload (q := 93) dX7_goesBack_91 rfl (by rfl) ?_
              refine j_iload (q := 95) dX7_goesBack_93 rfl (by rfl) ?_
              refine j_iastore (q := 96) dX7_goesBack_95 rfl (by first | with_reducible assumption | assumption) (by first | with_reducible assumption | assumption) ?_
              rw [gbM_7]
              refine j_aload_n (q := 97) dX7_goesBack_96 rfl (by rfl) ?_
              refine j_iload (q := 99) dX7_goesBack_97 rfl (by rfl) ?_
              refine j_if_ne (q := 102) (tgt := 117) dX7_goesBack_99 rfl (by decide) (fun h99 => ?_) (fun h99 => ?_)
              · exact absurd rfl h99
              refine j_aload_n (q := 103) dX7_goesBack_102 rfl (by rfl) ?_
              refine j_aload_n (q := 104) dX7_goesBack_103 rfl (by rfl) ?_
              refine j_getr (q := 107) dX7_goesBack_104 rfl fX7_31 (by first | with_reducible assumption | assumption) (by rfl) ?_
              refine j_iconst (q := 108) (v := 0) dX7_goesBack_107 rfl (by decide) ?_
              refine j_iaload (q := 109) dX7_goesBack_108 rfl (by first | with_reducible assumption | assumption) (by first | with_reducible assumption | assumption) ?_
              rw [e8 _ 0 hk]
              refine j_iconst (q := 110) (v := 2) dX7_goesBack_109 rfl (by decide) ?_
              refine j_idiv (q := 111) dX7_goesBack_110 rfl (by first | with_reducible assumption | assumption) ?_
              rw [ed]
              refine o_callVi (q := 114) dX7_goesBack_111 rfl lX7_229 mwX7_whomBy mvX7_whomBy cn7 (by assumption) (by rfl) rfl (Nat.le_of_ble_eq_true (by rfl)) (by first | decide | omega) (hWb) ?_
              refine j_goto (tgt := 121) dX7_goesBack_114 (by decide) ?_
              refine j_puti (q := 124) dX7_goesBack_121 rfl fX7_233 p7_21 (by first | with_reducible assumption | assumption) (by rfl) ?_
              rw [gbM_21]
              refine j_iload (q := 126) dX7_goesBack_124 rfl (by rfl) ?_
              refine j_if_eq (q := 129) (tgt := 142) dX7_goesBack_126 rfl (by decide) (fun h126 => ?_) (fun h126 => ?_)
              · refine o_vret hF rfl dX7_goesBack_142 ?_
                exact ⟨rfl, rfl⟩
              · exact absurd rfl h126
            · rw [if_neg hgt] at hE
              rw [hE] at hF
              refine j_icmp_le (q := 87) (tgt := 124) dX7_goesBack_84 rfl (by decide) (fun h84 => ?_) (fun h84 => ?_)
              · refine j_iload (q := 126) dX7_goesBack_124 rfl (by rfl) ?_
                refine j_if_eq (q := 129) (tgt := 142) dX7_goesBack_126 rfl (by decide) (fun h126 => ?_) (fun h126 => ?_)
                · refine o_vret hF rfl dX7_goesBack_142 ?_
                  exact ⟨rfl, rfl⟩
                · exact absurd rfl h126
              · exact absurd (Int32.not_le.mp h84) hgt
          · exact absurd (nI_inj (b := 0) (by omega) (by omega) (by first | exact h53 | exact Decidable.not_not.mp h53)) hev
      refine j_iload (q := 10) dX7_goesBack_8 rfl (by rfl) ?_
      refine j_if_lt (q := 13) (tgt := 166) dX7_goesBack_10 rfl (by decide) (fun h10 => ?_) (fun h10 => ?_)
      · exact absurd h10 (by decide)
      refine j_aload_n (q := 14) dX7_goesBack_13 rfl (by rfl) ?_
      refine j_getr (q := 17) dX7_goesBack_14 rfl fX7_25 (by first | with_reducible assumption | assumption) (by rfl) ?_
      refine j_iload (q := 19) dX7_goesBack_17 rfl (by rfl) ?_
      refine j_iload (q := 21) dX7_goesBack_19 rfl (by rfl) ?_
      refine j_aload_n (q := 22) dX7_goesBack_21 rfl (by rfl) ?_
      refine j_getr (q := 25) dX7_goesBack_22 rfl fX7_25 (by first | with_reducible assumption | assumption) (by rfl) ?_
      refine j_iload (q := 27) dX7_goesBack_25 rfl (by rfl) ?_
      refine j_iaload (q := 28) dX7_goesBack_27 rfl (by first | with_reducible assumption | assumption) (by first | with_reducible assumption | assumption) ?_
      rw [gbM_r6]
      refine j_icmp_ge (q := 31) (tgt := 36) dX7_goesBack_28 rfl (by decide) (fun h28 => ?_) (fun h28 => ?_)
      · refine j_aload_n (q := 37) dX7_goesBack_36 rfl (by rfl) ?_
        refine j_getr (q := 40) dX7_goesBack_37 rfl fX7_25 (by first | with_reducible assumption | assumption) (by rfl) ?_
        refine j_iload (q := 42) dX7_goesBack_40 rfl (by rfl) ?_
        refine j_iaload (q := 43) dX7_goesBack_42 rfl (by first | with_reducible assumption | assumption) (by first | with_reducible assumption | assumption) ?_
        rw [gbM_r6]
        exact K43 _ (if_neg (Int32.not_lt.mpr h28)).symm
      · refine j_iload (q := 33) dX7_goesBack_31 rfl (by rfl) ?_
        refine j_goto (tgt := 43) dX7_goesBack_33 (by decide) ?_
        exact K43 _ (if_pos (Int32.not_le.mp h28)).symm
    | succ k ih =>
      intro v1 S' hk hE
      have hlt := (hF8 (k + 1) hk).2
      have er : nI (fg (k + 1)) - nI (fg (k + 1)) / 2 * 2 = nI (fg (k + 1) % 2) := pk_rem (d := 2) (by omega) (by decide) (by decide)
      have ixk : gIdx (nI (k + 1)) 4 (k + 1) := gIdx.of rfl (by omega) (by decide)
      have ee : nI e - 1 = nI (e - 1) := pk_sub (b := 1) he1
      rw [gbk] at hE
      have K43 : ∀ l : Int32, l = gbl v1 (S'.1 (k + 1)) → (gJ E yX7_goesBack cX7_goesBack 6 (none) (gRm 1 0 0) F 43 ([some (.ref t), some (.int v), some (.int (nI e)), some (.int (nI n)), some (.int v1), some (.int (nI (k + 1)))]) ([.int l, .int (nI (k + 1)), .ref (t + 6)]) 0 0 σ (gbM m t S') hi) := by
        intro l hl
        have K124 : ∀ T : plS, gbT g (k + 1) (fg (k + 1)) l S' = T → ¬ fg (k + 1) % 2 = 0 → (gJ E yX7_goesBack cX7_goesBack 6 (none) (gRm 1 0 0) F 124 ([some (.ref t), some (.int v), some (.int (nI e)), some (.int (nI n)), some (.int l), some (.int (nI (k + 1)))]) ([]) 0 0 σ (gbM m t T) hi) := by
          intro T hT hev
          rw [if_neg hev, ← hl, hT] at hE
          refine j_iload (q := 126) dX7_goesBack_124 rfl (by rfl) ?_
          refine j_if_eq (q := 129) (tgt := 142) dX7_goesBack_126 rfl (by decide) (fun h126 => ?_) (fun h126 => ?_)
          · exact absurd h126 (nI_ne0 (by omega) (by omega))
          refine j_aload_n (q := 130) dX7_goesBack_129 rfl (by rfl) ?_
          refine j_getr (q := 133) dX7_goesBack_130 rfl fX7_31 (by first | with_reducible assumption | assumption) (by rfl) ?_
          refine j_iload (q := 135) dX7_goesBack_133 rfl (by rfl) ?_
          refine j_iaload (q := 136) dX7_goesBack_135 rfl (by first | with_reducible assumption | assumption) (by first | with_reducible assumption | assumption) ?_
          rw [e8 _ (k + 1) hk]
          refine j_iload_n (q := 137) dX7_goesBack_136 rfl (by rfl) ?_
          refine j_iconst (q := 138) (v := 1) dX7_goesBack_137 rfl (by decide) ?_
          refine j_isub (q := 139) dX7_goesBack_138 rfl ?_
          rw [ee]
          by_cases hc : fg (k + 1) < e - 1
          · rw [if_pos (Or.inr hc)] at hE
            rw [hE] at hF
            refine j_icmp_ge (q := 142) (tgt := 143) dX7_goesBack_139 rfl (by decide) (fun h139 => ?_) (fun h139 => ?_)
            · exact absurd h139 (nI_ge hc (by omega))
            refine o_vret hF rfl dX7_goesBack_142 ?_
            exact ⟨rfl, rfl⟩
          · rw [if_neg (fun q => q.elim (by omega) hc)] at hE
            refine j_icmp_ge (q := 142) (tgt := 143) dX7_goesBack_139 rfl (by decide) (fun h139 => ?_) (fun h139 => ?_)
            · refine j_aload_n (q := 144) dX7_goesBack_143 rfl (by rfl) ?_
              refine j_getr (q := 147) dX7_goesBack_144 rfl fX7_28 (by first | with_reducible assumption | assumption) (by rfl) ?_
              refine j_iload (q := 149) dX7_goesBack_147 rfl (by rfl) ?_
              refine j_iaload (q := 150) dX7_goesBack_149 rfl (by first | with_reducible assumption | assumption) (by first | with_reducible assumption | assumption) ?_
              rw [gbM_r7]
              refine j_istore (q := 152) dX7_goesBack_150 rfl (by decide) ?_
              refine j_aload_n (q := 153) dX7_goesBack_152 rfl (by rfl) ?_
              refine j_getr (q := 156) dX7_goesBack_153 rfl fX7_28 (by first | with_reducible assumption | assumption) (by rfl) ?_
              refine j_iload (q := 158) dX7_goesBack_156 rfl (by rfl) ?_
              refine j_iconst (q := 159) (v := (-1)) dX7_goesBack_158 rfl (by decide) ?_
              refine j_iastore (q := 160) dX7_goesBack_159 rfl (by first | with_reducible assumption | assumption) (by first | with_reducible assumption | assumption) ?_
              rw [gbM_7]
              refine j_iinc (q := 163) dX7_goesBack_160 rfl (by rfl) (by first | exact nI_dec _ | rfl) (by decide) ?_
              refine j_goto (tgt := 8) dX7_goesBack_163 (by decide) ?_
              exact ih _ _ (by omega) hE
            · exact absurd (nI_le (by omega) (by omega)) h139
        refine j_iastore (q := 44) dX7_goesBack_43 rfl (by first | with_reducible assumption | assumption) (by first | with_reducible assumption | assumption) ?_
        rw [gbM_6]
        refine j_aload_n (q := 45) dX7_goesBack_44 rfl (by rfl) ?_
        refine j_getr (q := 48) dX7_goesBack_45 rfl fX7_31 (by first | with_reducible assumption | assumption) (by rfl) ?_
        refine j_iload (q := 50) dX7_goesBack_48 rfl (by rfl) ?_
        refine j_iaload (q := 51) dX7_goesBack_50 rfl (by first | with_reducible assumption | assumption) (by first | with_reducible assumption | assumption) ?_
        rw [e8 _ (k + 1) hk]
        refine j_iconst (q := 52) (v := 2) dX7_goesBack_51 rfl (by decide) ?_
        refine j_irem (q := 53) dX7_goesBack_52 rfl (by first | with_reducible assumption | assumption) ?_
        rw [er]
        by_cases hev : fg (k + 1) % 2 = 0
        · rw [if_pos hev, ← hl] at hE
          rw [hE] at hF
          rw [hev]
          refine j_if_ne (q := 56) (tgt := 57) dX7_goesBack_53 rfl (by decide) (fun h53 => ?_) (fun h53 => ?_)
          · exact absurd rfl h53
          refine o_vret hF rfl dX7_goesBack_56 ?_
          exact ⟨rfl, rfl⟩
        · refine j_if_ne (q := 56) (tgt := 57) dX7_goesBack_53 rfl (by decide) (fun h53 => ?_) (fun h53 => ?_)
          · refine j_aload_n (q := 58) dX7_goesBack_57 rfl (by rfl) ?_
            refine j_getr (q := 61) dX7_goesBack_58 rfl fX7_25 (by first | with_reducible assumption | assumption) (by rfl) ?_
            refine j_iload (q := 63) dX7_goesBack_61 rfl (by rfl) ?_
            refine j_iaload (q := 64) dX7_goesBack_63 rfl (by first | with_reducible assumption | assumption) (by first | with_reducible assumption | assumption) ?_
            rw [gbM_r6]
            rw [show ((upd S'.1 (k + 1) l, S'.2.1, S'.2.2) : plS).1 (k + 1) = l from pk_us]
            refine j_istore (q := 66) dX7_goesBack_64 rfl (by decide) ?_
            refine j_aload_n (q := 67) dX7_goesBack_66 rfl (by rfl) ?_
            refine j_getr (q := 70) dX7_goesBack_67 rfl fX7_25 (by first | with_reducible assumption | assumption) (by rfl) ?_
            refine j_iload (q := 72) dX7_goesBack_70 rfl (by rfl) ?_
            refine j_ldc (q := 74) dX7_goesBack_72 rfl kX7_232 ?_
            refine j_iastore (q := 75) dX7_goesBack_74 rfl (by first | with_reducible assumption | assumption) (by first | with_reducible assumption | assumption) ?_
            rw [gbM_6]
            dsimp only
            rw [upd_u]
            refine j_iload (q := 77) dX7_goesBack_75 rfl (by rfl) ?_
            refine j_aload_n (q := 78) dX7_goesBack_77 rfl (by rfl) ?_
            refine j_getr (q := 81) dX7_goesBack_78 rfl fX7_28 (by first | with_reducible assumption | assumption) (by rfl) ?_
            refine j_iload (q := 83) dX7_goesBack_81 rfl (by rfl) ?_
            refine j_iaload (q := 84) dX7_goesBack_83 rfl (by first | with_reducible assumption | assumption) (by first | with_reducible assumption | assumption) ?_
            rw [gbM_r7]
            by_cases hgt : S'.2.1 (k + 1) < l
            · refine j_icmp_le (q := 87) (tgt := 124) dX7_goesBack_84 rfl (by decide) (fun h84 => ?_) (fun h84 => ?_)
              · exact absurd hgt (Int32.not_lt.mpr h84)
              refine j_aload_n (q := 88) dX7_goesBack_87 rfl (by rfl) ?_
              refine j_getr (q := 91) dX7_goesBack_88 rfl fX7_28 (by first | with_reducible assumption | assumption) (by rfl) ?_
              refine j_iload (q := 93) dX7_goesBack_91 rfl (by rfl) ?_
              refine j_iload (q := 95) dX7_goesBack_93 rfl (by rfl) ?_
              refine j_iastore (q := 96) dX7_goesBack_95 rfl (by first | with_reducible assumption | assumption) (by first | with_reducible assumption | assumption) ?_
              rw [gbM_7]
              refine j_aload_n (q := 97) dX7_goesBack_96 rfl (by rfl) ?_
              refine j_iload (q := 99) dX7_goesBack_97 rfl (by rfl) ?_
              refine j_if_ne (q := 102) (tgt := 117) dX7_goesBack_99 rfl (by decide) (fun h99 => ?_) (fun h99 => ?_)
              · refine j_aload_n (q := 118) dX7_goesBack_117 rfl (by rfl) ?_
                refine j_geti (q := 121) dX7_goesBack_118 rfl fX7_233 (by first | with_reducible assumption | assumption) (by rfl) ?_
                rw [gbM_r21]
                refine j_puti (q := 124) dX7_goesBack_121 rfl fX7_233 p7_21 (by first | with_reducible assumption | assumption) (by rfl) ?_
                rw [gbM_21]
                refine K124 _ ?_ hev
                unfold gbT
                rw [if_pos hgt, if_neg (by omega)]
              · exact absurd (by first | exact h99 | exact Decidable.not_not.mp h99) (nI_ne0 (n := k + 1) (by omega) (by omega))
            · refine j_icmp_le (q := 87) (tgt := 124) dX7_goesBack_84 rfl (by decide) (fun h84 => ?_) (fun h84 => ?_)
              · refine K124 _ ?_ hev
                unfold gbT
                rw [if_neg hgt]
              · exact absurd (Int32.not_le.mp h84) hgt
          · exact absurd (nI_inj (b := 0) (by omega) (by omega) (by first | exact h53 | exact Decidable.not_not.mp h53)) hev
      refine j_iload (q := 10) dX7_goesBack_8 rfl (by rfl) ?_
      refine j_if_lt (q := 13) (tgt := 166) dX7_goesBack_10 rfl (by decide) (fun h10 => ?_) (fun h10 => ?_)
      · exact absurd h10 (nI_pos (by omega))
      refine j_aload_n (q := 14) dX7_goesBack_13 rfl (by rfl) ?_
      refine j_getr (q := 17) dX7_goesBack_14 rfl fX7_25 (by first | with_reducible assumption | assumption) (by rfl) ?_
      refine j_iload (q := 19) dX7_goesBack_17 rfl (by rfl) ?_
      refine j_iload (q := 21) dX7_goesBack_19 rfl (by rfl) ?_
      refine j_aload_n (q := 22) dX7_goesBack_21 rfl (by rfl) ?_
      refine j_getr (q := 25) dX7_goesBack_22 rfl fX7_25 (by first | with_reducible assumption | assumption) (by rfl) ?_
      refine j_iload (q := 27) dX7_goesBack_25 rfl (by rfl) ?_
      refine j_iaload (q := 28) dX7_goesBack_27 rfl (by first | with_reducible assumption | assumption) (by first | with_reducible assumption | assumption) ?_
      rw [gbM_r6]
      refine j_icmp_ge (q := 31) (tgt := 36) dX7_goesBack_28 rfl (by decide) (fun h28 => ?_) (fun h28 => ?_)
      · refine j_aload_n (q := 37) dX7_goesBack_36 rfl (by rfl) ?_
        refine j_getr (q := 40) dX7_goesBack_37 rfl fX7_25 (by first | with_reducible assumption | assumption) (by rfl) ?_
        refine j_iload (q := 42) dX7_goesBack_40 rfl (by rfl) ?_
        refine j_iaload (q := 43) dX7_goesBack_42 rfl (by first | with_reducible assumption | assumption) (by first | with_reducible assumption | assumption) ?_
        rw [gbM_r6]
        exact K43 _ (if_neg (Int32.not_lt.mpr h28)).symm
      · refine j_iload (q := 33) dX7_goesBack_31 rfl (by rfl) ?_
        refine j_goto (tgt := 43) dX7_goesBack_33 (by decide) ?_
        exact K43 _ (if_pos (Int32.not_le.mp h28)).symm
  have en : nI n - 1 = nI (n - 1) := pk_sub (b := 1) hn1
  refine j_iload_n (q := 1) dX7_goesBack_0 rfl (by rfl) ?_
  refine j_istore (q := 3) dX7_goesBack_1 rfl (by decide) ?_
  refine j_iload_n (q := 4) dX7_goesBack_3 rfl (by rfl) ?_
  refine j_iconst (q := 5) (v := 1) dX7_goesBack_4 rfl (by decide) ?_
  refine j_isub (q := 6) dX7_goesBack_5 rfl ?_
  rw [en]
  refine j_istore (q := 8) dX7_goesBack_6 rfl (by decide) ?_
  refine gJ.mm ?_ (K8 (n - 1) v S (by omega) (by rw [show n - 1 + 1 = n by omega]))
  rw [show S = (m.1 (t + 6), m.1 (t + 7), m.1 t 21) by rw [h6, h7, h21]]
  exact (gbM_self m t).symm
