/-! the reference: what is asked -/
def rsc (t : Nat) (m m' : gMem) : Prop := (∀ q, ¬ (q = t ∨ q = t + 1 ∨ q = t + 2 ∨ q = t + 6 ∨ q = t + 7 ∨ q = t + 8 ∨ q = t + 10) → m'.1 q = m.1 q) ∧ (∀ r, r < 159 → m'.1 (t + 1) r = m.1 (t + 1) r) ∧ ∀ r, (r = 5 ∨ r = 6 ∨ r = 23 ∨ r = 29) → m'.1 t r = m.1 t r
theorem rsc.rf (t : Nat) (m : gMem) : rsc t m m := ⟨fun _ _ => rfl, fun _ _ => rfl, fun _ _ => rfl⟩
theorem rsc.tr {t : Nat} {m m' m'' : gMem} (h : rsc t m m') (h' : rsc t m' m'') : rsc t m m'' := ⟨fun q a => (h'.1 q a).trans (h.1 q a), fun r a => (h'.2.1 r a).trans (h.2.1 r a), fun r a => (h'.2.2 r a).trans (h.2.2 r a)⟩
theorem rsc.q {t : Nat} {m m' : gMem} (h : rsc t m m') {p : Nat} (hp : 159 ≤ p) (g : Nat → Int32) : rsc t m (gQ m' t p g) := ⟨fun q a => (gQ_row (by omega) g).trans (h.1 q a), fun r a => (gQ_out (by omega) g).trans (h.2.1 r a), fun r a => (gQ_out (by omega) g).trans (h.2.2 r a)⟩
theorem rsc.w {t : Nat} {m m' : gMem} (h : rsc t m m') {k : Nat} (hk : k ≠ 5 ∧ k ≠ 6 ∧ k ≠ 23 ∧ k ≠ 29) (v : Int32) : rsc t m (gW m' t k v) := ⟨fun q a => by rw [← h.1 q a]; funext r; exact gW_n (by omega), fun r a => by rw [gW_n (by omega)]; exact h.2.1 r a, fun r a => by rw [gW_n (by omega)]; exact h.2.2 r a⟩
theorem rsc.g3 {t : Nat} {m m' : gMem} (h : rsc t m m') (a b c : Int32) : rsc t m (g3 m' t a b c) := ((h.w (by decide) a).w (by decide) b).w (by decide) c
theorem rsc.hg {t : Nat} {m m' : gMem} (h : rsc t m m') (g : Nat → Int32) (n : Nat) : rsc t m (hgM m' t g n) := (h.g3 _ _ _).q (by decide) _
theorem rsc.pg {t : Nat} {m m' : gMem} (h : rsc t m m') {p : Nat} (hp : p + 53 ≤ 159) : pgR m' t p = pgR m t p := by
  funext i
  by_cases hi : i < 53
  · rw [pgR_lt hi, pgR_lt hi, h.2.1 _ (by omega)]
  · rw [pgR_0 _ _ _ i (by omega), pgR_0 _ _ _ i (by omega)]
theorem rsc.n {t : Nat} {m m' : gMem} (h : rsc t m m') : pgR m' t 0 = pgR m t 0 := h.pg (by decide)
theorem rsc.ok {t : Nat} {m m' : gMem} (h : rsc t m m') (ho : okM m t) : okM m' t := by
  unfold okM
  rw [h.n]
  exact ho
theorem hgM_265 (m : gMem) (t : Nat) (g : Nat → Int32) (n : Nat) : pgR (hgM m t g n) t 265 = pgR m t 265 := by
  unfold hgM
  rw [pgR_ne (by omega), g3_pg]
theorem hgM_212 (m : gMem) (t : Nat) {g : Nat → Int32} (h0 : pg0 g) (n : Nat) : pgR (hgM m t g n) t 212 = plN g n := pgR_gQ (plN_0 h0 n) _ _ _
theorem hgM_15 (m : gMem) (t : Nat) (g : Nat → Int32) (n : Nat) : (hgM m t g n).1 t 15 = pleN g n := by unfold hgM; rw [gQ_out (by omega), g3_r15]
theorem hgM_16 (m : gMem) (t : Nat) (g : Nat → Int32) (n : Nat) : (hgM m t g n).1 t 16 = vaiN g n := by unfold hgM; rw [gQ_out (by omega), g3_r16]
theorem hgM_17 (m : gMem) (t : Nat) (g : Nat → Int32) (n : Nat) : (hgM m t g n).1 t 17 = hotN g n := by unfold hgM; rw [gQ_out (by omega), g3_r17]
/-! which go up, as a number; who went how often -/
def hrK (g : Nat → Int32) (w c : Int32) : Nat → Nat
  | 0 => 0
  | j + 1 => if g (4 + j) + vF g w c j ≤ vH g j then hrK g w c j + 2 ^ j else hrK g w c j
theorem hrK_e (g : Nat → Int32) (w c : Int32) : ∀ j, j ≤ 4 → hrK g w c j < 2 ^ j ∧ hrUj g w c j = nI (hrK g w c j)
  | 0, _ => ⟨by show 0 < 1; decide, rfl⟩
  | j + 1, hj => by
    obtain ⟨h1, h2⟩ := hrK_e g w c j (by omega)
    have hp : 2 ^ (j + 1) = 2 * 2 ^ j := by rw [Nat.pow_succ]; omega
    rw [hrK, hrUj, h2]
    by_cases h : g (4 + j) + vF g w c j ≤ vH g j
    · rw [if_pos h, if_pos h, orb j (by omega) _ h1]; exact ⟨by omega, rfl⟩
    · rw [if_neg h, if_neg h]; exact ⟨by omega, rfl⟩
theorem bitK1 : ∀ J, J < 4 → ∀ k, k < 2 ^ J → ∀ j, j < 4 → ((k + 2 ^ J) / 2 ^ j) % 2 = if j = J then 1 else (k / 2 ^ j) % 2 := by decide +kernel
theorem hrK_bit (g : Nat → Int32) (w c : Int32) : ∀ J, J ≤ 4 → ∀ j, j < 4 → (hrK g w c J / 2 ^ j) % 2 = if j < J ∧ g (4 + j) + vF g w c j ≤ vH g j then 1 else 0
  | 0, _, j, _ => by
    rw [if_neg (by omega), hrK, Nat.zero_div]
  | J + 1, hJ, j, hj => by
    have ih := hrK_bit g w c J (by omega) j hj
    have h1 := (hrK_e g w c J (by omega)).1
    rw [hrK]
    by_cases h : g (4 + J) + vF g w c J ≤ vH g J
    · rw [if_pos h, bitK1 J (by omega) _ h1 j hj]
      by_cases hjJ : j = J
      · subst hjJ; rw [if_pos rfl, if_pos ⟨by omega, h⟩]
      · rw [if_neg hjJ, ih]
        by_cases h3 : j < J ∧ g (4 + j) + vF g w c j ≤ vH g j
        · rw [if_pos h3, if_pos ⟨by omega, h3.2⟩]
        · rw [if_neg h3, if_neg (fun q => h3 ⟨by omega, q.2⟩)]
    · rw [if_neg h, ih]
      by_cases h3 : j < J ∧ g (4 + j) + vF g w c j ≤ vH g j
      · rw [if_pos h3, if_pos ⟨by omega, h3.2⟩]
      · rw [if_neg h3, if_neg (fun q => ?_)]
        by_cases hjJ : j = J
        · subst hjJ; exact h q.2
        · exact h3 ⟨by omega, q.2⟩
theorem sBit_n : ∀ k, k < 16 → ∀ j, j < 4 → sBit (nI k) (nI j) = nI ((k / 2 ^ j) % 2) := by decide +kernel
theorem hrU_bit {g : Nat → Int32} (hc : okC g) (w c : Int32) {j : Nat} (hj : j < 4) : sBit (hrU g w c) (nI j) = if j < cnt g ∧ g (4 + j) + vF g w c j ≤ vH g j then 1 else 0 := by
  have h4 := cnt_le hc
  obtain ⟨h1, h2⟩ := hrK_e g w c (cnt g) h4
  have := Nat.pow_le_pow_right (show 0 < 2 by decide) h4
  unfold hrU
  rw [h2, sBit_n _ (by omega) j hj, hrK_bit g w c (cnt g) h4 j hj]
  by_cases h : j < cnt g ∧ g (4 + j) + vF g w c j ≤ vH g j
  · rw [if_pos h, if_pos h]; rfl
  · rw [if_neg h, if_neg h]; rfl
theorem hr_went {g : Nat → Int32} (hc : okC g) (w c : Int32) {j : Nat} (hj : j < cnt g) : hr g w c (20 + j) = g (20 + j) + sBit (hrU g w c) (nI j) := by
  have h4 := cnt_le hc
  rw [hrU_bit hc w c (by omega)]
  unfold hr
  rw [pk_un (by omega)]
  unfold hrJ
  rw [if_pos (by omega), show (20 + j) % 4 = j by omega, show (20 + j) / 4 = 5 by omega]
  unfold vX
  by_cases h : g (4 + j) + vF g w c j ≤ vH g j
  · rw [if_pos h, if_neg (show ¬ 5 = 3 by decide), if_neg (show ¬ 5 = 4 by decide), if_pos (And.intro hj h)]
  · rw [if_neg h, if_neg (show ¬ 5 = 3 by decide), if_neg (show ¬ 5 = 4 by decide), if_neg (fun q : _ ∧ _ => h q.2), i_a0]
theorem went_up {g : Nat → Int32} (hc : okC g) {j : Nat} (hj : j < cnt g) : ∀ n, plN g n (20 + j) = g (20 + j) + upsV g (nI j) n
  | 0 => by
    show g (20 + j) = g (20 + j) + 0
    rw [i_a0]
  | n + 1 => by
    show hr (plN g n) _ _ (20 + j) = g (20 + j) + (upsV g (nI j) n + sBit (plU (plN g n)) (nI j))
    rw [hr_went (plN_C hc n) _ _ (by rw [plN_cnt]; exact hj), went_up hc hj n, Int32.add_assoc]
    rfl
theorem went_d {g : Nat → Int32} (hc : okC g) {j : Nat} (hj : j < cnt g) (n : Nat) {y : Int32} (hy : y = g (20 + j)) : plN g n (20 + j) - y = upsV g (nI j) n := by
  rw [went_up hc hj n, hy, Int32.add_comm, Int32.add_sub_cancel]
theorem cM_runs (E : gEv) (σ : gSg) (m : gMem) (hi t : Nat) (n k : Int32) (hR : gR σ t) (ho : okM m t) : gCo E yX7_runs cX7_runs 4 (some .int) 5 [.ref t, .int n, .int k] σ m hi (fun v' m' => v' = some (.int (xRuns (pgR m t 0) n k)) ∧ rsc t m m') := by
  refine gCo.of mwX7_runs (Nat.le_of_ble_eq_true rfl) ?_
  intro F hF
  have h0 := hR.1
  refine j_iload_n (q := 1) dX7_runs_0 rfl (by rfl) ?_
  refine o_callSi (q := 4) dX7_runs_1 rfl lX7_218 mwX7_isLong msX7_isLong (by rfl) rfl (Nat.le_of_ble_eq_true (by rfl)) (by first | decide | omega) (cM_isLong E σ m hi _) ?_
  refine j_if_eq (q := 7) (tgt := 19) dX7_runs_4 rfl (by decide) (fun h4 => ?_) (fun h4 => ?_)
  · refine j_iconst (q := 20) (v := (-1)) dX7_runs_19 rfl (by decide) ?_
    refine o_iret hF rfl dX7_runs_20 ?_
    unfold xRuns
    rw [if_neg (fun h => sWi_0 h4 h.1)]
    exact ⟨rfl, rsc.rf t m⟩
  refine j_iload_n (q := 8) dX7_runs_7 rfl (by rfl) ?_
  refine j_i2l (q := 9) dX7_runs_8 rfl ?_
  refine j_lconst (q := 10) (v := 0) dX7_runs_9 rfl (by decide) ?_
  refine j_ldc2 (q := 13) dX7_runs_10 rfl kX7_189 ?_
  refine o_callSi (q := 16) dX7_runs_13 rfl lX7_55 mwX7_in msX7_in (by rfl) rfl (Nat.le_of_ble_eq_true (by rfl)) (by first | decide | omega) (cM_inI E σ m hi k 0 4 (by decide) (by decide)) ?_
  refine j_if_ne (q := 19) (tgt := 21) dX7_runs_16 rfl (by decide) (fun h16 => ?_) (fun h16 => ?_)
  · unfold xRuns at hF
    rw [if_pos ⟨sWi_1 h4, sWi_1 h16⟩] at hF
    obtain ⟨j, hj, ej⟩ := swN_wi (n := 200) (by decide) h4
    obtain ⟨q, hq, eq⟩ := swN_wi (n := 4) (by decide) h16
    subst ej
    subst eq
    rw [nI_clamp (by omega), nI_clamp (by omega)] at hF
    have hs : rsc t m (hgM m t (pgR m t 0) j) := (rsc.rf t m).hg _ _
    have e212 := hgM_212 m t (pgR_0 m t 0) j
    have hSu := cM_sumOn E σ (hgM m t (pgR m t 0) j) hi t 212 4 (by decide) hR (by decide) (by rw [e212]; exact plN_C ho.1 j)
    rw [e212] at hSu
    refine j_aload_n (q := 22) dX7_runs_21 rfl (by rfl) ?_
    refine j_iconst (q := 23) (v := 0) dX7_runs_22 rfl (by decide) ?_
    refine j_iload_n (q := 24) dX7_runs_23 rfl (by rfl) ?_
    refine o_callVi (q := 27) dX7_runs_24 rfl lX7_221 mwX7_hoursGo mvX7_hoursGo cn7 (by assumption) (by rfl) rfl (Nat.le_of_ble_eq_true (by rfl)) (by first | decide | omega) (cM_hoursGo E σ m hi t 0 j (pgR m t 0) rfl hR (Or.inl rfl) ho.1 ho.2 hj) ?_
    refine j_istore_n (q := 28) dX7_runs_27 rfl (by decide) ?_
    refine j_iload_n (q := 29) dX7_runs_28 rfl (by rfl) ?_
    match q, hq with
    | 0, _ =>
      refine j_tableIn (off := 31) (tgt := 60) dX7_runs_29 (by decide) (by decide) (by rfl) (by decide) ?_
      refine j_iload_n (q := 61) dX7_runs_60 rfl (by rfl) ?_
      refine o_iret hF rfl dX7_runs_61 ?_
      exact ⟨rfl, hs⟩
    | 1, _ =>
      refine j_tableIn (off := 33) (tgt := 62) dX7_runs_29 (by decide) (by decide) (by rfl) (by decide) ?_
      refine j_aload_n (q := 63) dX7_runs_62 rfl (by rfl) ?_
      refine j_geti (q := 66) dX7_runs_63 rfl fX7_209 (by first | with_reducible assumption | assumption) (by rfl) ?_
      refine o_iret hF rfl dX7_runs_66 ?_
      exact ⟨by rw [hgM_15]; rfl, hs⟩
    | 2, _ =>
      refine j_tableIn (off := 38) (tgt := 67) dX7_runs_29 (by decide) (by decide) (by rfl) (by decide) ?_
      refine j_aload_n (q := 68) dX7_runs_67 rfl (by rfl) ?_
      refine j_geti (q := 71) dX7_runs_68 rfl fX7_212 (by first | with_reducible assumption | assumption) (by rfl) ?_
      refine o_iret hF rfl dX7_runs_71 ?_
      exact ⟨by rw [hgM_16]; rfl, hs⟩
    | 3, _ =>
      refine j_tableIn (off := 43) (tgt := 72) dX7_runs_29 (by decide) (by decide) (by rfl) (by decide) ?_
      refine j_aload_n (q := 73) dX7_runs_72 rfl (by rfl) ?_
      refine j_sipush (q := 76) (v := 212) dX7_runs_73 rfl (by decide) ?_
      refine j_bipush (q := 78) (v := 16) dX7_runs_76 rfl (by decide) ?_
      refine o_callVi (q := 81) dX7_runs_78 rfl lX7_157 mwX7_sumOn mvX7_sumOn cn7 (by assumption) (by rfl) rfl (Nat.le_of_ble_eq_true (by rfl)) (by first | decide | omega) (hSu) ?_
      refine o_iret hF rfl dX7_runs_81 ?_
      exact ⟨rfl, hs⟩
    | 4, _ =>
      refine j_tableOut (tgt := 82) dX7_runs_29 (by decide) (by decide) ?_
      refine j_aload_n (q := 83) dX7_runs_82 rfl (by rfl) ?_
      refine j_geti (q := 86) dX7_runs_83 rfl fX7_202 (by first | with_reducible assumption | assumption) (by rfl) ?_
      refine o_iret hF rfl dX7_runs_86 ?_
      exact ⟨by rw [hgM_17]; rfl, hs⟩
    | q + 5, h => exact absurd h (by omega)
  · refine j_iconst (q := 20) (v := (-1)) dX7_runs_19 rfl (by decide) ?_
    refine o_iret hF rfl dX7_runs_20 ?_
    unfold xRuns
    rw [if_neg (fun h => sWi_0 (by first | exact h16 | exact Decidable.not_not.mp h16) h.2)]
    exact ⟨rfl, rsc.rf t m⟩
theorem cM_ahead (E : gEv) (σ : gSg) (m : gMem) (hi t : Nat) (v n k : Int32) (hR : gR σ t) (ho : okM m t) : gCo E yX7_ahead cX7_ahead 4 (some .int) 5 [.ref t, .int v, .int n, .int k] σ m hi (fun v' m' => v' = some (.int (xAhead (pgR m t 0) v n k)) ∧ rsc t m m') := by
  refine gCo.of mwX7_ahead (Nat.le_of_ble_eq_true rfl) ?_
  intro F hF
  have h0 := hR.1
  have h1 := hR.2.1
  obtain ⟨c, hc, hc4⟩ := ho.1
  have hcn : cnt (pgR m t 0) = c := by unfold cnt; rw [hc]; exact nI_clamp (by omega)
  unfold xAhead at hF
  refine j_aload_n (q := 1) dX7_ahead_0 rfl (by rfl) ?_
  refine j_iload_n (q := 2) dX7_ahead_1 rfl (by rfl) ?_
  refine o_callVi (q := 5) dX7_ahead_2 rfl lX7_160 mwX7_isGeyser mvX7_isGeyser cn7 (by assumption) (by rfl) rfl (Nat.le_of_ble_eq_true (by rfl)) (by first | decide | omega) (cM_isGeyser E σ m hi t c v hR hc hc4) ?_
  rcases ixV_or v hc (by omega) with ⟨hs, hv2⟩ | ⟨j, hj, ej, hs, hv2⟩
  · rw [← hc, hs]
    rw [hv2] at hF
    refine j_if_eq (q := 8) (tgt := 27) dX7_ahead_5 rfl (by decide) (fun h5 => ?_) (fun h5 => ?_)
    · refine j_iconst (q := 28) (v := (-1)) dX7_ahead_27 rfl (by decide) ?_
      refine o_iret hF rfl dX7_ahead_28 ?_
      exact ⟨rfl, rsc.rf t m⟩
    · exact absurd rfl h5
  rw [← hc, hs]
  rw [hv2] at hF
  dsimp only at hF
  subst ej
  refine j_if_eq (q := 8) (tgt := 27) dX7_ahead_5 rfl (by decide) (fun h5 => ?_) (fun h5 => ?_)
  · exact absurd h5 (by decide)
  refine j_iload_n (q := 9) dX7_ahead_8 rfl (by rfl) ?_
  refine o_callSi (q := 12) dX7_ahead_9 rfl lX7_218 mwX7_isLong msX7_isLong (by rfl) rfl (Nat.le_of_ble_eq_true (by rfl)) (by first | decide | omega) (cM_isLong E σ m hi _) ?_
  refine j_if_eq (q := 15) (tgt := 27) dX7_ahead_12 rfl (by decide) (fun h12 => ?_) (fun h12 => ?_)
  · refine j_iconst (q := 28) (v := (-1)) dX7_ahead_27 rfl (by decide) ?_
    refine o_iret hF rfl dX7_ahead_28 ?_
    rw [if_neg (fun h => sWi_0 h12 h.1)]
    exact ⟨rfl, rsc.rf t m⟩
  refine j_iload_n (q := 16) dX7_ahead_15 rfl (by rfl) ?_
  refine j_i2l (q := 17) dX7_ahead_16 rfl ?_
  refine j_lconst (q := 18) (v := 0) dX7_ahead_17 rfl (by decide) ?_
  refine j_ldc2 (q := 21) dX7_ahead_18 rfl kX7_224 ?_
  refine o_callSi (q := 24) dX7_ahead_21 rfl lX7_55 mwX7_in msX7_in (by rfl) rfl (Nat.le_of_ble_eq_true (by rfl)) (by first | decide | omega) (cM_inI E σ m hi k 0 2 (by decide) (by decide)) ?_
  refine j_if_ne (q := 27) (tgt := 29) dX7_ahead_24 rfl (by decide) (fun h24 => ?_) (fun h24 => ?_)
  · rw [if_pos ⟨sWi_1 h12, sWi_1 h24⟩] at hF
    obtain ⟨u, hu, eu⟩ := swN_wi (n := 200) (by decide) h12
    subst eu
    rw [nI_clamp (by omega)] at hF
    have hsc : rsc t m (hgM m t (pgR m t 0) u) := (rsc.rf t m).hg _ _
    have e212 := hgM_212 m t (pgR_0 m t 0) u
    have i12 : gIdx (224 + nI j) 318 (212 + (12 + j)) := gIdx.of (by rw [show (224 : Int32) = nI 224 from rfl, nI_add]; congr 1; omega) (by omega) (by decide)
    have i16 : gIdx (228 + nI j) 318 (212 + (16 + j)) := gIdx.of (by rw [show (228 : Int32) = nI 228 from rfl, nI_add]; congr 1; omega) (by omega) (by decide)
    have hW := cM_wentThen E σ (hgM m t (pgR m t 0) u) hi t j hR (by omega)
    rw [e212, hsc.n, went_d ho.1 (by omega) u rfl] at hW
    refine j_aload_n (q := 30) dX7_ahead_29 rfl (by rfl) ?_
    refine j_iconst (q := 31) (v := 0) dX7_ahead_30 rfl (by decide) ?_
    refine j_iload_n (q := 32) dX7_ahead_31 rfl (by rfl) ?_
    refine o_callVi (q := 35) dX7_ahead_32 rfl lX7_221 mwX7_hoursGo mvX7_hoursGo cn7 (by assumption) (by rfl) rfl (Nat.le_of_ble_eq_true (by rfl)) (by first | decide | omega) (cM_hoursGo E σ m hi t 0 u (pgR m t 0) rfl hR (Or.inl rfl) ho.1 ho.2 hu) ?_
    refine j_pop (q := 36) dX7_ahead_35 rfl rfl ?_
    refine j_iload_n (q := 37) dX7_ahead_36 rfl (by rfl) ?_
    refine j_if_ne (q := 40) (tgt := 53) dX7_ahead_37 rfl (by decide) (fun h37 => ?_) (fun h37 => ?_)
    · rw [if_neg h37] at hF
      refine j_iload_n (q := 54) dX7_ahead_53 rfl (by rfl) ?_
      refine j_iconst (q := 55) (v := 1) dX7_ahead_54 rfl (by decide) ?_
      refine j_icmp_ne (q := 58) (tgt := 71) dX7_ahead_55 rfl (by decide) (fun h55 => ?_) (fun h55 => ?_)
      · rw [if_neg h55] at hF
        refine j_aload_n (q := 72) dX7_ahead_71 rfl (by rfl) ?_
        refine j_iload_n (q := 73) dX7_ahead_72 rfl (by rfl) ?_
        refine o_callVi (q := 76) dX7_ahead_73 rfl lX7_226 mwX7_wentThen mvX7_wentThen cn7 (by assumption) (by rfl) rfl (Nat.le_of_ble_eq_true (by rfl)) (by first | decide | omega) (hW) ?_
        refine o_iret hF rfl dX7_ahead_76 ?_
        exact ⟨rfl, hsc⟩
      · rw [if_pos (by first | exact h55 | exact Decidable.not_not.mp h55)] at hF
        refine j_aload_n (q := 59) dX7_ahead_58 rfl (by rfl) ?_
        refine j_getr (q := 62) dX7_ahead_59 rfl fX7_7 (by first | with_reducible assumption | assumption) (by rfl) ?_
        refine j_sipush (q := 65) (v := 228) dX7_ahead_62 rfl (by decide) ?_
        refine j_iload_n (q := 66) dX7_ahead_65 rfl (by rfl) ?_
        refine j_iadd (q := 67) dX7_ahead_66 rfl ?_
        refine j_iaload (q := 68) dX7_ahead_67 rfl (by first | with_reducible assumption | assumption) (by first | with_reducible assumption | assumption) ?_
        refine j_goto (tgt := 76) dX7_ahead_68 (by decide) ?_
        refine o_iret hF rfl dX7_ahead_76 ?_
        exact ⟨by rw [rg_i _ t 212 (by omega), e212, show 4 * 4 + j = 16 + j by omega], hsc⟩
    · rw [if_pos (by first | exact h37 | exact Decidable.not_not.mp h37)] at hF
      refine j_aload_n (q := 41) dX7_ahead_40 rfl (by rfl) ?_
      refine j_getr (q := 44) dX7_ahead_41 rfl fX7_7 (by first | with_reducible assumption | assumption) (by rfl) ?_
      refine j_sipush (q := 47) (v := 224) dX7_ahead_44 rfl (by decide) ?_
      refine j_iload_n (q := 48) dX7_ahead_47 rfl (by rfl) ?_
      refine j_iadd (q := 49) dX7_ahead_48 rfl ?_
      refine j_iaload (q := 50) dX7_ahead_49 rfl (by first | with_reducible assumption | assumption) (by first | with_reducible assumption | assumption) ?_
      refine j_goto (tgt := 76) dX7_ahead_50 (by decide) ?_
      refine o_iret hF rfl dX7_ahead_76 ?_
      exact ⟨by rw [rg_i _ t 212 (by omega), e212, show 4 * 3 + j = 12 + j by omega], hsc⟩
  · refine j_iconst (q := 28) (v := (-1)) dX7_ahead_27 rfl (by decide) ?_
    refine o_iret hF rfl dX7_ahead_28 ?_
    rw [if_neg (fun h => sWi_0 (by first | exact h24 | exact Decidable.not_not.mp h24) h.2)]
    exact ⟨rfl, rsc.rf t m⟩
theorem cM_ups (E : gEv) (σ : gSg) (m : gMem) (hi t : Nat) (n : Int32) (hR : gR σ t) (ho : okM m t) : gCo E yX7_ups cX7_ups 2 (some .int) 5 [.ref t, .int n] σ m hi (fun v' m' => v' = some (.int (xUps (pgR m t 0) n)) ∧ rsc t m m') := by
  refine gCo.of mwX7_ups (Nat.le_of_ble_eq_true rfl) ?_
  intro F hF
  have h0 := hR.1
  unfold xUps at hF
  refine j_iload_n (q := 1) dX7_ups_0 rfl (by rfl) ?_
  refine o_callSi (q := 4) dX7_ups_1 rfl lX7_218 mwX7_isLong msX7_isLong (by rfl) rfl (Nat.le_of_ble_eq_true (by rfl)) (by first | decide | omega) (cM_isLong E σ m hi _) ?_
  refine j_if_ne (q := 7) (tgt := 9) dX7_ups_4 rfl (by decide) (fun h4 => ?_) (fun h4 => ?_)
  · rw [if_pos (sWi_1 h4)] at hF
    obtain ⟨u, hu, eu⟩ := swN_wi (n := 200) (by decide) h4
    subst eu
    rw [nI_clamp (by omega)] at hF
    have hP := cM_plan E σ (g3 m t (pleN (pgR m t 0) u) (vaiN (pgR m t 0) u) (hotN (pgR m t 0) u)) hi t 212 u 9999 (pgR m t 0) hR (by decide) (pgR_0 m t 0) ho.1 ho.2 (by omega)
    refine j_aload_n (q := 10) dX7_ups_9 rfl (by rfl) ?_
    refine j_iconst (q := 11) (v := 0) dX7_ups_10 rfl (by decide) ?_
    refine j_iload_n (q := 12) dX7_ups_11 rfl (by rfl) ?_
    refine o_callVi (q := 15) dX7_ups_12 rfl lX7_221 mwX7_hoursGo mvX7_hoursGo cn7 (by assumption) (by rfl) rfl (Nat.le_of_ble_eq_true (by rfl)) (by first | decide | omega) (cM_hoursGo E σ m hi t 0 u (pgR m t 0) rfl hR (Or.inl rfl) ho.1 ho.2 hu) ?_
    refine j_pop (q := 16) dX7_ups_15 rfl rfl ?_
    refine j_aload_n (q := 17) dX7_ups_16 rfl (by rfl) ?_
    refine j_sipush (q := 20) (v := 212) dX7_ups_17 rfl (by decide) ?_
    refine o_callVi (q := 23) dX7_ups_20 rfl lX7_196 mwX7_planOn mvX7_planOn cn7 (by assumption) (by rfl) rfl (Nat.le_of_ble_eq_true (by rfl)) (by first | decide | omega) (hP) ?_
    refine o_iret hF rfl dX7_ups_23 ?_
    exact ⟨rfl, ((rsc.rf t m).g3 _ _ _).q (by decide) _⟩
  · refine j_iconst (q := 8) (v := (-1)) dX7_ups_7 rfl (by decide) ?_
    refine o_iret hF rfl dX7_ups_8 ?_
    rw [if_neg (sWi_0 (by first | exact h4 | exact Decidable.not_not.mp h4))]
    exact ⟨rfl, rsc.rf t m⟩
theorem sar_bit : ∀ k, k < 16 → ∀ j, j < 4 → (nI k >>> (nI j &&& 31)) &&& 1 = sBit (nI k) (nI j) := by decide +kernel
theorem cM_when (E : gEv) (σ : gSg) (m : gMem) (hi t : Nat) (v : Int32) (hR : gR σ t) (ho : okM m t) : gCo E yX7_when cX7_when 3 (some .int) 4 [.ref t, .int v] σ m hi (fun v' m' => v' = some (.int (xWhen (pgR m t 0) v)) ∧ rsc t m m') := by
  refine gCo.of mwX7_when (Nat.le_of_ble_eq_true rfl) ?_
  intro F hF
  have h0 := hR.1
  obtain ⟨c, hc, hc4⟩ := ho.1
  unfold xWhen at hF
  refine j_aload_n (q := 1) dX7_when_0 rfl (by rfl) ?_
  refine j_iload_n (q := 2) dX7_when_1 rfl (by rfl) ?_
  refine o_callVi (q := 5) dX7_when_2 rfl lX7_160 mwX7_isGeyser mvX7_isGeyser cn7 (by assumption) (by rfl) rfl (Nat.le_of_ble_eq_true (by rfl)) (by first | decide | omega) (cM_isGeyser E σ m hi t c v hR hc hc4) ?_
  rcases ixV_or v hc (by omega) with ⟨hs, hv2⟩ | ⟨j, hj, ej, hs, hv2⟩
  · rw [← hc, hs]
    rw [hv2] at hF
    refine j_if_ne (q := 8) (tgt := 10) dX7_when_5 rfl (by decide) (fun h5 => ?_) (fun h5 => ?_)
    · exact absurd rfl h5
    · refine j_iconst (q := 9) (v := (-1)) dX7_when_8 rfl (by decide) ?_
      refine o_iret hF rfl dX7_when_9 ?_
      exact ⟨rfl, rsc.rf t m⟩
  rw [← hc, hs]
  rw [hv2] at hF
  dsimp only at hF
  subst ej
  have K20 : ∀ (k b : Nat), b + k = 201 → whenJ (pgR m t 0) (nI j) 201 0 = whenJ (pgR m t 0) (nI j) k b → (gJ E yX7_when cX7_when 3 (some .int) (gRm 4 0 0) F 20 ([some (.ref t), some (.int (nI j)), some (.int (nI b))]) ([]) 0 0 σ (gQ m t 212 (plN (pgR m t 0) b)) hi) := by
    intro k
    induction k with
    | zero =>
      intro b hb he
      have : b = 201 := by omega
      subst this
      refine j_iload_n (q := 21) dX7_when_20 rfl (by rfl) ?_
      refine j_sipush (q := 24) (v := 200) dX7_when_21 rfl (by decide) ?_
      refine j_icmp_gt (q := 27) (tgt := 50) dX7_when_24 rfl (by decide) (fun h24 => ?_) (fun h24 => ?_)
      · refine j_bipush (q := 52) (v := (-4)) dX7_when_50 rfl (by decide) ?_
        refine o_iret hF rfl dX7_when_52 ?_
        rw [he]
        exact ⟨rfl, (rsc.rf t m).q (by decide) _⟩
      · exact absurd (show (200 : Int32) < nI 201 by decide) h24
    | succ k ih =>
      intro b hb he
      obtain ⟨u, hu16, hu⟩ := plU_n (plN_C ho.1 b)
      refine j_iload_n (q := 21) dX7_when_20 rfl (by rfl) ?_
      refine j_sipush (q := 24) (v := 200) dX7_when_21 rfl (by decide) ?_
      refine j_icmp_gt (q := 27) (tgt := 50) dX7_when_24 rfl (by decide) (fun h24 => ?_) (fun h24 => ?_)
      · exact absurd h24 (nI_nlt (a := 200) (b := b) (by omega) (by omega))
      refine j_aload_n (q := 28) dX7_when_27 rfl (by rfl) ?_
      refine j_sipush (q := 31) (v := 212) dX7_when_28 rfl (by decide) ?_
      refine o_callVi (q := 34) dX7_when_31 rfl lX7_196 mwX7_planOn mvX7_planOn cn7 (by assumption) (by rfl) rfl (Nat.le_of_ble_eq_true (by rfl)) (by first | decide | omega) (cM_plan E σ m hi t 212 b 9999 (pgR m t 0) hR (by decide) (pgR_0 m t 0) ho.1 ho.2 (by omega)) ?_
      refine j_iload_n (q := 35) dX7_when_34 rfl (by rfl) ?_
      refine j_ishr (q := 36) dX7_when_35 rfl ?_
      refine j_iconst (q := 37) (v := 1) dX7_when_36 rfl (by decide) ?_
      refine j_iand (q := 38) dX7_when_37 rfl ?_
      refine j_iconst (q := 39) (v := 1) dX7_when_38 rfl (by decide) ?_
      have eb : (plU (plN (pgR m t 0) b) >>> (nI j &&& 31)) &&& 1 = sBit (plU (plN (pgR m t 0) b)) (nI j) := by rw [hu]; exact sar_bit u hu16 j (by omega)
      rw [eb]
      refine j_icmp_ne (q := 42) (tgt := 44) dX7_when_39 rfl (by decide) (fun h39 => ?_) (fun h39 => ?_)
      · refine j_iinc (q := 47) dX7_when_44 rfl (by rfl) (by first | exact nI_inc _ | rfl) (by decide) ?_
        refine j_goto (tgt := 20) dX7_when_47 (by decide) ?_
        refine ih (b + 1) (by omega) ?_
        rw [he, whenJ, if_neg h39]
      · refine j_iload_n (q := 43) dX7_when_42 rfl (by rfl) ?_
        refine o_iret hF rfl dX7_when_43 ?_
        rw [he, whenJ, if_pos (by first | exact h39 | exact Decidable.not_not.mp h39)]
        exact ⟨rfl, (rsc.rf t m).q (by decide) _⟩
  refine j_if_ne (q := 8) (tgt := 10) dX7_when_5 rfl (by decide) (fun h5 => ?_) (fun h5 => ?_)
  · refine j_aload_n (q := 11) dX7_when_10 rfl (by rfl) ?_
    refine j_iconst (q := 12) (v := 0) dX7_when_11 rfl (by decide) ?_
    refine j_sipush (q := 15) (v := 212) dX7_when_12 rfl (by decide) ?_
    refine o_callVv (q := 18) dX7_when_15 rfl lX7_205 mwX7_copies mvX7_copies cn7 (by assumption) (by rfl) rfl (Nat.le_of_ble_eq_true (by rfl)) (by first | decide | omega) (cM_copies E σ m hi t 0 212 hR (by decide) (by decide) (by decide)) ?_
    refine j_iconst (q := 19) (v := 0) dX7_when_18 rfl (by decide) ?_
    refine j_istore_n (q := 20) dX7_when_19 rfl (by decide) ?_
    exact K20 201 0 (by omega) rfl
  · exact absurd h5 (by decide)
