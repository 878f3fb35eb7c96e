/-! the reference: kinds, nerves, ask -/
def rsk (t k : Nat) (m m' : gMem) : Prop := (∀ q, ¬ (q = t ∨ q = t + 1 ∨ q = t + 2 ∨ q = t + 6 ∨ q = t + 7 ∨ q = t + 8 ∨ q = t + 10) → m'.1 q = m.1 q) ∧ (∀ r, r < 159 → r ≠ k → m'.1 (t + 1) r = m.1 (t + 1) r) ∧ ∀ r, (r = 5 ∨ r = 6 ∨ r = 23 ∨ r = 29) → m'.1 t r = m.1 t r
theorem rsk.rf (t k : Nat) (m : gMem) : rsk t k m m := ⟨fun _ _ => rfl, fun _ _ _ => rfl, fun _ _ => rfl⟩
theorem rsk.w {t k : Nat} {m m' : gMem} (h : rsk t k m m') (v : Int32) : rsk t k m (gW m' (t + 1) k v) := ⟨fun q a => by rw [← h.1 q a]; funext r; exact gW_n (by omega), fun r a b => by rw [gW_n (by omega)]; exact h.2.1 r a b, fun r a => by rw [gW_n (by omega)]; exact h.2.2 r a⟩
theorem rsk.u {t k : Nat} {m m' : gMem} (h : rsk t k m m') (b : Nat) (g : Nat → Int32) (i : Nat) : rsk t k m (uW m' t b g i) := ⟨fun q a => by rw [← h.1 q a]; funext r; exact uW_n (by omega), fun r a c => by rw [uW_n (by omega)]; exact h.2.1 r a c, fun r a => by rw [uW_n (by omega)]; exact h.2.2 r a⟩
theorem rsk.q {t k : Nat} {m m' : gMem} (h : rsk t k m m') {p : Nat} (hp : 159 ≤ p) (g : Nat → Int32) : rsk t k m (gQ m' t p g) := ⟨fun q a => (gQ_row (by omega) g).trans (h.1 q a), fun r a b => (gQ_out (by omega) g).trans (h.2.1 r a b), fun r a => (gQ_out (by omega) g).trans (h.2.2 r a)⟩
theorem rsk.c {t k : Nat} {m m' : gMem} (h : rsk t k m m') : rsc t m (gW m' (t + 1) k (m.1 (t + 1) k)) := by
  have h2 := h.w (m.1 (t + 1) k)
  refine ⟨h2.1, fun r hr => ?_, h2.2.2⟩
  by_cases e : r = k
  · subst e; rw [gW_s]
  · exact h2.2.1 r hr e
theorem rsk.pg {t k : Nat} {m m' : gMem} (h : rsk t k m m') (hk : k < 50) (v : Int32) : pgR (gW m' (t + 1) k v) t 0 = upd (pgR m t 0) k v := by
  funext i
  by_cases hi : i < 53
  · rw [pgR_lt hi, Nat.zero_add]
    by_cases e : i = k
    · subst e; rw [gW_s, pk_us, aj0 (by omega) (by omega), i_a0]
    · rw [gW_n (by omega), h.2.1 i (by omega) e, pk_un e, pgR_lt hi, Nat.zero_add]
  · rw [pgR_0 _ _ _ i (by omega), pk_un (by omega), pgR_0 _ _ _ i (by omega)]
theorem okSR.k {t k s : Nat} {m m' : gMem} (h : rsk t k m m') (hS : okSR m t s) : okSR m' t s := by
  unfold okSR
  rw [h.2.2 23 (by omega), h.1 (t + 9) (by omega)]
  exact hS
theorem okSR.c {t s : Nat} {m m' : gMem} (h : rsc t m m') (hS : okSR m t s) : okSR m' t s := by
  unfold okSR
  rw [h.2.2 23 (by omega), h.1 (t + 9) (by omega)]
  exact hS
theorem agB_mk (m : gMem) (t s k b : Nat) : agB (mkR m t) 0 s k b ↔ agS (fun r => m.1 (t + 9) (3 * r)) (fun r => m.1 (t + 9) (3 * r + 1)) (fun r => m.1 (t + 9) (3 * r + 2)) (fun n => plU (plN (upd (pgR m t 0) k (nI b)) n)) s := by
  unfold agB
  rw [mkR_24, mkR_25, mkR_26, mkR_pg]
theorem uB_mk (m : gMem) (t k b n : Nat) : uB (mkR m t) 0 k b n = plU (plN (upd (pgR m t 0) k (nI b)) n) := by
  unfold uB
  rw [mkR_pg]
theorem cM_numbersAt (E : gEv) (σ : gSg) (m : gMem) (hi t s k M : Nat) (hR : gR σ t) (ho : okM m t) (hS : okSR m t s) (hk : k < 24) (hM : M ≤ 10) : gCo E yX7_numbersAt cX7_numbersAt 6 (some .int) 5 [.ref t, .int (nI k), .int (nI M)] σ m hi (fun v' m' => v' = some (.int (agBits (mkR m t) 0 s k M)) ∧ rsc t m m' ∧ ∀ b, b < M → ∀ n, n < 41 → m'.1 (t + 10) (41 * b + n) = uB (mkR m t) 0 k b n) := by
  refine gCo.of mwX7_numbersAt (Nat.le_of_ble_eq_true rfl) ?_
  intro F hF
  have h0 := hR.1
  have h1 := hR.2.1
  have ix : gIdx (nI k) 318 k := gIdx.of rfl (by omega) (by decide)
  have K13 : ∀ (w b : Nat) (mi : gMem), b + w = M → rsk t k m mi → (∀ b', b' < b → ∀ n, n < 41 → mi.1 (t + 10) (41 * b' + n) = uB (mkR m t) 0 k b' n) → (gJ E yX7_numbersAt cX7_numbersAt 6 (some .int) (gRm 5 0 0) F 13 ([some (.ref t), some (.int (nI k)), some (.int (nI M)), some (.int (m.1 (t + 1) k)), some (.int (agBits (mkR m t) 0 s k b)), some (.int (nI b))]) ([]) 0 0 σ (mi) hi) := by
    intro w
    induction w with
    | zero =>
      intro b mi hb hsk hup
      have hbM : b = M := by omega
      subst hbM
      refine j_iload (q := 15) dX7_numbersAt_13 rfl (by rfl) ?_
      refine j_iload_n (q := 16) dX7_numbersAt_15 rfl (by rfl) ?_
      refine j_icmp_ge (q := 19) (tgt := 55) dX7_numbersAt_16 rfl (by decide) (fun h16 => ?_) (fun h16 => ?_)
      · refine j_aload_n (q := 56) dX7_numbersAt_55 rfl (by rfl) ?_
        refine j_getr (q := 59) dX7_numbersAt_56 rfl fX7_7 (by first | with_reducible assumption | assumption) (by rfl) ?_
        refine j_iload_n (q := 60) dX7_numbersAt_59 rfl (by rfl) ?_
        refine j_iload_n (q := 61) dX7_numbersAt_60 rfl (by rfl) ?_
        refine j_iastore (q := 62) dX7_numbersAt_61 rfl (by first | with_reducible assumption | assumption) (by first | with_reducible assumption | assumption) ?_
        refine j_iload (q := 64) dX7_numbersAt_62 rfl (by rfl) ?_
        refine o_iret hF rfl dX7_numbersAt_64 ?_
        exact ⟨rfl, hsk.c, fun b' hb' n hn => by rw [gW_n (by omega)]; exact hup b' hb' n hn⟩
      · exact absurd (Int32.le_refl _) h16
    | succ w ih =>
      intro b mi hb hsk hup
      have hpg := hsk.pg (by omega) (nI b)
      have hsk2 := hsk.w (nI b)
      have hIs := cM_isAsSeen E σ (gW mi (t + 1) k (nI b)) hi t s b (upd (pgR m t 0) k (nI b)) hpg hR (hS.k hsk2) (ho.1.up (by omega) _) (ho.2.up (by omega) (by omega) _) (by omega)
      rw [hsk2.1 (t + 9) (by omega)] at hIs
      have hsk3 := (hsk2.u b (upd (pgR m t 0) k (nI b)) 41).q (p := 212) (by decide) (plN (upd (pgR m t 0) k (nI b)) 41)
      have hup3 : ∀ b', b' < b + 1 → ∀ n, n < 41 → (gQ (uW (gW mi (t + 1) k (nI b)) t b (upd (pgR m t 0) k (nI b)) 41) t 212 (plN (upd (pgR m t 0) k (nI b)) 41)).1 (t + 10) (41 * b' + n) = uB (mkR m t) 0 k b' n := by
        intro b' hb' n hn
        rw [gQ_out (by omega)]
        by_cases e : b' = b
        · subst e; rw [uW_i hn, uB_mk]
        · rw [uW_n (by omega), gW_n (by omega)]; exact hup b' (by omega) n hn
      have := ih (b + 1) _ (by omega) hsk3 hup3
      refine j_iload (q := 15) dX7_numbersAt_13 rfl (by rfl) ?_
      refine j_iload_n (q := 16) dX7_numbersAt_15 rfl (by rfl) ?_
      refine j_icmp_ge (q := 19) (tgt := 55) dX7_numbersAt_16 rfl (by decide) (fun h16 => ?_) (fun h16 => ?_)
      · exact absurd h16 (nI_ge (by omega) (by omega))
      refine j_aload_n (q := 20) dX7_numbersAt_19 rfl (by rfl) ?_
      refine j_getr (q := 23) dX7_numbersAt_20 rfl fX7_7 (by first | with_reducible assumption | assumption) (by rfl) ?_
      refine j_iload_n (q := 24) dX7_numbersAt_23 rfl (by rfl) ?_
      refine j_iload (q := 26) dX7_numbersAt_24 rfl (by rfl) ?_
      refine j_iastore (q := 27) dX7_numbersAt_26 rfl (by first | with_reducible assumption | assumption) (by first | with_reducible assumption | assumption) ?_
      refine j_iload (q := 29) dX7_numbersAt_27 rfl (by rfl) ?_
      refine j_aload_n (q := 30) dX7_numbersAt_29 rfl (by rfl) ?_
      refine j_iload (q := 32) dX7_numbersAt_30 rfl (by rfl) ?_
      refine o_callVi (q := 35) dX7_numbersAt_32 rfl lX7_257 mwX7_isAsSeen mvX7_isAsSeen cn7 (by assumption) (by rfl) rfl (Nat.le_of_ble_eq_true (by rfl)) (by first | decide | omega) (hIs) ?_
      by_cases hag : agB (mkR m t) 0 s k b
      · rw [agBits, if_pos hag] at this
        rw [if_pos ((agB_mk m t s k b).mp hag)]
        refine j_if_eq (q := 38) (tgt := 45) dX7_numbersAt_35 rfl (by decide) (fun h35 => ?_) (fun h35 => ?_)
        · exact absurd h35 (by decide)
        refine j_iconst (q := 39) (v := 1) dX7_numbersAt_38 rfl (by decide) ?_
        refine j_iload (q := 41) dX7_numbersAt_39 rfl (by rfl) ?_
        refine j_ishl (q := 42) dX7_numbersAt_41 rfl ?_
        refine j_goto (tgt := 46) dX7_numbersAt_42 (by decide) ?_
        refine j_ior (q := 47) dX7_numbersAt_46 rfl ?_
        refine j_istore (q := 49) dX7_numbersAt_47 rfl (by decide) ?_
        refine j_iinc (q := 52) dX7_numbersAt_49 rfl (by rfl) (by first | exact nI_inc _ | rfl) (by decide) ?_
        refine j_goto (tgt := 13) dX7_numbersAt_52 (by decide) ?_
        exact this
      · rw [agBits, if_neg hag] at this
        rw [if_neg (fun q => hag ((agB_mk m t s k b).mpr q))]
        refine j_if_eq (q := 38) (tgt := 45) dX7_numbersAt_35 rfl (by decide) (fun h35 => ?_) (fun h35 => ?_)
        · refine j_iconst (q := 46) (v := 0) dX7_numbersAt_45 rfl (by decide) ?_
          refine j_ior (q := 47) dX7_numbersAt_46 rfl ?_
          rw [Int32.or_zero]
          refine j_istore (q := 49) dX7_numbersAt_47 rfl (by decide) ?_
          refine j_iinc (q := 52) dX7_numbersAt_49 rfl (by rfl) (by first | exact nI_inc _ | rfl) (by decide) ?_
          refine j_goto (tgt := 13) dX7_numbersAt_52 (by decide) ?_
          exact this
        · exact absurd rfl h35
  refine j_aload_n (q := 1) dX7_numbersAt_0 rfl (by rfl) ?_
  refine j_getr (q := 4) dX7_numbersAt_1 rfl fX7_7 (by first | with_reducible assumption | assumption) (by rfl) ?_
  refine j_iload_n (q := 5) dX7_numbersAt_4 rfl (by rfl) ?_
  refine j_iaload (q := 6) dX7_numbersAt_5 rfl (by first | with_reducible assumption | assumption) (by first | with_reducible assumption | assumption) ?_
  refine j_istore_n (q := 7) dX7_numbersAt_6 rfl (by decide) ?_
  refine j_iconst (q := 8) (v := 0) dX7_numbersAt_7 rfl (by decide) ?_
  refine j_istore (q := 10) dX7_numbersAt_8 rfl (by decide) ?_
  refine j_iconst (q := 11) (v := 0) dX7_numbersAt_10 rfl (by decide) ?_
  refine j_istore (q := 13) dX7_numbersAt_11 rfl (by decide) ?_
  exact K13 M 0 m (by omega) (rsk.rf t k m) (fun b' hb' => absurd hb' (by omega))
theorem mkR_g24 (m : gMem) (t : Nat) : pgC (mkR m t) (0 + 1) 24 = pgR m t 0 24 := by rw [mkR_pg]
theorem cM_kinds (E : gEv) (σ : gSg) (m : gMem) (hi t s : Nat) (v : Int32) (hR : gR σ t) (ho : okM m t) (hS : okSR m t s) : gCo E yX7_kinds cX7_kinds 2 (some .int) 6 [.ref t, .int v] σ m hi (fun v' m' => v' = some (.int (xNerves (mkR m t) 0 s v 0 4)) ∧ rsc t m m') := by
  refine gCo.of mwX7_kinds (Nat.le_of_ble_eq_true rfl) ?_
  intro F hF
  have h0 := hR.1
  obtain ⟨c, hc, hc4⟩ := id ho.1
  unfold xNerves at hF
  rw [mkR_g24] at hF
  refine j_aload_n (q := 1) dX7_kinds_0 rfl (by rfl) ?_
  refine j_iload_n (q := 2) dX7_kinds_1 rfl (by rfl) ?_
  refine o_callVi (q := 5) dX7_kinds_2 rfl lX7_160 mwX7_isGeyser mvX7_isGeyser cn7 (by assumption) (by rfl) rfl (Nat.le_of_ble_eq_true (by rfl)) (by first | decide | omega) (cM_isGeyser E σ m hi t c v hR hc hc4) ?_
  rcases ixV_or v hc (by omega) with ⟨hs, hv2⟩ | ⟨j, hj, ej, hs, hv2⟩
  · rw [← hc, hs]
    rw [hv2] at hF
    refine j_if_eq (q := 8) (tgt := 17) dX7_kinds_5 rfl (by decide) (fun h5 => ?_) (fun h5 => ?_)
    · refine j_iconst (q := 18) (v := (-1)) dX7_kinds_17 rfl (by decide) ?_
      refine o_iret hF rfl dX7_kinds_18 ?_
      exact ⟨rfl, rsc.rf t m⟩
    · exact absurd rfl h5
  rw [← hc, hs]
  rw [hv2] at hF
  dsimp only at hF
  subst ej
  refine j_if_eq (q := 8) (tgt := 17) dX7_kinds_5 rfl (by decide) (fun h5 => ?_) (fun h5 => ?_)
  · exact absurd h5 (by decide)
  refine j_aload_n (q := 9) dX7_kinds_8 rfl (by rfl) ?_
  refine j_iload_n (q := 10) dX7_kinds_9 rfl (by rfl) ?_
  refine j_iconst (q := 11) (v := 4) dX7_kinds_10 rfl (by decide) ?_
  refine o_callVx (q := 14) dX7_kinds_11 rfl lX7_260 mwX7_numbersAt mvX7_numbersAt cn7 (by assumption) (by rfl) rfl (Nat.le_of_ble_eq_true (by rfl)) (by first | decide | omega) (cM_numbersAt E σ m hi t s j 4 hR ho hS (by omega) (by omega)) ?_
  rintro _ m1 ⟨rfl, hs1, -⟩
  refine j_goto (tgt := 18) dX7_kinds_14 (by decide) ?_
  refine o_iret hF rfl dX7_kinds_18 ?_
  exact ⟨by rw [show 4 * 0 + j = j by omega], hs1⟩
theorem cM_nerves (E : gEv) (σ : gSg) (m : gMem) (hi t s : Nat) (v : Int32) (hR : gR σ t) (ho : okM m t) (hS : okSR m t s) : gCo E yX7_nerves cX7_nerves 2 (some .int) 6 [.ref t, .int v] σ m hi (fun v' m' => v' = some (.int (xNerves (mkR m t) 0 s v 2 10)) ∧ rsc t m m') := by
  refine gCo.of mwX7_nerves (Nat.le_of_ble_eq_true rfl) ?_
  intro F hF
  have h0 := hR.1
  obtain ⟨c, hc, hc4⟩ := id ho.1
  unfold xNerves at hF
  rw [mkR_g24] at hF
  refine j_aload_n (q := 1) dX7_nerves_0 rfl (by rfl) ?_
  refine j_iload_n (q := 2) dX7_nerves_1 rfl (by rfl) ?_
  refine o_callVi (q := 5) dX7_nerves_2 rfl lX7_160 mwX7_isGeyser mvX7_isGeyser cn7 (by assumption) (by rfl) rfl (Nat.le_of_ble_eq_true (by rfl)) (by first | decide | omega) (cM_isGeyser E σ m hi t c v hR hc hc4) ?_
  rcases ixV_or v hc (by omega) with ⟨hs, hv2⟩ | ⟨j, hj, ej, hs, hv2⟩
  · rw [← hc, hs]
    rw [hv2] at hF
    refine j_if_eq (q := 8) (tgt := 21) dX7_nerves_5 rfl (by decide) (fun h5 => ?_) (fun h5 => ?_)
    · refine j_iconst (q := 22) (v := (-1)) dX7_nerves_21 rfl (by decide) ?_
      refine o_iret hF rfl dX7_nerves_22 ?_
      exact ⟨rfl, rsc.rf t m⟩
    · exact absurd rfl h5
  rw [← hc, hs]
  rw [hv2] at hF
  dsimp only at hF
  subst ej
  have e8 : (8 : Int32) + nI j = nI (4 * 2 + j) := nI_add 8 j
  refine j_if_eq (q := 8) (tgt := 21) dX7_nerves_5 rfl (by decide) (fun h5 => ?_) (fun h5 => ?_)
  · exact absurd h5 (by decide)
  refine j_aload_n (q := 9) dX7_nerves_8 rfl (by rfl) ?_
  refine j_bipush (q := 11) (v := 8) dX7_nerves_9 rfl (by decide) ?_
  refine j_iload_n (q := 12) dX7_nerves_11 rfl (by rfl) ?_
  refine j_iadd (q := 13) dX7_nerves_12 rfl ?_
  rw [e8]
  refine j_bipush (q := 15) (v := 10) dX7_nerves_13 rfl (by decide) ?_
  refine o_callVx (q := 18) dX7_nerves_15 rfl lX7_260 mwX7_numbersAt mvX7_numbersAt cn7 (by assumption) (by rfl) rfl (Nat.le_of_ble_eq_true (by rfl)) (by first | decide | omega) (cM_numbersAt E σ m hi t s (4 * 2 + j) 10 hR ho hS (by omega) (by omega)) ?_
  rintro _ m1 ⟨rfl, hs1, -⟩
  refine j_goto (tgt := 22) dX7_nerves_18 (by decide) ?_
  refine o_iret hF rfl dX7_nerves_22 ?_
  exact ⟨rfl, hs1⟩
/-! bits of those that agree, as a number -/
def agK (m : gMem) (x s k : Nat) : Nat → Nat
  | 0 => 0
  | b + 1 => if agB m x s k b then agK m x s k b + 2 ^ b else agK m x s k b
set_option maxRecDepth 20000 in
theorem orb10 : ∀ j, j < 10 → ∀ k, k < 2 ^ j → nI k ||| ((1 : Int32) <<< (nI j &&& 31)) = nI (k + 2 ^ j) := by decide +kernel
set_option maxRecDepth 20000 in
theorem pop_add : ∀ j, j < 10 → ∀ k, k < 2 ^ j → pop 10 (k + 2 ^ j) = pop 10 k + 1 := by decide +kernel
theorem agK_e (m : gMem) (x s k : Nat) : ∀ b, b ≤ 10 → agK m x s k b < 2 ^ b ∧ agBits m x s k b = nI (agK m x s k b) ∧ pop 10 (agK m x s k b) = agN m x s k b
  | 0, _ => ⟨by show 0 < 1; decide, rfl, pop_0 10⟩
  | b + 1, hb => by
    obtain ⟨h1, h2, h3⟩ := agK_e m x s k b (by omega)
    have hp : 2 ^ (b + 1) = 2 * 2 ^ b := by rw [Nat.pow_succ]; omega
    rw [agK, agBits, agN, h2]
    by_cases h : agB m x s k b
    · rw [if_pos h, if_pos h, if_pos h, orb10 b (by omega) _ h1, pop_add b (by omega) _ h1, h3]; exact ⟨by omega, rfl, rfl⟩
    · rw [if_neg h, if_neg h, if_neg h]; exact ⟨by omega, rfl, h3⟩
theorem agK_bit (m : gMem) (x s k : Nat) : ∀ B, B ≤ 10 → ∀ b, b < 10 → (agK m x s k B / 2 ^ b) % 2 = if b < B ∧ agB m x s k b then 1 else 0
  | 0, _, b, _ => by rw [if_neg (by omega), agK, Nat.zero_div]
  | B + 1, hB, b, hb => by
    have ih := agK_bit m x s k B (by omega) b hb
    have h1 := (agK_e m x s k B (by omega)).1
    rw [agK]
    by_cases h : agB m x s k B
    · rw [if_pos h]
      by_cases e : b = B
      · subst e
        rw [if_pos ⟨by omega, h⟩, Nat.add_div_right _ (Nat.pow_pos (by decide)), Nat.div_eq_of_lt h1]
      · by_cases hlt : b < B
        · have ep : 2 ^ B = (2 ^ (B - b - 1) * 2) * 2 ^ b := by
            rw [Nat.mul_assoc, ← Nat.pow_succ', ← Nat.pow_add]
            congr 1
            omega
          rw [ep, Nat.add_mul_div_right _ _ (Nat.pow_pos (by decide)), Nat.add_mul_mod_self_right, ih]
          by_cases h3 : b < B ∧ agB m x s k b
          · rw [if_pos h3, if_pos ⟨by omega, h3.2⟩]
          · rw [if_neg h3, if_neg (fun q => h3 ⟨hlt, q.2⟩)]
        · have hp2 : 2 ^ B * 2 ≤ 2 ^ b := by
            rw [← Nat.pow_succ]
            exact Nat.pow_le_pow_right (by decide) (by omega)
          rw [if_neg (fun q => absurd q.1 (by omega)), Nat.div_eq_of_lt (by omega)]
    · rw [if_neg h, ih]
      by_cases h3 : b < B ∧ agB m x s k b
      · rw [if_pos h3, if_pos ⟨by omega, h3.2⟩]
      · rw [if_neg h3, if_neg (fun q => ?_)]
        by_cases e : b = B
        · subst e; exact h q.2
        · exact h3 ⟨by omega, q.2⟩
theorem sm32 : ∀ b, b < 10 → ((nI b &&& 31).toBitVec.smod 32).toNat = b := by decide +kernel
theorem sar_10 {K b : Nat} (hK : K < 1024) (hb : b < 10) : (nI K >>> (nI b &&& 31)) &&& 1 = nI (K / 2 ^ b % 2) := by
  have hd : K / 2 ^ b ≤ K := Nat.div_le_self _ _
  rw [pk_shrN (by omega) _ b (sm32 b hb), b_and _ (by omega)]
theorem upAt_n (m : gMem) (x s k : Nat) (v : Int32) {n : Nat} (hn : n < 41) : ∀ b, upAt m x s k v (nI n) (b + 1) = if agB m x s k b then upAt m x s k v (nI n) b + sBit (uB m x k b n) v else upAt m x s k v (nI n) b := by
  intro b
  rw [upAt, bitL_hB _ _ hn]
theorem cM_ask (E : gEv) (σ : gSg) (m : gMem) (hi t s : Nat) (v k : Int32) (hR : gR σ t) (ho : okM m t) (hS : okSR m t s) : gCo E yX7_ask cX7_ask 10 (some .int) 6 [.ref t, .int v, .int k] σ m hi (fun v' m' => v' = some (.int (xAsk (mkR m t) 0 s v k)) ∧ rsc t m m') := by
  refine gCo.of mwX7_ask (Nat.le_of_ble_eq_true rfl) ?_
  intro F hF
  have h0 := hR.1
  obtain ⟨-, -, -, -, -, -, -, -, -, -, h10, -⟩ := id hR
  obtain ⟨c, hc, hc4⟩ := id ho.1
  unfold xAsk at hF
  rw [mkR_g24] at hF
  refine j_aload_n (q := 1) dX7_ask_0 rfl (by rfl) ?_
  refine j_iload_n (q := 2) dX7_ask_1 rfl (by rfl) ?_
  refine o_callVi (q := 5) dX7_ask_2 rfl lX7_160 mwX7_isGeyser mvX7_isGeyser cn7 (by assumption) (by rfl) rfl (Nat.le_of_ble_eq_true (by rfl)) (by first | decide | omega) (cM_isGeyser E σ m hi t c v hR hc hc4) ?_
  rcases ixV_or v hc (by omega) with ⟨hs, hv2⟩ | ⟨j, hj, ej, hs, hv2⟩
  · rw [← hc, hs]
    rw [hv2] at hF
    refine j_if_eq (q := 8) (tgt := 18) dX7_ask_5 rfl (by decide) (fun h5 => ?_) (fun h5 => ?_)
    · refine j_iconst (q := 19) (v := (-1)) dX7_ask_18 rfl (by decide) ?_
      refine o_iret hF rfl dX7_ask_19 ?_
      exact ⟨rfl, rsc.rf t m⟩
    · exact absurd rfl h5
  rw [← hc, hs]
  rw [hv2] at hF
  dsimp only at hF
  subst ej
  refine j_if_eq (q := 8) (tgt := 18) dX7_ask_5 rfl (by decide) (fun h5 => ?_) (fun h5 => ?_)
  · exact absurd h5 (by decide)
  refine j_iload_n (q := 9) dX7_ask_8 rfl (by rfl) ?_
  refine j_i2l (q := 10) dX7_ask_9 rfl ?_
  refine j_lconst (q := 11) (v := 0) dX7_ask_10 rfl (by decide) ?_
  refine j_lconst (q := 12) (v := 1) dX7_ask_11 rfl (by decide) ?_
  refine o_callSi (q := 15) dX7_ask_12 rfl lX7_55 mwX7_in msX7_in (by rfl) rfl (Nat.le_of_ble_eq_true (by rfl)) (by first | decide | omega) (cM_inI E σ m hi k 0 1 (by decide) (by decide)) ?_
  refine j_if_ne (q := 18) (tgt := 20) dX7_ask_15 rfl (by decide) (fun h15 => ?_) (fun h15 => ?_)
  · rw [if_pos (sWi_1 h15)] at hF
    have e8 : (8 : Int32) + nI j = nI (4 * 2 + j) := nI_add 8 j
    obtain ⟨hK1, hK2, hK3⟩ := agK_e (mkR m t) 0 s (4 * 2 + j) 10 (Nat.le_refl _)
    have hKb := agK_bit (mkR m t) 0 s (4 * 2 + j) 10 (Nat.le_refl _)
    have hun : ∀ b n, ∃ u, u < 16 ∧ uB (mkR m t) 0 (4 * 2 + j) b n = nI u := by
      intro b n
      rw [uB_mk]
      exact plU_n (plN_C (ho.1.up (by omega) _) n)
    have hrec : ∀ n, n < 41 → ∀ b, upAt (mkR m t) 0 s (4 * 2 + j) (nI j) (nI n) (b + 1) = if agB (mkR m t) 0 s (4 * 2 + j) b then upAt (mkR m t) 0 s (4 * 2 + j) (nI j) (nI n) b + sBit (uB (mkR m t) 0 (4 * 2 + j) b n) (nI j) else upAt (mkR m t) 0 s (4 * 2 + j) (nI j) (nI n) b := fun n hn b => upAt_n _ _ _ _ _ hn b
    have hag : ∀ b, agB (mkR m t) 0 s (4 * 2 + j) b ∨ ¬ agB (mkR m t) 0 s (4 * 2 + j) b := fun b => Decidable.em _
    have hwo : ∀ n, wors (mkR m t) 0 s (4 * 2 + j) (nI j) n = sMax (upAt (mkR m t) 0 s (4 * 2 + j) (nI j) (nI n) 10) (nI (agN (mkR m t) 0 s (4 * 2 + j) 10) - upAt (mkR m t) 0 s (4 * 2 + j) (nI j) (nI n) 10) := fun n => rfl
    generalize agK (mkR m t) 0 s (4 * 2 + j) 10 = K at *
    generalize agN (mkR m t) 0 s (4 * 2 + j) 10 = N at *
    generalize hwn : wors (mkR m t) 0 s (4 * 2 + j) (nI j) = W at *
    have hBo := fun mm => cM_bitsOf E σ mm hi K (by omega)
    rw [hK3] at hBo
    refine j_aload_n (q := 21) dX7_ask_20 rfl (by rfl) ?_
    refine j_bipush (q := 23) (v := 8) dX7_ask_21 rfl (by decide) ?_
    refine j_iload_n (q := 24) dX7_ask_23 rfl (by rfl) ?_
    refine j_iadd (q := 25) dX7_ask_24 rfl ?_
    rw [e8]
    refine j_bipush (q := 27) (v := 10) dX7_ask_25 rfl (by decide) ?_
    refine o_callVx (q := 30) dX7_ask_27 rfl lX7_260 mwX7_numbersAt mvX7_numbersAt cn7 (by assumption) (by rfl) rfl (Nat.le_of_ble_eq_true (by rfl)) (by first | decide | omega) (cM_numbersAt E σ m hi t s (4 * 2 + j) 10 hR ho hS (by omega) (by omega)) ?_
    rintro _ m1 ⟨rfl, hs1, hup⟩
    rw [hK2]
    have K48 : ∀ (w n : Nat) (o8 o9 : Option Value), n + w = 41 → (gJ E yX7_ask cX7_ask 10 (some .int) (gRm 6 0 0) F 48 ([some (.ref t), some (.int (nI j)), some (.int k), some (.int (nI K)), some (.int (nI N)), some (.int (askF W (nI N) n).2), some (.int (askF W (nI N) n).1), some (.int (nI n)), o8, o9]) ([]) 0 0 σ (m1) hi) := by
      intro w
      induction w with
      | zero =>
        intro n o8 o9 hn
        have h41 : n = 41 := by omega
        subst h41
        refine j_iload (q := 50) dX7_ask_48 rfl (by rfl) ?_
        refine j_bipush (q := 52) (v := 40) dX7_ask_50 rfl (by decide) ?_
        refine j_icmp_gt (q := 55) (tgt := 170) dX7_ask_52 rfl (by decide) (fun h52 => ?_) (fun h52 => ?_)
        · refine j_iload (q := 172) dX7_ask_170 rfl (by rfl) ?_
          refine j_bipush (q := 174) (v := (-4)) dX7_ask_172 rfl (by decide) ?_
          refine j_icmp_eq (q := 177) (tgt := 181) dX7_ask_174 rfl (by decide) (fun h174 => ?_) (fun h174 => ?_)
          · refine j_iload (q := 183) dX7_ask_181 rfl (by rfl) ?_
            refine j_goto (tgt := 188) dX7_ask_183 (by decide) ?_
            refine o_iret hF rfl dX7_ask_188 ?_
            rw [if_pos (Or.inl (by first | exact h174 | exact Decidable.not_not.mp h174))]
            exact ⟨rfl, hs1⟩
          · refine j_iload_n (q := 178) dX7_ask_177 rfl (by rfl) ?_
            refine j_if_ne (q := 181) (tgt := 186) dX7_ask_178 rfl (by decide) (fun h178 => ?_) (fun h178 => ?_)
            · refine j_iload (q := 188) dX7_ask_186 rfl (by rfl) ?_
              refine o_iret hF rfl dX7_ask_188 ?_
              rw [if_neg (fun q => q.elim h174 h178)]
              exact ⟨rfl, hs1⟩
            · refine j_iload (q := 183) dX7_ask_181 rfl (by rfl) ?_
              refine j_goto (tgt := 188) dX7_ask_183 (by decide) ?_
              refine o_iret hF rfl dX7_ask_188 ?_
              rw [if_pos (Or.inr (by first | exact h178 | exact Decidable.not_not.mp h178))]
              exact ⟨rfl, hs1⟩
        · exact absurd (show (40 : Int32) < nI 41 by decide) h52
      | succ w ih =>
        intro n o8 o9 hn
        have K130 : ∀ (wo z8 : Int32) (o9 : Option Value), wo = W n → (gJ E yX7_ask cX7_ask 10 (some .int) (gRm 6 0 0) F 130 ([some (.ref t), some (.int (nI j)), some (.int k), some (.int (nI K)), some (.int (nI N)), some (.int (askF W (nI N) n).2), some (.int (askF W (nI N) n).1), some (.int (nI n)), some (.int z8), o9]) ([.int wo]) 0 0 σ (m1) hi) := by
          intro wo z8 o9 hwo'
          subst hwo'
          have := ih (n + 1) (some (.int z8)) (some (.int (W n))) (by omega)
          refine j_istore (q := 132) dX7_ask_130 rfl (by decide) ?_
          refine j_iload (q := 134) dX7_ask_132 rfl (by rfl) ?_
          refine j_iload (q := 136) dX7_ask_134 rfl (by rfl) ?_
          refine j_icmp_ge (q := 139) (tgt := 144) dX7_ask_136 rfl (by decide) (fun h136 => ?_) (fun h136 => ?_)
          · rw [askF, if_neg (Int32.not_lt.mpr h136)] at this
            refine j_iload (q := 146) dX7_ask_144 rfl (by rfl) ?_
            refine j_istore (q := 148) dX7_ask_146 rfl (by decide) ?_
            refine j_iload (q := 150) dX7_ask_148 rfl (by rfl) ?_
            refine j_iload (q := 152) dX7_ask_150 rfl (by rfl) ?_
            refine j_icmp_ge (q := 155) (tgt := 160) dX7_ask_152 rfl (by decide) (fun h152 => ?_) (fun h152 => ?_)
            · refine j_iload (q := 162) dX7_ask_160 rfl (by rfl) ?_
              refine j_istore (q := 164) dX7_ask_162 rfl (by decide) ?_
              refine j_iinc (q := 167) dX7_ask_164 rfl (by rfl) (by first | exact nI_inc _ | rfl) (by decide) ?_
              refine j_goto (tgt := 48) dX7_ask_167 (by decide) ?_
              exact this
            · exact absurd h136 h152
          · rw [askF, if_pos (Int32.not_le.mp h136)] at this
            refine j_iload (q := 141) dX7_ask_139 rfl (by rfl) ?_
            refine j_goto (tgt := 146) dX7_ask_141 (by decide) ?_
            refine j_istore (q := 148) dX7_ask_146 rfl (by decide) ?_
            refine j_iload (q := 150) dX7_ask_148 rfl (by rfl) ?_
            refine j_iload (q := 152) dX7_ask_150 rfl (by rfl) ?_
            refine j_icmp_ge (q := 155) (tgt := 160) dX7_ask_152 rfl (by decide) (fun h152 => ?_) (fun h152 => ?_)
            · exact absurd h152 h136
            · refine j_iload (q := 157) dX7_ask_155 rfl (by rfl) ?_
              refine j_goto (tgt := 162) dX7_ask_157 (by decide) ?_
              refine j_istore (q := 164) dX7_ask_162 rfl (by decide) ?_
              refine j_iinc (q := 167) dX7_ask_164 rfl (by rfl) (by first | exact nI_inc _ | rfl) (by decide) ?_
              refine j_goto (tgt := 48) dX7_ask_167 (by decide) ?_
              exact this
        have K61 : ∀ (w2 b : Nat), b + w2 = 10 → (gJ E yX7_ask cX7_ask 10 (some .int) (gRm 6 0 0) F 61 ([some (.ref t), some (.int (nI j)), some (.int k), some (.int (nI K)), some (.int (nI N)), some (.int (askF W (nI N) n).2), some (.int (askF W (nI N) n).1), some (.int (nI n)), some (.int (upAt (mkR m t) 0 s (4 * 2 + j) (nI j) (nI n) b)), some (.int (nI b))]) ([]) 0 0 σ (m1) hi) := by
          intro w2
          induction w2 with
          | zero =>
            intro b hb
            have hb10 : b = 10 := by omega
            subst hb10
            have hwo2 := hwo n
            rw [hwo2] at K130
            unfold sMax at K130
            refine j_iload (q := 63) dX7_ask_61 rfl (by rfl) ?_
            refine j_bipush (q := 65) (v := 9) dX7_ask_63 rfl (by decide) ?_
            refine j_icmp_gt (q := 68) (tgt := 110) dX7_ask_65 rfl (by decide) (fun h65 => ?_) (fun h65 => ?_)
            · refine j_iload (q := 112) dX7_ask_110 rfl (by rfl) ?_
              refine j_iload (q := 114) dX7_ask_112 rfl (by rfl) ?_
              refine j_iload (q := 116) dX7_ask_114 rfl (by rfl) ?_
              refine j_isub (q := 117) dX7_ask_116 rfl ?_
              refine j_icmp_le (q := 120) (tgt := 125) dX7_ask_117 rfl (by decide) (fun h117 => ?_) (fun h117 => ?_)
              · refine j_iload (q := 127) dX7_ask_125 rfl (by rfl) ?_
                refine j_iload (q := 129) dX7_ask_127 rfl (by rfl) ?_
                refine j_isub (q := 130) dX7_ask_129 rfl ?_
                refine K130 _ _ _ ?_
                by_cases hlt : upAt (mkR m t) 0 s (4 * 2 + j) (nI j) (nI n) 10 < nI N - upAt (mkR m t) 0 s (4 * 2 + j) (nI j) (nI n) 10
                · rw [if_pos hlt]
                · rw [if_neg hlt]
                  exact Int32.le_antisymm (Int32.not_lt.mp hlt) h117
              · refine j_iload (q := 122) dX7_ask_120 rfl (by rfl) ?_
                refine j_goto (tgt := 130) dX7_ask_122 (by decide) ?_
                refine K130 _ _ _ ?_
                rw [if_neg (fun q => h117 (Int32.le_of_lt q))]
            · exact absurd (show (9 : Int32) < nI 10 by decide) h65
          | succ w2 ih2 =>
            intro b hb
            have ix : gIdx (41 * nI b + nI n) 410 (41 * b + n) := gIdx.of (by rw [show (41 : Int32) = nI 41 from rfl, pk_mul, nI_add]) (by omega) (by decide)
            have hkb := hKb b (by omega)
            have := ih2 (b + 1) (by omega)
            rw [hrec n (by omega) b] at this
            refine j_iload (q := 63) dX7_ask_61 rfl (by rfl) ?_
            refine j_bipush (q := 65) (v := 9) dX7_ask_63 rfl (by decide) ?_
            refine j_icmp_gt (q := 68) (tgt := 110) dX7_ask_65 rfl (by decide) (fun h65 => ?_) (fun h65 => ?_)
            · exact absurd h65 (nI_nlt (a := 9) (b := b) (by omega) (by omega))
            refine j_iload (q := 70) dX7_ask_68 rfl (by rfl) ?_
            refine j_iload_n (q := 71) dX7_ask_70 rfl (by rfl) ?_
            refine j_iload (q := 73) dX7_ask_71 rfl (by rfl) ?_
            refine j_ishr (q := 74) dX7_ask_73 rfl ?_
            refine j_iconst (q := 75) (v := 1) dX7_ask_74 rfl (by decide) ?_
            refine j_iand (q := 76) dX7_ask_75 rfl ?_
            rw [sar_10 (by omega) (by omega), hkb]
            refine j_iconst (q := 77) (v := 1) dX7_ask_76 rfl (by decide) ?_
            rcases hag b with hA | hA
            · rw [if_pos hA] at this
              rw [if_pos ⟨by omega, hA⟩]
              obtain ⟨u, hu16, hu⟩ := hun b n
              refine j_icmp_ne (q := 80) (tgt := 100) dX7_ask_77 rfl (by decide) (fun h77 => ?_) (fun h77 => ?_)
              · exact absurd rfl h77
              refine j_aload_n (q := 81) dX7_ask_80 rfl (by rfl) ?_
              refine j_getr (q := 84) dX7_ask_81 rfl fX7_37 (by first | with_reducible assumption | assumption) (by rfl) ?_
              refine j_bipush (q := 86) (v := 41) dX7_ask_84 rfl (by decide) ?_
              refine j_iload (q := 88) dX7_ask_86 rfl (by rfl) ?_
              refine j_imul (q := 89) dX7_ask_88 rfl ?_
              refine j_iload (q := 91) dX7_ask_89 rfl (by rfl) ?_
              refine j_iadd (q := 92) dX7_ask_91 rfl ?_
              refine j_iaload (q := 93) dX7_ask_92 rfl (by first | with_reducible assumption | assumption) (by first | with_reducible assumption | assumption) ?_
              rw [hup b (by omega) n (by omega), hu]
              refine j_iload_n (q := 94) dX7_ask_93 rfl (by rfl) ?_
              refine j_ishr (q := 95) dX7_ask_94 rfl ?_
              refine j_iconst (q := 96) (v := 1) dX7_ask_95 rfl (by decide) ?_
              refine j_iand (q := 97) dX7_ask_96 rfl ?_
              rw [sar_bit u hu16 j (by omega), ← hu]
              refine j_goto (tgt := 101) dX7_ask_97 (by decide) ?_
              refine j_iadd (q := 102) dX7_ask_101 rfl ?_
              refine j_istore (q := 104) dX7_ask_102 rfl (by decide) ?_
              refine j_iinc (q := 107) dX7_ask_104 rfl (by rfl) (by first | exact nI_inc _ | rfl) (by decide) ?_
              refine j_goto (tgt := 61) dX7_ask_107 (by decide) ?_
              exact this
            · rw [if_neg hA] at this
              rw [if_neg (fun q => hA q.2)]
              refine j_icmp_ne (q := 80) (tgt := 100) dX7_ask_77 rfl (by decide) (fun h77 => ?_) (fun h77 => ?_)
              · refine j_iconst (q := 101) (v := 0) dX7_ask_100 rfl (by decide) ?_
                refine j_iadd (q := 102) dX7_ask_101 rfl ?_
                rw [i_a0]
                refine j_istore (q := 104) dX7_ask_102 rfl (by decide) ?_
                refine j_iinc (q := 107) dX7_ask_104 rfl (by rfl) (by first | exact nI_inc _ | rfl) (by decide) ?_
                refine j_goto (tgt := 61) dX7_ask_107 (by decide) ?_
                exact this
              · exact absurd (show nI 0 = 1 by first | exact h77 | exact Decidable.not_not.mp h77) (by decide)
        refine j_iload (q := 50) dX7_ask_48 rfl (by rfl) ?_
        refine j_bipush (q := 52) (v := 40) dX7_ask_50 rfl (by decide) ?_
        refine j_icmp_gt (q := 55) (tgt := 170) dX7_ask_52 rfl (by decide) (fun h52 => ?_) (fun h52 => ?_)
        · exact absurd h52 (nI_nlt (a := 40) (b := n) (by omega) (by omega))
        refine j_iconst (q := 56) (v := 0) dX7_ask_55 rfl (by decide) ?_
        refine j_istore (q := 58) dX7_ask_56 rfl (by decide) ?_
        refine j_iconst (q := 59) (v := 0) dX7_ask_58 rfl (by decide) ?_
        refine j_istore (q := 61) dX7_ask_59 rfl (by decide) ?_
        exact K61 10 0 (by omega)
    refine j_istore_n (q := 31) dX7_ask_30 rfl (by decide) ?_
    refine j_iload_n (q := 32) dX7_ask_31 rfl (by rfl) ?_
    refine o_callSi (q := 35) dX7_ask_32 rfl lX7_199 mwX7_bitsOf msX7_bitsOf (by rfl) rfl (Nat.le_of_ble_eq_true (by rfl)) (by first | decide | omega) (hBo m1) ?_
    refine j_istore (q := 37) dX7_ask_35 rfl (by decide) ?_
    refine j_iload (q := 39) dX7_ask_37 rfl (by rfl) ?_
    refine j_istore (q := 41) dX7_ask_39 rfl (by decide) ?_
    refine j_bipush (q := 43) (v := (-4)) dX7_ask_41 rfl (by decide) ?_
    refine j_istore (q := 45) dX7_ask_43 rfl (by decide) ?_
    refine j_iconst (q := 46) (v := 0) dX7_ask_45 rfl (by decide) ?_
    refine j_istore (q := 48) dX7_ask_46 rfl (by decide) ?_
    exact K48 41 0 _ _ (by omega)
  · refine j_iconst (q := 19) (v := (-1)) dX7_ask_18 rfl (by decide) ?_
    refine o_iret hF rfl dX7_ask_19 ?_
    rw [if_neg (sWi_0 (by first | exact h15 | exact Decidable.not_not.mp h15))]
    exact ⟨rfl, rsc.rf t m⟩
