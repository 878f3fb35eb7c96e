/-! the reference: from when it went -/
def hbN (bt : Nat → Nat) : Nat → Nat
  | 0 => 0
  | k + 1 => hbN bt k + bt k * 2 ^ k
theorem hbN_lt {bt : Nat → Nat} (h : ∀ k, bt k < 2) : ∀ k, hbN bt k < 2 ^ k
  | 0 => by show 0 < 1; decide
  | k + 1 => by
    have ih := hbN_lt h k
    have hp : 2 ^ (k + 1) = 2 * 2 ^ k := by rw [Nat.pow_succ]; omega
    have hb := h k
    have hm : bt k * 2 ^ k ≤ 1 * 2 ^ k := Nat.mul_le_mul_right _ (by omega)
    rw [hbN]
    omega
theorem hbN_bit {bt : Nat → Nat} (h : ∀ k, bt k < 2) : ∀ K n, n < K → hbN bt K / 2 ^ n % 2 = bt n
  | 0, n, hn => absurd hn (by omega)
  | K + 1, n, hn => by
    rw [hbN]
    by_cases e : n = K
    · subst e
      rw [Nat.add_mul_div_right _ _ (Nat.pow_pos (by decide)), Nat.div_eq_of_lt (hbN_lt h n), Nat.zero_add, Nat.mod_eq_of_lt (h n)]
    · have ih := hbN_bit h K n (by omega)
      have ep : bt K * 2 ^ K = (bt K * 2 ^ (K - n - 1) * 2) * 2 ^ n := by
        rw [Nat.mul_assoc, Nat.mul_assoc, ← Nat.pow_succ', ← Nat.pow_add]
        congr 2
        omega
      rw [ep, Nat.add_mul_div_right _ _ (Nat.pow_pos (by decide)), Nat.add_mul_mod_self_right, ih]
theorem hB_N {U : Nat → Int32} {v : Int32} {bt : Nat → Nat} (h : ∀ k, bt k < 2) (hU : ∀ k, sBit (U k) v = nI (bt k)) : ∀ k, k ≤ 41 → hB U v k = lN (hbN bt k)
  | 0, _ => rfl
  | k + 1, hk => by
    have hb := h k
    have hl := hbN_lt h k
    have hp := Nat.pow_lt_pow_right (show 1 < 2 by decide) (show k < 63 by omega)
    have hm : bt k * 2 ^ k ≤ 1 * 2 ^ k := Nat.mul_le_mul_right _ (by omega)
    rw [hB, hB_N h hU k (by omega), hU k, nI_l (by omega), wb_shl _ (by omega), wb_or (by omega) (by omega), hbN, Nat.or_comm, Nat.mul_comm (bt k), ← Nat.two_pow_add_eq_or_of_lt hl, Nat.add_comm]
theorem sBit_2 (x z : Int32) : ∃ b, b < 2 ∧ sBit x z = nI b := by
  unfold sBit
  rw [pk_and (m := 1) _ 1 (by decide)]
  exact ⟨_, Nat.mod_lt _ (by decide), rfl⟩
theorem bitL_hB (U : Nat → Int32) (v : Int32) {n : Nat} (hn : n < 41) : bitL (hB U v 41) (nI n) = sBit (U n) v := by
  have hc : ∀ k, ∃ b, b < 2 ∧ sBit (U k) v = nI b := fun k => sBit_2 _ _
  have h1 : ∀ k, (hc k).choose < 2 := fun k => (hc k).choose_spec.1
  have h2 : ∀ k, sBit (U k) v = nI ((hc k).choose) := fun k => (hc k).choose_spec.2
  have hl := hbN_lt h1 41
  rw [hB_N h1 h2 41 (by omega), h2 n]
  unfold bitL
  rw [wb_bit (by omega) (by omega), lN_i, hbN_bit h1 41 n hn]
/-- what is seen and the page, as a memory of its own -/
def mkR (m : gMem) (t : Nat) : gMem := gP (fun q r => if q = 24 then m.1 (t + 9) (3 * r) else if q = 25 then m.1 (t + 9) (3 * r + 1) else if q = 26 then m.1 (t + 9) (3 * r + 2) else 0, fun _ _ => 0) 1 (pgR m t 0)
theorem mkR_pg (m : gMem) (t : Nat) : pgC (mkR m t) (0 + 1) = pgR m t 0 := pgC_gP (pgR_0 m t 0) _ _
theorem mkR_24 (m : gMem) (t : Nat) : (mkR m t).1 (0 + 24) = fun r => m.1 (t + 9) (3 * r) := by
  funext r
  unfold mkR
  rw [gP_none (gIxP_out (by omega))]
  rfl
theorem mkR_25 (m : gMem) (t : Nat) : (mkR m t).1 (0 + 25) = fun r => m.1 (t + 9) (3 * r + 1) := by
  funext r
  unfold mkR
  rw [gP_none (gIxP_out (by omega))]
  rfl
theorem mkR_26 (m : gMem) (t : Nat) : (mkR m t).1 (0 + 26) = fun r => m.1 (t + 9) (3 * r + 2) := by
  funext r
  unfold mkR
  rw [gP_none (gIxP_out (by omega))]
  rfl
def okSR (m : gMem) (t s : Nat) : Prop := m.1 t 23 = nI s ∧ s ≤ 6 ∧ ∀ i, i < s → (∃ h, h ≤ 40 ∧ m.1 (t + 9) (3 * i) = nI h) ∧ ∃ j, j < 4 ∧ m.1 (t + 9) (3 * i + 1) = nI j
/-- the row of place b, its first i hours told -/
def uW (m : gMem) (t b : Nat) (g : Nat → Int32) (i : Nat) : gMem := (fun q r => if q = t + 10 ∧ 41 * b ≤ r ∧ r < 41 * b + i then plU (plN g (r - 41 * b)) else m.1 q r, m.2)
theorem uW_n {m : gMem} {t b : Nat} {g : Nat → Int32} {i q r : Nat} (h : q ≠ t + 10 ∨ r < 41 * b ∨ 41 * b + i ≤ r) : (uW m t b g i).1 q r = m.1 q r := if_neg (by omega)
theorem uW_i {m : gMem} {t b : Nat} {g : Nat → Int32} {i r : Nat} (h : r < i) : (uW m t b g i).1 (t + 10) (41 * b + r) = plU (plN g r) := by
  show (if t + 10 = t + 10 ∧ 41 * b ≤ 41 * b + r ∧ 41 * b + r < 41 * b + i then plU (plN g (41 * b + r - 41 * b)) else m.1 (t + 10) (41 * b + r)) = _
  rw [if_pos (by omega), show 41 * b + r - 41 * b = r by omega]
theorem uW_0 (m : gMem) (t b : Nat) (g : Nat → Int32) : uW m t b g 0 = m := by
  apply gMem_ext
  · intro q r
    exact uW_n (by omega)
  · rfl
theorem uW_s (m : gMem) (t b : Nat) (g : Nat → Int32) (i : Nat) : gW (uW m t b g i) (t + 10) (41 * b + i) (plU (plN g i)) = uW m t b g (i + 1) := by
  apply gMem_ext
  · intro q r
    rw [gW_1]
    by_cases h : q = t + 10 ∧ r = 41 * b + i
    · rw [if_pos h, h.1, h.2, uW_i (by omega)]
    · rw [if_neg h]
      by_cases h2 : q = t + 10 ∧ 41 * b ≤ r ∧ r < 41 * b + i
      · obtain ⟨rfl, h3, h4⟩ := h2
        obtain ⟨k, rfl⟩ : ∃ k, r = 41 * b + k := ⟨r - 41 * b, by omega⟩
        rw [uW_i (by omega), uW_i (by omega)]
      · rw [uW_n (by omega), uW_n (by omega)]
  · rfl
theorem gQ_w {m : gMem} {t p q k : Nat} (h : q ≠ t + 1) (g : Nat → Int32) (v : Int32) : gW (gQ m t p g) q k v = gQ (gW m q k v) t p g := by
  apply gMem_ext
  · intro a r
    rw [gW_1]
    by_cases h1 : a = t + 1 ∧ p ≤ r ∧ r < p + 53
    · rw [if_neg (by omega)]
      obtain ⟨rfl, h2, h3⟩ := h1
      obtain ⟨i, rfl⟩ : ∃ i, r = p + i := ⟨r - p, by omega⟩
      rw [gQ_in (by omega), gQ_in (by omega)]
    · rw [gQ_out (by omega), gQ_out (by omega), gW_1]
  · rfl
theorem sar_any {k : Nat} (hk : k < 16) {z : Int32} (hz : ∃ j, j < 4 ∧ z = nI j) : (nI k >>> (z &&& 31)) &&& 1 = sBit (nI k) z := by
  obtain ⟨j, hj, rfl⟩ := hz
  exact sar_bit k hk j hj
theorem cM_isAsSeen (E : gEv) (σ : gSg) (m : gMem) (hi t s b : Nat) (g : Nat → Int32) (hG : pgR m t 0 = g) (hR : gR σ t) (hS : okSR m t s) (hc : okC g) (hb : okB g 9999) (hb10 : b < 10) : gCo E yX7_isAsSeen cX7_isAsSeen 6 (some .boolean) 4 [.ref t, .int (nI b)] σ m hi (gX (some (.int (if agS (fun r => m.1 (t + 9) (3 * r)) (fun r => m.1 (t + 9) (3 * r + 1)) (fun r => m.1 (t + 9) (3 * r + 2)) (fun n => plU (plN g n)) s then 1 else 0))) (gQ (uW m t b g 41) t 212 (plN g 41))) := by
  refine gCo.of mwX7_isAsSeen (Nat.le_of_ble_eq_true rfl) ?_
  intro F hF
  have h0 := hR.1
  obtain ⟨-, -, -, -, -, -, -, -, -, h9, h10, -⟩ := id hR
  obtain ⟨es, hs6, hh⟩ := hS
  have hg0 : pg0 g := by rw [← hG]; exact pgR_0 m t 0
  have hcp := cM_copies E σ m hi t 0 212 hR (by decide) (by decide) (by decide)
  rw [hG] at hcp
  have eS : ∀ (i r : Nat), (gQ (uW m t b g i) t 212 (plN g i)).1 (t + 9) r = m.1 (t + 9) r := fun i r => by rw [gQ_out (by omega), uW_n (by omega)]
  have eS' : ∀ (i r : Nat), (gQ (uW m t b g (i + 1)) t 212 (plN g (i + 1))).1 (t + 9) r = m.1 (t + 9) r := fun i r => eS (i + 1) r
  have eM : ∀ (i : Nat), (gQ (uW m t b g i) t 212 (plN g i)).1 t 23 = nI s := fun i => by rw [gQ_out (by omega), uW_n (by omega), es]
  have hfin : (∀ k, k < 41 → ∀ e, e < s → m.1 (t + 9) (3 * e) = nI k → sBit (plU (plN g k)) (m.1 (t + 9) (3 * e + 1)) = m.1 (t + 9) (3 * e + 2)) ↔ agS (fun r => m.1 (t + 9) (3 * r)) (fun r => m.1 (t + 9) (3 * r + 1)) (fun r => m.1 (t + 9) (3 * r + 2)) (fun n => plU (plN g n)) s := by
    constructor
    · intro q e he
      obtain ⟨⟨h, h40, eh⟩, -⟩ := hh e he
      show sBit (plU (plN g (m.1 (t + 9) (3 * e)).toNatClampNeg)) (m.1 (t + 9) (3 * e + 1)) = m.1 (t + 9) (3 * e + 2)
      rw [eh, nI_clamp (by omega)]
      exact q h (by omega) e he eh
    · intro q k hk e he ek
      have := q e he
      dsimp only at this
      rw [ek, nI_clamp (by omega)] at this
      exact this
  have K12 : ∀ (w i : Nat) (is : Int32) (o4 o5 : Option Value), i + w = 41 → is = (if ∀ k, k < i → ∀ e, e < s → m.1 (t + 9) (3 * e) = nI k → sBit (plU (plN g k)) (m.1 (t + 9) (3 * e + 1)) = m.1 (t + 9) (3 * e + 2) then 1 else 0) → (gJ E yX7_isAsSeen cX7_isAsSeen 6 (some .boolean) (gRm 4 0 0) F 12 ([some (.ref t), some (.int (nI b)), some (.int is), some (.int (nI i)), o4, o5]) ([]) 0 0 σ (gQ (uW m t b g i) t 212 (plN g i)) hi) := by
    intro w
    induction w with
    | zero =>
      intro i is o4 o5 hi' his
      have h41 : i = 41 := by omega
      subst h41
      have hz : is = 0 ∨ is = 1 := by
        rw [his]
        split
        · exact Or.inr rfl
        · exact Or.inl rfl
      refine j_iload_n (q := 13) dX7_isAsSeen_12 rfl (by rfl) ?_
      refine j_bipush (q := 15) (v := 40) dX7_isAsSeen_13 rfl (by decide) ?_
      refine j_icmp_gt (q := 18) (tgt := 117) dX7_isAsSeen_15 rfl (by decide) (fun h15 => ?_) (fun h15 => ?_)
      · refine j_iload_n (q := 118) dX7_isAsSeen_117 rfl (by rfl) ?_
        refine o_zret hF rfl dX7_isAsSeen_118 (by first | assumption | exact Or.inl rfl | exact Or.inr rfl) ?_
        refine ⟨?_, rfl⟩
        rw [his]
        by_cases hag : agS (fun r => m.1 (t + 9) (3 * r)) (fun r => m.1 (t + 9) (3 * r + 1)) (fun r => m.1 (t + 9) (3 * r + 2)) (fun n => plU (plN g n)) s
        · rw [if_pos hag, if_pos (hfin.mpr hag)]
        · rw [if_neg hag, if_neg (fun q => hag (hfin.mp q))]
      · exact absurd (show (40 : Int32) < nI 41 by decide) h15
    | succ w ih =>
      intro i is o4 o5 hi' his
      have ix : gIdx (41 * nI b + nI i) 410 (41 * b + i) := gIdx.of (by rw [show (41 : Int32) = nI 41 from rfl, pk_mul, nI_add]) (by omega) (by decide)
      have hPl := cM_plan E σ (uW m t b g i) hi t 212 i 9999 g hR (by decide) hg0 hc hb (by omega)
      obtain ⟨u, hu16, hu⟩ := plU_n (plN_C hc i)
      have K43 : ∀ (w2 e : Nat) (is : Int32), e + w2 = s → is = (if (∀ k, k < i → ∀ e, e < s → m.1 (t + 9) (3 * e) = nI k → sBit (plU (plN g k)) (m.1 (t + 9) (3 * e + 1)) = m.1 (t + 9) (3 * e + 2)) ∧ ∀ e', e' < e → m.1 (t + 9) (3 * e') = nI i → sBit (plU (plN g i)) (m.1 (t + 9) (3 * e' + 1)) = m.1 (t + 9) (3 * e' + 2) then 1 else 0) → (gJ E yX7_isAsSeen cX7_isAsSeen 6 (some .boolean) (gRm 4 0 0) F 43 ([some (.ref t), some (.int (nI b)), some (.int is), some (.int (nI i)), some (.int (plU (plN g i))), some (.int (nI e))]) ([]) 0 0 σ (gQ (uW m t b g (i + 1)) t 212 (plN g (i + 1))) hi) := by
        intro w2
        induction w2 with
        | zero =>
          intro e is he his
          have hes : e = s := by omega
          subst hes
          refine j_iload (q := 45) dX7_isAsSeen_43 rfl (by rfl) ?_
          refine j_aload_n (q := 46) dX7_isAsSeen_45 rfl (by rfl) ?_
          refine j_geti (q := 49) dX7_isAsSeen_46 rfl fX7_126 (by first | with_reducible assumption | assumption) (by rfl) ?_
          rw [eM]
          refine j_icmp_ge (q := 52) (tgt := 111) dX7_isAsSeen_49 rfl (by decide) (fun h49 => ?_) (fun h49 => ?_)
          · refine j_iinc (q := 114) dX7_isAsSeen_111 rfl (by rfl) (by first | exact nI_inc _ | rfl) (by decide) ?_
            refine j_goto (tgt := 12) dX7_isAsSeen_114 (by decide) ?_
            refine ih (i + 1) is _ _ (by omega) ?_
            rw [his]
            have hiff : ((∀ k, k < i → ∀ e', e' < e → m.1 (t + 9) (3 * e') = nI k → sBit (plU (plN g k)) (m.1 (t + 9) (3 * e' + 1)) = m.1 (t + 9) (3 * e' + 2)) ∧ ∀ e', e' < e → m.1 (t + 9) (3 * e') = nI i → sBit (plU (plN g i)) (m.1 (t + 9) (3 * e' + 1)) = m.1 (t + 9) (3 * e' + 2)) ↔ ∀ k, k < i + 1 → ∀ e', e' < e → m.1 (t + 9) (3 * e') = nI k → sBit (plU (plN g k)) (m.1 (t + 9) (3 * e' + 1)) = m.1 (t + 9) (3 * e' + 2) := by
              constructor
              · rintro ⟨q1, q2⟩ k hk
                by_cases hki : k = i
                · subst hki; exact q2
                · exact q1 k (by omega)
              · intro q
                exact ⟨fun k hk => q k (by omega), q i (by omega)⟩
            by_cases hA : (∀ k, k < i → ∀ e', e' < e → m.1 (t + 9) (3 * e') = nI k → sBit (plU (plN g k)) (m.1 (t + 9) (3 * e' + 1)) = m.1 (t + 9) (3 * e' + 2)) ∧ ∀ e', e' < e → m.1 (t + 9) (3 * e') = nI i → sBit (plU (plN g i)) (m.1 (t + 9) (3 * e' + 1)) = m.1 (t + 9) (3 * e' + 2)
            · rw [if_pos hA, if_pos (hiff.mp hA)]
            · rw [if_neg hA, if_neg (fun q => hA (hiff.mpr q))]
          · exact absurd (Int32.le_refl _) h49
        | succ w2 ih2 =>
          intro e is he his
          have a0 : gIdx (3 * nI e) 18 (3 * e) := gIdx.of (pk_mul 3 e) (by omega) (by decide)
          have a1 : gIdx (3 * nI e + 1) 18 (3 * e + 1) := gIdx.of (by rw [show (3 : Int32) * nI e = nI (3 * e) from pk_mul 3 e]; exact nI_add (3 * e) 1) (by omega) (by decide)
          have a2 : gIdx (3 * nI e + 2) 18 (3 * e + 2) := gIdx.of (by rw [show (3 : Int32) * nI e = nI (3 * e) from pk_mul 3 e]; exact nI_add (3 * e) 2) (by omega) (by decide)
          have hnext : ∀ s', s' = (if (∀ k, k < i → ∀ e, e < s → m.1 (t + 9) (3 * e) = nI k → sBit (plU (plN g k)) (m.1 (t + 9) (3 * e + 1)) = m.1 (t + 9) (3 * e + 2)) ∧ ∀ e', e' < e + 1 → m.1 (t + 9) (3 * e') = nI i → sBit (plU (plN g i)) (m.1 (t + 9) (3 * e' + 1)) = m.1 (t + 9) (3 * e' + 2) then (1 : Int32) else 0) → (gJ E yX7_isAsSeen cX7_isAsSeen 6 (some .boolean) (gRm 4 0 0) F 104 ([some (.ref t), some (.int (nI b)), some (.int is), some (.int (nI i)), some (.int (plU (plN g i))), some (.int (nI e))]) ([.int s']) 0 0 σ (gQ (uW m t b g (i + 1)) t 212 (plN g (i + 1))) hi) := by
            intro s' hs'
            refine j_istore_n (q := 105) dX7_isAsSeen_104 rfl (by decide) ?_
            refine j_iinc (q := 108) dX7_isAsSeen_105 rfl (by rfl) (by first | exact nI_inc _ | rfl) (by decide) ?_
            refine j_goto (tgt := 43) dX7_isAsSeen_108 (by decide) ?_
            exact ih2 (e + 1) s' (by omega) hs'
          refine j_iload (q := 45) dX7_isAsSeen_43 rfl (by rfl) ?_
          refine j_aload_n (q := 46) dX7_isAsSeen_45 rfl (by rfl) ?_
          refine j_geti (q := 49) dX7_isAsSeen_46 rfl fX7_126 (by first | with_reducible assumption | assumption) (by rfl) ?_
          rw [eM]
          refine j_icmp_ge (q := 52) (tgt := 111) dX7_isAsSeen_49 rfl (by decide) (fun h49 => ?_) (fun h49 => ?_)
          · exact absurd h49 (nI_ge (by omega) (by omega))
          refine j_iload_n (q := 53) dX7_isAsSeen_52 rfl (by rfl) ?_
          by_cases hP : (∀ k, k < i → ∀ e, e < s → m.1 (t + 9) (3 * e) = nI k → sBit (plU (plN g k)) (m.1 (t + 9) (3 * e + 1)) = m.1 (t + 9) (3 * e + 2)) ∧ ∀ e', e' < e → m.1 (t + 9) (3 * e') = nI i → sBit (plU (plN g i)) (m.1 (t + 9) (3 * e' + 1)) = m.1 (t + 9) (3 * e' + 2)
          · rw [if_pos hP] at his
            subst his
            refine j_if_eq (q := 56) (tgt := 103) dX7_isAsSeen_53 rfl (by decide) (fun h53 => ?_) (fun h53 => ?_)
            · exact absurd h53 (by decide)
            refine j_aload_n (q := 57) dX7_isAsSeen_56 rfl (by rfl) ?_
            refine j_getr (q := 60) dX7_isAsSeen_57 rfl fX7_34 (by first | with_reducible assumption | assumption) (by rfl) ?_
            refine j_iconst (q := 61) (v := 3) dX7_isAsSeen_60 rfl (by decide) ?_
            refine j_iload (q := 63) dX7_isAsSeen_61 rfl (by rfl) ?_
            refine j_imul (q := 64) dX7_isAsSeen_63 rfl ?_
            refine j_iaload (q := 65) dX7_isAsSeen_64 rfl (by first | with_reducible assumption | assumption) (by first | with_reducible assumption | assumption) ?_
            rw [eS']
            refine j_iload_n (q := 66) dX7_isAsSeen_65 rfl (by rfl) ?_
            refine j_icmp_ne (q := 69) (tgt := 99) dX7_isAsSeen_66 rfl (by decide) (fun h66 => ?_) (fun h66 => ?_)
            · refine j_iconst (q := 100) (v := 1) dX7_isAsSeen_99 rfl (by decide) ?_
              refine j_goto (tgt := 104) dX7_isAsSeen_100 (by decide) ?_
              refine hnext 1 ?_
              rw [if_pos]
              refine ⟨hP.1, fun e' he' q => ?_⟩
              by_cases hee : e' = e
              · subst hee; exact absurd q h66
              · exact hP.2 e' (by omega) q
            have h66' : m.1 (t + 9) (3 * e) = nI i := by first | exact h66 | exact Decidable.not_not.mp h66
            refine j_iload (q := 71) dX7_isAsSeen_69 rfl (by rfl) ?_
            refine j_aload_n (q := 72) dX7_isAsSeen_71 rfl (by rfl) ?_
            refine j_getr (q := 75) dX7_isAsSeen_72 rfl fX7_34 (by first | with_reducible assumption | assumption) (by rfl) ?_
            refine j_iconst (q := 76) (v := 3) dX7_isAsSeen_75 rfl (by decide) ?_
            refine j_iload (q := 78) dX7_isAsSeen_76 rfl (by rfl) ?_
            refine j_imul (q := 79) dX7_isAsSeen_78 rfl ?_
            refine j_iconst (q := 80) (v := 1) dX7_isAsSeen_79 rfl (by decide) ?_
            refine j_iadd (q := 81) dX7_isAsSeen_80 rfl ?_
            refine j_iaload (q := 82) dX7_isAsSeen_81 rfl (by first | with_reducible assumption | assumption) (by first | with_reducible assumption | assumption) ?_
            rw [eS']
            refine j_ishr (q := 83) dX7_isAsSeen_82 rfl ?_
            refine j_iconst (q := 84) (v := 1) dX7_isAsSeen_83 rfl (by decide) ?_
            refine j_iand (q := 85) dX7_isAsSeen_84 rfl ?_
            have eb : (plU (plN g i) >>> (m.1 (t + 9) (3 * e + 1) &&& 31)) &&& 1 = sBit (plU (plN g i)) (m.1 (t + 9) (3 * e + 1)) := by rw [hu]; exact sar_any hu16 (hh e (by omega)).2
            rw [eb]
            refine j_aload_n (q := 86) dX7_isAsSeen_85 rfl (by rfl) ?_
            refine j_getr (q := 89) dX7_isAsSeen_86 rfl fX7_34 (by first | with_reducible assumption | assumption) (by rfl) ?_
            refine j_iconst (q := 90) (v := 3) dX7_isAsSeen_89 rfl (by decide) ?_
            refine j_iload (q := 92) dX7_isAsSeen_90 rfl (by rfl) ?_
            refine j_imul (q := 93) dX7_isAsSeen_92 rfl ?_
            refine j_iconst (q := 94) (v := 2) dX7_isAsSeen_93 rfl (by decide) ?_
            refine j_iadd (q := 95) dX7_isAsSeen_94 rfl ?_
            refine j_iaload (q := 96) dX7_isAsSeen_95 rfl (by first | with_reducible assumption | assumption) (by first | with_reducible assumption | assumption) ?_
            rw [eS']
            refine j_icmp_ne (q := 99) (tgt := 103) dX7_isAsSeen_96 rfl (by decide) (fun h96 => ?_) (fun h96 => ?_)
            · refine j_iconst (q := 104) (v := 0) dX7_isAsSeen_103 rfl (by decide) ?_
              exact hnext 0 (by rw [if_neg (fun q => h96 (q.2 e (by omega) h66'))])
            · refine j_iconst (q := 100) (v := 1) dX7_isAsSeen_99 rfl (by decide) ?_
              refine j_goto (tgt := 104) dX7_isAsSeen_100 (by decide) ?_
              refine hnext 1 ?_
              rw [if_pos]
              refine ⟨hP.1, fun e' he' q => ?_⟩
              by_cases hee : e' = e
              · subst hee; first | exact h96 | exact Decidable.not_not.mp h96
              · exact hP.2 e' (by omega) q
          · rw [if_neg hP] at his
            subst his
            refine j_if_eq (q := 56) (tgt := 103) dX7_isAsSeen_53 rfl (by decide) (fun h53 => ?_) (fun h53 => ?_)
            · refine j_iconst (q := 104) (v := 0) dX7_isAsSeen_103 rfl (by decide) ?_
              refine hnext 0 ?_
              rw [if_neg]
              exact fun q => hP ⟨q.1, fun e' he' => q.2 e' (by omega)⟩
            · exact absurd rfl h53
      refine j_iload_n (q := 13) dX7_isAsSeen_12 rfl (by rfl) ?_
      refine j_bipush (q := 15) (v := 40) dX7_isAsSeen_13 rfl (by decide) ?_
      refine j_icmp_gt (q := 18) (tgt := 117) dX7_isAsSeen_15 rfl (by decide) (fun h15 => ?_) (fun h15 => ?_)
      · exact absurd h15 (nI_nlt (a := 40) (b := i) (by omega) (by omega))
      refine j_aload_n (q := 19) dX7_isAsSeen_18 rfl (by rfl) ?_
      refine j_sipush (q := 22) (v := 212) dX7_isAsSeen_19 rfl (by decide) ?_
      refine o_callVi (q := 25) dX7_isAsSeen_22 rfl lX7_196 mwX7_planOn mvX7_planOn cn7 (by assumption) (by rfl) rfl (Nat.le_of_ble_eq_true (by rfl)) (by first | decide | omega) (hPl) ?_
      refine j_istore (q := 27) dX7_isAsSeen_25 rfl (by decide) ?_
      refine j_aload_n (q := 28) dX7_isAsSeen_27 rfl (by rfl) ?_
      refine j_getr (q := 31) dX7_isAsSeen_28 rfl fX7_37 (by first | with_reducible assumption | assumption) (by rfl) ?_
      refine j_bipush (q := 33) (v := 41) dX7_isAsSeen_31 rfl (by decide) ?_
      refine j_iload_n (q := 34) dX7_isAsSeen_33 rfl (by rfl) ?_
      refine j_imul (q := 35) dX7_isAsSeen_34 rfl ?_
      refine j_iload_n (q := 36) dX7_isAsSeen_35 rfl (by rfl) ?_
      refine j_iadd (q := 37) dX7_isAsSeen_36 rfl ?_
      refine j_iload (q := 39) dX7_isAsSeen_37 rfl (by rfl) ?_
      refine j_iastore (q := 40) dX7_isAsSeen_39 rfl (by first | with_reducible assumption | assumption) (by first | with_reducible assumption | assumption) ?_
      rw [gQ_w (by omega), uW_s]
      refine j_iconst (q := 41) (v := 0) dX7_isAsSeen_40 rfl (by decide) ?_
      refine j_istore (q := 43) dX7_isAsSeen_41 rfl (by decide) ?_
      refine K43 s 0 is (by omega) ?_
      rw [his]
      by_cases hA : ∀ k, k < i → ∀ e, e < s → m.1 (t + 9) (3 * e) = nI k → sBit (plU (plN g k)) (m.1 (t + 9) (3 * e + 1)) = m.1 (t + 9) (3 * e + 2)
      · rw [if_pos hA, if_pos ⟨hA, fun e' he' => absurd he' (by omega)⟩]
      · rw [if_neg hA, if_neg (fun q => hA q.1)]
  refine j_aload_n (q := 1) dX7_isAsSeen_0 rfl (by rfl) ?_
  refine j_iconst (q := 2) (v := 0) dX7_isAsSeen_1 rfl (by decide) ?_
  refine j_sipush (q := 5) (v := 212) dX7_isAsSeen_2 rfl (by decide) ?_
  refine o_callVv (q := 8) dX7_isAsSeen_5 rfl lX7_205 mwX7_copies mvX7_copies cn7 (by assumption) (by rfl) rfl (Nat.le_of_ble_eq_true (by rfl)) (by first | decide | omega) (hcp) ?_
  refine j_iconst (q := 9) (v := 1) dX7_isAsSeen_8 rfl (by decide) ?_
  refine j_istore_n (q := 10) dX7_isAsSeen_9 rfl (by decide) ?_
  refine j_iconst (q := 11) (v := 0) dX7_isAsSeen_10 rfl (by decide) ?_
  refine j_istore_n (q := 12) dX7_isAsSeen_11 rfl (by decide) ?_
  refine gJ.mm ?_ (K12 41 0 1 _ _ (by omega) ?_)
  · rw [uW_0]
    rfl
  · rw [if_pos (fun k hk => absurd hk (by omega))]
