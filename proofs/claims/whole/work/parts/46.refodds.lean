/-! the reference: hours without anybody -/
theorem powL_N {b : Nat} (hb : b < 2 ^ 31) : ∀ k, powL (nI b) k = lN (b ^ k)
  | 0 => rfl
  | k + 1 => by rw [powL, powL_N hb k, nI_l hb, lN_mul, Nat.pow_succ]
def wgN (e n v : Nat) : Nat := v ^ wc e * (10 - v) ^ (n - wc e)
theorem wgt_N {e n v : Nat} (hv : v ≤ 10) : wgt e n (nI v) = lN (wgN e n v) := by
  unfold wgt wgN
  rw [show (10 : Int32) - nI v = nI (10 - v) from pk_sub hv, powL_N (by omega), powL_N (by omega), lN_mul]
def bcn (e : Nat) : Nat → Nat
  | 0 => 0
  | i + 1 => bcn e i + e / 2 ^ i % 2
theorem bcn_le (e : Nat) : ∀ i, bcn e i ≤ i
  | 0 => Nat.le_refl 0
  | i + 1 => by
    have := bcn_le e i
    rw [bcn]
    omega
set_option maxRecDepth 20000 in
theorem bcn_wc : ∀ n, n < 9 → ∀ e, e < 2 ^ n → bcn e n = wc e := by decide +kernel
def odN (e v : Nat) : Nat → Nat
  | 0 => 1
  | i + 1 => odN e v i * (if e / 2 ^ i % 2 = 1 then v else 10 - v)
theorem odN_e (e v : Nat) : ∀ i, odN e v i = v ^ bcn e i * (10 - v) ^ (i - bcn e i)
  | 0 => rfl
  | i + 1 => by
    have h := bcn_le e i
    rw [odN, odN_e e v i, bcn]
    by_cases hb : e / 2 ^ i % 2 = 1
    · rw [if_pos hb, hb, Nat.pow_succ, show i + 1 - (bcn e i + 1) = i - bcn e i by omega, Nat.mul_assoc, Nat.mul_assoc, Nat.mul_comm v]
    · have h0 : e / 2 ^ i % 2 = 0 := by omega
      rw [if_neg hb, h0, Nat.add_zero, show i + 1 - bcn e i = (i - bcn e i) + 1 by omega, Nat.pow_succ, Nat.mul_assoc]
theorem odN_w {e v n : Nat} (hn : n < 9) (he : e < 2 ^ n) : odN e v n = wgN e n v := by
  rw [odN_e, bcn_wc n hn e he]
  rfl
theorem odN_le {e v : Nat} (hv : v ≤ 10) : ∀ i, odN e v i ≤ 10 ^ i
  | 0 => Nat.le_refl 1
  | i + 1 => by
    rw [odN, Nat.pow_succ]
    refine Nat.mul_le_mul (odN_le hv i) ?_
    by_cases hb : e / 2 ^ i % 2 = 1
    · rw [if_pos hb]; exact hv
    · rw [if_neg hb]; omega
theorem wgN_le {e v n : Nat} (hn : n < 9) (he : e < 2 ^ n) (hv : v ≤ 10) : wgN e n v ≤ 100000000 := by
  rw [← odN_w hn he]
  exact Nat.le_trans (odN_le hv n) (Nat.pow_le_pow_right (by decide) (show n ≤ 8 by omega))
set_option maxRecDepth 20000 in
theorem sar_bit8 : ∀ k, k < 256 → ∀ j, j < 8 → (nI k >>> (nI j &&& 31)) &&& 1 = nI (k / 2 ^ j % 2) := by decide +kernel
set_option maxRecDepth 20000 in
theorem sBit_8 : ∀ k, k < 256 → ∀ j, j < 8 → sBit (nI k) (nI j) = nI (k / 2 ^ j % 2) := by decide +kernel
theorem and15 : ∀ k, k < 16 → nI k &&& 15 = nI k := by decide +kernel
theorem andj : ∀ k, k < 16 → ∀ j, j < 4 → sBc (nI k &&& (1 <<< (nI j &&& 31))) = sBit (nI k) (nI j) := by decide +kernel
theorem odP_cnt (g : Nat → Int32) (e : Nat) : ∀ i, cnt (odP g e i) = cnt g
  | 0 => rfl
  | i + 1 => by rw [odP, hr_cnt, odP_cnt g e i]
theorem od_went {g : Nat → Int32} (hc : okC g) (e : Nat) {j : Nat} (hj : j < cnt g) : ∀ i, odP g e i (20 + j) = g (20 + j) + odU g e (1 <<< (nI j &&& 31)) i
  | 0 => by
    show g (20 + j) = g (20 + j) + 0
    rw [i_a0]
  | i + 1 => by
    have h4 := cnt_le hc
    obtain ⟨k, hk, ek⟩ := hrU_n (odP_C hc e i) (if sBit (nI e) (nI i) = 1 then 0 else sWat (odP g e i)) (sWho (odP g e i))
    rw [odP, odU, hr_went (odP_C hc e i) _ _ (by rw [odP_cnt]; exact hj), od_went hc e hj i, ek, andj k hk j (by omega), Int32.add_assoc]
theorem odU_n {g : Nat → Int32} (hc : okC g) (e : Nat) : ∀ i, ∃ k, k ≤ 4 * i ∧ odU g e 15 i = nI k
  | 0 => ⟨0, by omega, rfl⟩
  | i + 1 => by
    obtain ⟨k, h1, h2⟩ := odU_n hc e i
    obtain ⟨u, hu, eu⟩ := hrU_n (odP_C hc e i) (if sBit (nI e) (nI i) = 1 then 0 else sWat (odP g e i)) (sWho (odP g e i))
    rw [odU, h2, eu, and15 u hu, sBc_n u hu, nI_add]
    exact ⟨_, by omega, rfl⟩
/-! the greatest common measure -/
theorem lowF_N : ∀ (j f c r : Nat), r < 2 ^ j → 2 * j + 1 ≤ f → c < 2 ^ 63 → r < 2 ^ 63 → lowF f (lN c) (lN r) = (lN (Nat.gcd c r), 0) := by
  intro j
  induction j with
  | zero =>
    intro f c r hr hf hc hr2
    have h0 : r = 0 := by omega
    subst h0
    match f, hf with
    | f + 1, _ =>
      rw [lowF, if_pos (by rfl), Nat.gcd_zero_right]
      rfl
  | succ j ih =>
    intro f c r hr hf hc hr2
    match f, hf with
    | f + 2, hf =>
      by_cases h0 : r = 0
      · subst h0
        rw [lowF, if_pos (by rfl), Nat.gcd_zero_right]
        rfl
      have hr0 : ¬ lN r = 0 := fun q => h0 ((pk_lEQ (b := 0) hr2 (by decide)).mp q)
      rw [lowF, if_neg hr0, pk_lRem hc (by omega) hr2]
      have hml := Nat.mod_lt c (show 0 < r by omega)
      have hg : Nat.gcd c r = Nat.gcd r (c % r) := by rw [Nat.gcd_comm c r, Nat.gcd_rec, Nat.gcd_comm]
      by_cases h1 : c % r = 0
      · rw [h1] at hg ⊢
        rw [Nat.gcd_zero_right] at hg
        rw [lowF, if_pos (by rfl), hg]
        rfl
      have hs0 : ¬ lN (c % r) = 0 := fun q => h1 ((pk_lEQ (b := 0) (by omega) (by decide)).mp q)
      have hm2 := Nat.mod_lt r (show 0 < c % r by omega)
      have hm3 : r % (c % r) ≤ r - c % r := by
        have e1 : r % (c % r) = (r - c % r) % (c % r) := by rw [← Nat.mod_eq_sub_mod (by omega)]
        rw [e1]
        exact Nat.mod_le _ _
      have hp : 2 ^ (j + 1) = 2 * 2 ^ j := by rw [Nat.pow_succ]; omega
      rw [lowF, if_neg hs0, pk_lRem hr2 (by omega) (by omega), ih f (c % r) (r % (c % r)) (by omega) (by omega) (by omega) (by omega)]
      rw [hg, Nat.gcd_comm r (c % r), Nat.gcd_rec (c % r) r, Nat.gcd_comm (r % (c % r)) (c % r)]
theorem xLow_N {up down : Nat} (hu : up < 2 ^ 40) (hd : 0 < down) (hd2 : down < 2 ^ 40) (k : Int32) : xLow (lN up) (lN down) k = (if k = 0 then lN up else lN down) / lN (Nat.gcd up down) := by
  have hg : 0 < Nat.gcd down up := Nat.gcd_pos_of_pos_left _ hd
  have hg2 : Nat.gcd down up ≤ down := Nat.gcd_le_left _ hd
  unfold xLow
  rw [lowF_N 40 100 down up hu (by omega) (by omega) (by omega)]
  dsimp only
  rw [if_pos (show (0 : Int64) < lN (Nat.gcd down up) from (pk_lLT (a := 0) (by decide) (by omega)).mpr hg), Nat.gcd_comm up down]
  by_cases hk : k = 0
  · rw [if_pos hk, if_pos hk]
  · rw [if_neg hk, if_neg hk]
theorem cM_lowest (E : gEv) (σ : gSg) (m : gMem) (hi : Nat) (up down : Nat) (k : Int32) (hu : up < 2 ^ 40) (hd : 0 < down) (hd2 : down < 2 ^ 40) : gCo E yX7_lowest cX7_lowest 11 (some .long) 0 [.long (lN up), .long (lN down), .int k] σ m hi (gX (some (.long (xLow (lN up) (lN down) k))) m) := by
  refine gCo.of mwX7_lowest (Nat.le_of_ble_eq_true rfl) ?_
  intro F hF
  rw [xLow_N hu hd hd2] at hF
  have hgp : 0 < Nat.gcd up down := Nat.gcd_pos_of_pos_right _ hd
  have hgl : Nat.gcd up down ≤ down := Nat.gcd_le_right _ hd
  have hz : ¬ lN (Nat.gcd up down) = 0 := fun q => absurd ((pk_lEQ (b := 0) (by omega) (by decide)).mp q) (by omega)
  have K6 : ∀ (w a b : Nat) (o9 : Option Value), b ≤ w → a < 2 ^ 63 → b < 2 ^ 63 → Nat.gcd a b = Nat.gcd up down → (gJ E yX7_lowest cX7_lowest 11 (some .long) (gRm 0 0 0) F 6 ([some (.long (lN up)), none, some (.long (lN down)), none, some (.int k), some (.long (lN a)), none, some (.long (lN b)), none, o9, none]) ([]) 0 0 σ (m) hi) := by
    intro w
    induction w with
    | zero =>
      intro a b o9 hb ha hb2 he
      have hb0 : b = 0 := by omega
      subst hb0
      rw [Nat.gcd_zero_right] at he
      subst he
      refine j_lload (q := 8) dX7_lowest_6 rfl (by rfl) ?_
      refine j_lconst (q := 9) (v := 0) dX7_lowest_8 rfl (by decide) ?_
      refine j_lcmp (q := 10) dX7_lowest_9 rfl ?_
      refine j_if_eq (q := 13) (tgt := 31) dX7_lowest_10 rfl (by decide) (fun h10 => ?_) (fun h10 => ?_)
      · refine j_iload (q := 33) dX7_lowest_31 rfl (by rfl) ?_
        refine j_if_ne (q := 36) (tgt := 40) dX7_lowest_33 rfl (by decide) (fun h33 => ?_) (fun h33 => ?_)
        · refine j_lload_n (q := 41) dX7_lowest_40 rfl (by rfl) ?_
          refine j_lload (q := 43) dX7_lowest_41 rfl (by rfl) ?_
          refine j_ldiv (q := 44) dX7_lowest_43 rfl (by first | with_reducible assumption | assumption) ?_
          refine o_lret hF rfl dX7_lowest_44 ?_
          rw [if_neg h33]
          exact ⟨rfl, rfl⟩
        · refine j_lload_n (q := 37) dX7_lowest_36 rfl (by rfl) ?_
          refine j_goto (tgt := 41) dX7_lowest_37 (by decide) ?_
          refine j_lload (q := 43) dX7_lowest_41 rfl (by rfl) ?_
          refine j_ldiv (q := 44) dX7_lowest_43 rfl (by first | with_reducible assumption | assumption) ?_
          refine o_lret hF rfl dX7_lowest_44 ?_
          rw [if_pos (by first | exact h33 | exact Decidable.not_not.mp h33)]
          exact ⟨rfl, rfl⟩
      · exact absurd ((lgc_eq (lN 0) 0).mpr rfl) h10
    | succ w ih =>
      intro a b o9 hb ha hb2 he
      by_cases hb0 : b = 0
      · exact ih a b o9 (by omega) ha hb2 he
      have hr0 : ¬ lN b = 0 := fun q => hb0 ((pk_lEQ (b := 0) hb2 (by decide)).mp q)
      have hml := Nat.mod_lt a (show 0 < b by omega)
      refine j_lload (q := 8) dX7_lowest_6 rfl (by rfl) ?_
      refine j_lconst (q := 9) (v := 0) dX7_lowest_8 rfl (by decide) ?_
      refine j_lcmp (q := 10) dX7_lowest_9 rfl ?_
      refine j_if_eq (q := 13) (tgt := 31) dX7_lowest_10 rfl (by decide) (fun h10 => ?_) (fun h10 => ?_)
      · exact absurd ((lgc_eq _ _).mp h10) hr0
      refine j_lload (q := 15) dX7_lowest_13 rfl (by rfl) ?_
      refine j_lload (q := 17) dX7_lowest_15 rfl (by rfl) ?_
      refine j_lrem (q := 18) dX7_lowest_17 rfl (by first | with_reducible assumption | assumption) ?_
      rw [pk_lRem ha (by omega) hb2]
      refine j_lstore (q := 20) dX7_lowest_18 rfl (by decide) ?_
      refine j_lload (q := 22) dX7_lowest_20 rfl (by rfl) ?_
      refine j_lstore (q := 24) dX7_lowest_22 rfl (by decide) ?_
      refine j_lload (q := 26) dX7_lowest_24 rfl (by rfl) ?_
      refine j_lstore (q := 28) dX7_lowest_26 rfl (by decide) ?_
      refine j_goto (tgt := 6) dX7_lowest_28 (by decide) ?_
      refine ih b (a % b) _ (by omega) hb2 (by omega) ?_
      rw [← he, Nat.gcd_comm a b, Nat.gcd_rec b a, Nat.gcd_comm]
  refine j_lload_n (q := 1) dX7_lowest_0 rfl (by rfl) ?_
  refine j_lstore (q := 3) dX7_lowest_1 rfl (by decide) ?_
  refine j_lload_n (q := 4) dX7_lowest_3 rfl (by rfl) ?_
  refine j_lstore (q := 6) dX7_lowest_4 rfl (by decide) ?_
  exact K6 down up down _ (Nat.le_refl _) (by omega) (by omega) rfl
/-- what is added up over all hours without anybody -/
def bnS (F : Nat → Int32) (v n : Nat) : Nat → Int64
  | 0 => 0
  | e + 1 => bnS F v n e + lN (wgN e n v) * (F e).toInt64
theorem bnS_N {F : Nat → Int32} {v n : Nat} (hn : n < 9) (hv : v ≤ 10) (hF : ∀ e, ∃ f, f ≤ 32 ∧ F e = nI f) : ∀ e, e ≤ 2 ^ n → ∃ u, u ≤ e * 3200000000 ∧ bnS F v n e = lN u
  | 0, _ => ⟨0, Nat.zero_le _, rfl⟩
  | e + 1, he => by
    obtain ⟨u, h1, h2⟩ := bnS_N hn hv hF e (by omega)
    obtain ⟨f, hf, ef⟩ := hF e
    have hw := wgN_le hn (show e < 2 ^ n by omega) hv
    have hm : wgN e n v * f ≤ 100000000 * 32 := Nat.mul_le_mul hw hf
    rw [bnS, h2, ef, nI_l (by omega), lN_mul, lN_add]
    exact ⟨_, by omega, rfl⟩
abbrev bnG (g : Nat → Int32) (G : Int32) (n : Nat) (F : Nat → Int32) : Prop := (G = -4 ∧ F = fun e => odU g e 15 n) ∨ (∃ j, j < cnt g ∧ G = nI j ∧ F = fun e => if (0 : Int32) < odU g e (1 <<< (nI j &&& 31)) n then 1 else 0)
theorem bnG_n {g : Nat → Int32} (hc : okC g) {G : Int32} {n : Nat} {F : Nat → Int32} (hn : n < 9) (h : bnG g G n F) (e : Nat) : ∃ f, f ≤ 32 ∧ F e = nI f := by
  rcases h with ⟨-, rfl⟩ | ⟨j, -, -, rfl⟩
  · obtain ⟨k, h1, h2⟩ := odU_n hc e n
    exact ⟨k, by omega, h2⟩
  · dsimp only
    by_cases hz : (0 : Int32) < odU g e (1 <<< (nI j &&& 31)) n
    · rw [if_pos hz]; exact ⟨1, by omega, rfl⟩
    · rw [if_neg hz]; exact ⟨0, by omega, rfl⟩
theorem cM_byNobody (E : gEv) (σ : gSg) (m : gMem) (hi t v n : Nat) (G k : Int32) (F0 : Nat → Int32) (hR : gR σ t) (ho : okM m t) (hv : v ≤ 10) (hn : n < 9) (hF0 : bnG (pgR m t 0) G n F0) : gCo E yX7_byNobody cX7_byNobody 15 (some .long) 3 [.ref t, .int (nI v), .int G, .int (nI n), .int k] σ m hi (fun v' m' => v' = some (.long (xLow (bnS F0 v n (2 ^ n)) (lN (10 ^ n)) k)) ∧ rsc t m m') := by
  refine gCo.of mwX7_byNobody (Nat.le_of_ble_eq_true rfl) ?_
  intro F hF
  have h0 := hR.1
  have h1 := hR.2.1
  have hoC : okC (pgR m t 0) := ho.1
  have hoB : okB (pgR m t 0) 9999 := ho.2
  have h256 : 2 ^ n ≤ 256 := Nat.pow_le_pow_right (by decide) (show n ≤ 8 by omega)
  have h10n : 10 ^ n ≤ 100000000 := Nat.pow_le_pow_right (by decide) (show n ≤ 8 by omega)
  have h10p : 0 < 10 ^ n := Nat.pow_pos (by decide)
  have hFn := bnG_n hoC hn hF0
  generalize hG : pgR m t 0 = g at *
  have hg0 : pg0 g := by rw [← hG]; exact pgR_0 m t 0
  have h4 := cnt_le hoC
  have K32 : ∀ (w e : Nat) (mi : gMem) (o10 o12 o13 o14 : Option Value), e + w = 2 ^ n → rsc t m mi → (gJ E yX7_byNobody cX7_byNobody 15 (some .long) (gRm 3 0 0) F 32 ([some (.ref t), some (.int (nI v)), some (.int G), some (.int (nI n)), some (.int k), some (.long (bnS F0 v n e)), none, some (.long (lN (10 ^ n))), none, some (.int (nI e)), o10, none, o12, o13, o14]) ([]) 0 0 σ (mi) hi) := by
    intro w
    induction w with
    | zero =>
      intro e mi o10 o12 o13 o14 he hsc
      have hee : e = 2 ^ n := by omega
      subst hee
      obtain ⟨u, hu, eu⟩ := bnS_N hn hv hFn (2 ^ n) (Nat.le_refl _)
      have hL := cM_lowest E σ mi hi u (10 ^ n) k (by omega) h10p (by omega)
      rw [← eu] at hL
      refine j_iload (q := 34) dX7_byNobody_32 rfl (by rfl) ?_
      refine j_iconst (q := 35) (v := 1) dX7_byNobody_34 rfl (by decide) ?_
      refine j_iload_n (q := 36) dX7_byNobody_35 rfl (by rfl) ?_
      refine j_ishl (q := 37) dX7_byNobody_36 rfl ?_
      rw [shl1 n hn]
      refine j_icmp_ge (q := 40) (tgt := 184) dX7_byNobody_37 rfl (by decide) (fun h37 => ?_) (fun h37 => ?_)
      · refine j_lload (q := 186) dX7_byNobody_184 rfl (by rfl) ?_
        refine j_lload (q := 188) dX7_byNobody_186 rfl (by rfl) ?_
        refine j_iload (q := 190) dX7_byNobody_188 rfl (by rfl) ?_
        refine o_callSl (q := 193) dX7_byNobody_190 rfl lX7_245 mwX7_lowest msX7_lowest (by rfl) rfl (Nat.le_of_ble_eq_true (by rfl)) (by first | decide | omega) (hL) ?_
        refine o_lret hF rfl dX7_byNobody_193 ?_
        exact ⟨rfl, hsc⟩
      · exact absurd (Int32.le_refl _) h37
    | succ w ih =>
      intro e mi o10 o12 o13 o14 he hsc
      have ep : ∀ i, pgR (gQ mi t 212 (odP g e i)) t 212 = odP g e i := fun i => pgR_gQ (odP_0 hg0 e i) _ _ _
      have hs2 : ∀ i, rsc t m (gQ mi t 212 (odP g e i)) := fun i => hsc.q (by decide) _
      have K173 : ∀ (f : Int32) (o13 o14 : Option Value), f = F0 e → (gJ E yX7_byNobody cX7_byNobody 15 (some .long) (gRm 3 0 0) F 173 ([some (.ref t), some (.int (nI v)), some (.int G), some (.int (nI n)), some (.int k), some (.long (bnS F0 v n e)), none, some (.long (lN (10 ^ n))), none, some (.int (nI e)), some (.long (lN (odN e v n))), none, some (.int (odU g e 15 n)), o13, o14]) ([.int f, .long (lN (odN e v n)), .long (bnS F0 v n e)]) 0 0 σ (gQ mi t 212 (odP g e n)) hi) := by
        intro f o13 o14 hf
        subst hf
        have := ih (e + 1) (gQ mi t 212 (odP g e n)) (some (.long (lN (odN e v n)))) (some (.int (odU g e 15 n))) o13 o14 (by omega) (hs2 n)
        rw [bnS, ← odN_w hn (by omega)] at this
        refine j_i2l (q := 174) dX7_byNobody_173 rfl ?_
        refine j_lmul (q := 175) dX7_byNobody_174 rfl ?_
        refine j_ladd (q := 176) dX7_byNobody_175 rfl ?_
        refine j_lstore (q := 178) dX7_byNobody_176 rfl (by decide) ?_
        refine j_iinc (q := 181) dX7_byNobody_178 rfl (by rfl) (by first | exact nI_inc _ | rfl) (by decide) ?_
        refine j_goto (tgt := 32) dX7_byNobody_181 (by decide) ?_
        exact this
      have K57 : ∀ (w2 i : Nat) (o14 : Option Value), i + w2 = n → (gJ E yX7_byNobody cX7_byNobody 15 (some .long) (gRm 3 0 0) F 57 ([some (.ref t), some (.int (nI v)), some (.int G), some (.int (nI n)), some (.int k), some (.long (bnS F0 v n e)), none, some (.long (lN (10 ^ n))), none, some (.int (nI e)), some (.long (lN (odN e v i))), none, some (.int (odU g e 15 i)), some (.int (nI i)), o14]) ([]) 0 0 σ (gQ mi t 212 (odP g e i)) hi) := by
        intro w2
        induction w2 with
        | zero =>
          intro i o14 hi'
          have hin : i = n := by omega
          subst hin
          refine j_iload (q := 59) dX7_byNobody_57 rfl (by rfl) ?_
          refine j_iload_n (q := 60) dX7_byNobody_59 rfl (by rfl) ?_
          refine j_icmp_ge (q := 63) (tgt := 145) dX7_byNobody_60 rfl (by decide) (fun h60 => ?_) (fun h60 => ?_)
          · refine j_lload (q := 147) dX7_byNobody_145 rfl (by rfl) ?_
            refine j_lload (q := 149) dX7_byNobody_147 rfl (by rfl) ?_
            refine j_iload_n (q := 150) dX7_byNobody_149 rfl (by rfl) ?_
            refine j_bipush (q := 152) (v := (-4)) dX7_byNobody_150 rfl (by decide) ?_
            rcases hF0 with ⟨hG4, hFF⟩ | ⟨j, hj, hGj, hFF⟩
            · subst hG4
              refine j_icmp_ne (q := 155) (tgt := 160) dX7_byNobody_152 rfl (by decide) (fun h152 => ?_) (fun h152 => ?_)
              · exact absurd rfl h152
              refine j_iload (q := 157) dX7_byNobody_155 rfl (by rfl) ?_
              refine j_goto (tgt := 173) dX7_byNobody_157 (by decide) ?_
              exact K173 _ _ _ (by rw [hFF])
            · subst hGj
              have hW := cM_wentThen E σ (gQ mi t 212 (odP g e i)) hi t j hR (by omega)
              rw [ep, (hs2 i).n, hG, od_went hoC e hj i, Int32.add_comm, Int32.add_sub_cancel] at hW
              refine j_icmp_ne (q := 155) (tgt := 160) dX7_byNobody_152 rfl (by decide) (fun h152 => ?_) (fun h152 => ?_)
              · refine j_aload_n (q := 161) dX7_byNobody_160 rfl (by rfl) ?_
                refine j_iload_n (q := 162) dX7_byNobody_161 rfl (by rfl) ?_
                refine o_callVi (q := 165) dX7_byNobody_162 rfl lX7_226 mwX7_wentThen mvX7_wentThen cn7 (by assumption) (by rfl) rfl (Nat.le_of_ble_eq_true (by rfl)) (by first | decide | omega) (hW) ?_
                refine j_if_le (q := 168) (tgt := 172) dX7_byNobody_165 rfl (by decide) (fun h165 => ?_) (fun h165 => ?_)
                · refine j_iconst (q := 173) (v := 0) dX7_byNobody_172 rfl (by decide) ?_
                  exact K173 _ _ _ (by rw [hFF]; exact (if_neg (Int32.not_lt.mpr h165)).symm)
                · refine j_iconst (q := 169) (v := 1) dX7_byNobody_168 rfl (by decide) ?_
                  refine j_goto (tgt := 173) dX7_byNobody_169 (by decide) ?_
                  exact K173 _ _ _ (by rw [hFF]; exact (if_pos (Int32.not_le.mp h165)).symm)
              · exact absurd (show nI j = -4 by first | exact h152 | exact Decidable.not_not.mp h152) (fun q => absurd (nI_pos' (n := j) (by omega)) (by rw [q]; decide))
          · exact absurd (Int32.le_refl _) h60
        | succ w2 ih2 =>
          intro i o14 hi'
          have hWa := cM_watchersOn E σ (gQ mi t 212 (odP g e i)) hi t 212 hR (by decide) (by rw [ep]; exact (odP_B hoB e i).r (by omega))
          rw [ep] at hWa
          have hWh := cM_whomOn E σ (gQ mi t 212 (odP g e i)) hi t 212 hR (by decide) (by rw [ep]; exact (odP_B hoB e i).r (by omega))
          rw [ep] at hWh
          have hHo := cM_hourOn E σ (gQ mi t 212 (odP g e i)) hi t 212 (if sBit (nI e) (nI i) = 1 then 0 else sWat (odP g e i)) (sWho (odP g e i)) hR (by decide) (by rw [ep]; exact odP_C hoC e i)
          rw [ep, gQ_gQ] at hHo
          obtain ⟨z, hz16, hz⟩ := hrU_n (odP_C hoC e i) (if sBit (nI e) (nI i) = 1 then 0 else sWat (odP g e i)) (sWho (odP g e i))
          have ez : sBc (hrU (odP g e i) (if sBit (nI e) (nI i) = 1 then 0 else sWat (odP g e i)) (sWho (odP g e i))) = sBc (hrU (odP g e i) (if sBit (nI e) (nI i) = 1 then 0 else sWat (odP g e i)) (sWho (odP g e i)) &&& 15) := by rw [hz, and15 z hz16]
          have hBi := cM_bits E σ (gQ mi t 212 (odP g e (i + 1))) hi ⟨z, hz16, hz⟩
          rw [ez] at hBi
          have hb2 := sBit_8 e (by omega) i (by omega)
          have K123 : ∀ W : Int32, W = (if sBit (nI e) (nI i) = 1 then 0 else sWat (odP g e i)) → ∀ o14 : Option Value, (gJ E yX7_byNobody cX7_byNobody 15 (some .long) (gRm 3 0 0) F 123 ([some (.ref t), some (.int (nI v)), some (.int G), some (.int (nI n)), some (.int k), some (.long (bnS F0 v n e)), none, some (.long (lN (10 ^ n))), none, some (.int (nI e)), some (.long (lN (odN e v (i + 1)))), none, some (.int (odU g e 15 i)), some (.int (nI i)), o14]) ([.int W, .int (nI 212), .ref t, .int (odU g e 15 i)]) 0 0 σ (gQ mi t 212 (odP g e i)) hi) := by
            intro W hW o14
            subst hW
            refine j_aload_n (q := 124) dX7_byNobody_123 rfl (by rfl) ?_
            refine j_sipush (q := 127) (v := 212) dX7_byNobody_124 rfl (by decide) ?_
            refine o_callVi (q := 130) dX7_byNobody_127 rfl lX7_151 mwX7_whomOn mvX7_whomOn cn7 (by assumption) (by rfl) rfl (Nat.le_of_ble_eq_true (by rfl)) (by first | decide | omega) (hWh) ?_
            refine o_callVi (q := 133) dX7_byNobody_130 rfl lX7_154 mwX7_hourOn mvX7_hourOn cn7 (by assumption) (by rfl) rfl (Nat.le_of_ble_eq_true (by rfl)) (by first | decide | omega) (hHo) ?_
            refine o_callSi (q := 136) dX7_byNobody_133 rfl lX7_199 mwX7_bitsOf msX7_bitsOf (by rfl) rfl (Nat.le_of_ble_eq_true (by rfl)) (by first | decide | omega) (hBi) ?_
            refine j_iadd (q := 137) dX7_byNobody_136 rfl ?_
            refine j_istore (q := 139) dX7_byNobody_137 rfl (by decide) ?_
            refine j_iinc (q := 142) dX7_byNobody_139 rfl (by rfl) (by first | exact nI_inc _ | rfl) (by decide) ?_
            refine j_goto (tgt := 57) dX7_byNobody_142 (by decide) ?_
            exact ih2 (i + 1) o14 (by omega)
          refine j_iload (q := 59) dX7_byNobody_57 rfl (by rfl) ?_
          refine j_iload_n (q := 60) dX7_byNobody_59 rfl (by rfl) ?_
          refine j_icmp_ge (q := 63) (tgt := 145) dX7_byNobody_60 rfl (by decide) (fun h60 => ?_) (fun h60 => ?_)
          · exact absurd h60 (nI_ge (by omega) (by omega))
          refine j_iload (q := 65) dX7_byNobody_63 rfl (by rfl) ?_
          refine j_iload (q := 67) dX7_byNobody_65 rfl (by rfl) ?_
          refine j_ishr (q := 68) dX7_byNobody_67 rfl ?_
          refine j_iconst (q := 69) (v := 1) dX7_byNobody_68 rfl (by decide) ?_
          refine j_iand (q := 70) dX7_byNobody_69 rfl ?_
          rw [sar_bit8 e (by omega) i (by omega)]
          refine j_iconst (q := 71) (v := 1) dX7_byNobody_70 rfl (by decide) ?_
          by_cases hb : e / 2 ^ i % 2 = 1
          · have eo : lN (odN e v i) * (nI v).toInt64 = lN (odN e v (i + 1)) := by rw [odN, if_pos hb, nI_l (by omega), lN_mul]
            rw [hb]
            refine j_icmp_ne (q := 74) (tgt := 78) dX7_byNobody_71 rfl (by decide) (fun h71 => ?_) (fun h71 => ?_)
            · exact absurd rfl h71
            refine j_iconst (q := 75) (v := 1) dX7_byNobody_74 rfl (by decide) ?_
            refine j_goto (tgt := 79) dX7_byNobody_75 (by decide) ?_
            refine j_istore (q := 81) dX7_byNobody_79 rfl (by decide) ?_
            refine j_lload (q := 83) dX7_byNobody_81 rfl (by rfl) ?_
            refine j_iload (q := 85) dX7_byNobody_83 rfl (by rfl) ?_
            refine j_if_eq (q := 88) (tgt := 93) dX7_byNobody_85 rfl (by decide) (fun h85 => ?_) (fun h85 => ?_)
            · exact absurd h85 (by decide)
            refine j_iload_n (q := 89) dX7_byNobody_88 rfl (by rfl) ?_
            refine j_i2l (q := 90) dX7_byNobody_89 rfl ?_
            refine j_goto (tgt := 98) dX7_byNobody_90 (by decide) ?_
            refine j_lmul (q := 99) dX7_byNobody_98 rfl ?_
            rw [eo]
            refine j_lstore (q := 101) dX7_byNobody_99 rfl (by decide) ?_
            refine j_iload (q := 103) dX7_byNobody_101 rfl (by rfl) ?_
            refine j_aload_n (q := 104) dX7_byNobody_103 rfl (by rfl) ?_
            refine j_sipush (q := 107) (v := 212) dX7_byNobody_104 rfl (by decide) ?_
            refine j_iload (q := 109) dX7_byNobody_107 rfl (by rfl) ?_
            refine j_if_eq (q := 112) (tgt := 116) dX7_byNobody_109 rfl (by decide) (fun h109 => ?_) (fun h109 => ?_)
            · exact absurd h109 (by decide)
            refine j_iconst (q := 113) (v := 0) dX7_byNobody_112 rfl (by decide) ?_
            refine j_goto (tgt := 123) dX7_byNobody_113 (by decide) ?_
            exact K123 _ (by rw [if_pos (by rw [hb2, hb]; rfl)]) _
          · have hb0 : e / 2 ^ i % 2 = 0 := by omega
            have eo : lN (odN e v i) * ((10 : Int32) - nI v).toInt64 = lN (odN e v (i + 1)) := by rw [odN, if_neg hb, show (10 : Int32) - nI v = nI (10 - v) from pk_sub hv, nI_l (by omega), lN_mul]
            rw [hb0]
            refine j_icmp_ne (q := 74) (tgt := 78) dX7_byNobody_71 rfl (by decide) (fun h71 => ?_) (fun h71 => ?_)
            · refine j_iconst (q := 79) (v := 0) dX7_byNobody_78 rfl (by decide) ?_
              refine j_istore (q := 81) dX7_byNobody_79 rfl (by decide) ?_
              refine j_lload (q := 83) dX7_byNobody_81 rfl (by rfl) ?_
              refine j_iload (q := 85) dX7_byNobody_83 rfl (by rfl) ?_
              refine j_if_eq (q := 88) (tgt := 93) dX7_byNobody_85 rfl (by decide) (fun h85 => ?_) (fun h85 => ?_)
              · refine j_bipush (q := 95) (v := 10) dX7_byNobody_93 rfl (by decide) ?_
                refine j_iload_n (q := 96) dX7_byNobody_95 rfl (by rfl) ?_
                refine j_isub (q := 97) dX7_byNobody_96 rfl ?_
                refine j_i2l (q := 98) dX7_byNobody_97 rfl ?_
                refine j_lmul (q := 99) dX7_byNobody_98 rfl ?_
                rw [eo]
                refine j_lstore (q := 101) dX7_byNobody_99 rfl (by decide) ?_
                refine j_iload (q := 103) dX7_byNobody_101 rfl (by rfl) ?_
                refine j_aload_n (q := 104) dX7_byNobody_103 rfl (by rfl) ?_
                refine j_sipush (q := 107) (v := 212) dX7_byNobody_104 rfl (by decide) ?_
                refine j_iload (q := 109) dX7_byNobody_107 rfl (by rfl) ?_
                refine j_if_eq (q := 112) (tgt := 116) dX7_byNobody_109 rfl (by decide) (fun h109 => ?_) (fun h109 => ?_)
                · refine j_aload_n (q := 117) dX7_byNobody_116 rfl (by rfl) ?_
                  refine j_sipush (q := 120) (v := 212) dX7_byNobody_117 rfl (by decide) ?_
                  refine o_callVi (q := 123) dX7_byNobody_120 rfl lX7_148 mwX7_watchersOn mvX7_watchersOn cn7 (by assumption) (by rfl) rfl (Nat.le_of_ble_eq_true (by rfl)) (by first | decide | omega) (hWa) ?_
                  exact K123 _ (by rw [if_neg (by rw [hb2, hb0]; decide)]) _
                · exact absurd rfl h109
              · exact absurd rfl h85
            · exact absurd (show nI 0 = 1 by first | exact h71 | exact Decidable.not_not.mp h71) (by decide)
      have hCp := cM_copies E σ mi hi t 0 212 hR (by decide) (by decide) (by decide)
      rw [hsc.n, hG] at hCp
      refine j_iload (q := 34) dX7_byNobody_32 rfl (by rfl) ?_
      refine j_iconst (q := 35) (v := 1) dX7_byNobody_34 rfl (by decide) ?_
      refine j_iload_n (q := 36) dX7_byNobody_35 rfl (by rfl) ?_
      refine j_ishl (q := 37) dX7_byNobody_36 rfl ?_
      rw [shl1 n hn]
      refine j_icmp_ge (q := 40) (tgt := 184) dX7_byNobody_37 rfl (by decide) (fun h37 => ?_) (fun h37 => ?_)
      · exact absurd h37 (nI_ge (by omega) (by omega))
      refine j_lconst (q := 41) (v := 1) dX7_byNobody_40 rfl (by decide) ?_
      refine j_lstore (q := 43) dX7_byNobody_41 rfl (by decide) ?_
      refine j_iconst (q := 44) (v := 0) dX7_byNobody_43 rfl (by decide) ?_
      refine j_istore (q := 46) dX7_byNobody_44 rfl (by decide) ?_
      refine j_aload_n (q := 47) dX7_byNobody_46 rfl (by rfl) ?_
      refine j_iconst (q := 48) (v := 0) dX7_byNobody_47 rfl (by decide) ?_
      refine j_sipush (q := 51) (v := 212) dX7_byNobody_48 rfl (by decide) ?_
      refine o_callVv (q := 54) dX7_byNobody_51 rfl lX7_205 mwX7_copies mvX7_copies cn7 (by assumption) (by rfl) rfl (Nat.le_of_ble_eq_true (by rfl)) (by first | decide | omega) (hCp) ?_
      refine j_iconst (q := 55) (v := 0) dX7_byNobody_54 rfl (by decide) ?_
      refine j_istore (q := 57) dX7_byNobody_55 rfl (by decide) ?_
      exact K57 n 0 _ (by omega)
  have K9 : ∀ (w i : Nat), i + w = n → (gJ E yX7_byNobody cX7_byNobody 15 (some .long) (gRm 3 0 0) F 9 ([some (.ref t), some (.int (nI v)), some (.int G), some (.int (nI n)), some (.int k), some (.long 0), none, some (.long (lN (10 ^ i))), none, some (.int (nI i)), none, none, none, none, none]) ([]) 0 0 σ (m) hi) := by
    intro w
    induction w with
    | zero =>
      intro i hi'
      have hin : i = n := by omega
      subst hin
      refine j_iload (q := 11) dX7_byNobody_9 rfl (by rfl) ?_
      refine j_iload_n (q := 12) dX7_byNobody_11 rfl (by rfl) ?_
      refine j_icmp_ge (q := 15) (tgt := 29) dX7_byNobody_12 rfl (by decide) (fun h12 => ?_) (fun h12 => ?_)
      · refine j_iconst (q := 30) (v := 0) dX7_byNobody_29 rfl (by decide) ?_
        refine j_istore (q := 32) dX7_byNobody_30 rfl (by decide) ?_
        exact K32 (2 ^ i) 0 m _ _ _ _ (by omega) (rsc.rf t m)
      · exact absurd (Int32.le_refl _) h12
    | succ w ih =>
      intro i hi'
      have e10 : lN (10 ^ i) * 10 = lN (10 ^ (i + 1)) := by rw [Nat.pow_succ]; exact lN_mul (10 ^ i) 10
      refine j_iload (q := 11) dX7_byNobody_9 rfl (by rfl) ?_
      refine j_iload_n (q := 12) dX7_byNobody_11 rfl (by rfl) ?_
      refine j_icmp_ge (q := 15) (tgt := 29) dX7_byNobody_12 rfl (by decide) (fun h12 => ?_) (fun h12 => ?_)
      · exact absurd h12 (nI_ge (by omega) (by omega))
      refine j_lload (q := 17) dX7_byNobody_15 rfl (by rfl) ?_
      refine j_ldc2 (q := 20) dX7_byNobody_17 rfl kX7_243 ?_
      refine j_lmul (q := 21) dX7_byNobody_20 rfl ?_
      rw [e10]
      refine j_lstore (q := 23) dX7_byNobody_21 rfl (by decide) ?_
      refine j_iinc (q := 26) dX7_byNobody_23 rfl (by rfl) (by first | exact nI_inc _ | rfl) (by decide) ?_
      refine j_goto (tgt := 9) dX7_byNobody_26 (by decide) ?_
      exact ih (i + 1) (by omega)
  refine j_lconst (q := 1) (v := 0) dX7_byNobody_0 rfl (by decide) ?_
  refine j_lstore (q := 3) dX7_byNobody_1 rfl (by decide) ?_
  refine j_lconst (q := 4) (v := 1) dX7_byNobody_3 rfl (by decide) ?_
  refine j_lstore (q := 6) dX7_byNobody_4 rfl (by decide) ?_
  refine j_iconst (q := 7) (v := 0) dX7_byNobody_6 rfl (by decide) ?_
  refine j_istore (q := 9) dX7_byNobody_7 rfl (by decide) ?_
  exact K9 n 0 (by omega)
theorem luS_bn (g : Nat → Int32) {v : Nat} (hv : v ≤ 10) (j n : Nat) : ∀ e, bnS (fun e => if (0 : Int32) < odU g e (1 <<< (nI j &&& 31)) n then 1 else 0) v n e = luS g (nI v) j n e
  | 0 => rfl
  | e + 1 => by
    rw [bnS, luS, luS_bn g hv j n e, wgt_N hv]
    by_cases h : (0 : Int32) < odU g e (1 <<< (nI j &&& 31)) n
    · rw [if_pos h, if_pos h, show (1 : Int32).toInt64 = lN 1 from rfl, lN_mul, Nat.mul_one]
    · rw [if_neg h, if_neg h, show (0 : Int32).toInt64 = lN 0 from rfl, lN_mul, Nat.mul_zero]
      exact Int64.add_zero _
theorem meS_bn {g : Nat → Int32} (hc : okC g) {v : Nat} (hv : v ≤ 10) {n : Nat} (hn : n < 9) : ∀ e, bnS (fun e => odU g e 15 n) v n e = meS g (nI v) n e
  | 0 => rfl
  | e + 1 => by
    obtain ⟨k, h1, h2⟩ := odU_n hc e n
    rw [bnS, meS, meS_bn hc hv hn e, wgt_N hv]
    rw [h2, nI_l (by omega), lN_mul, lN_mul, Nat.mul_comm]
theorem cM_luck (E : gEv) (σ : gSg) (m : gMem) (hi t : Nat) (v w n k : Int32) (hR : gR σ t) (ho : okM m t) : gCo E yX7_luck cX7_luck 5 (some .long) 4 [.ref t, .int v, .int w, .int n, .int k] σ m hi (fun v' m' => v' = some (.long (xLuck (pgR m t 0) v w n k)) ∧ rsc t m m') := by
  refine gCo.of mwX7_luck (Nat.le_of_ble_eq_true rfl) ?_
  intro F hF
  have h0 := hR.1
  obtain ⟨c, hc, hc4⟩ := id ho.1
  have hcn : cnt (pgR m t 0) = c := by unfold cnt; rw [hc]; exact nI_clamp (by omega)
  have bad : xLuck (pgR m t 0) v w n k = -1 → (gJ E yX7_luck cX7_luck 5 (some .long) (gRm 4 0 0) F 55 ([some (.ref t), some (.int v), some (.int w), some (.int n), some (.int k)]) ([]) 0 0 σ (m) hi) := by
    intro hb
    rw [hb] at hF
    refine j_ldc2 (q := 58) dX7_luck_55 rfl kX7_255 ?_
    refine o_lret hF rfl dX7_luck_58 ?_
    exact ⟨rfl, rsc.rf t m⟩
  have bad2 : ¬ goodOdds v n k → xLuck (pgR m t 0) v w n k = -1 := by
    intro hb
    unfold xLuck
    cases ixV (pgR m t 0 24) w with
    | none => rfl
    | some j => exact if_neg hb
  refine j_iload_n (q := 1) dX7_luck_0 rfl (by rfl) ?_
  refine j_i2l (q := 2) dX7_luck_1 rfl ?_
  refine j_lconst (q := 3) (v := 0) dX7_luck_2 rfl (by decide) ?_
  refine j_ldc2 (q := 6) dX7_luck_3 rfl kX7_243 ?_
  refine o_callSi (q := 9) dX7_luck_6 rfl lX7_55 mwX7_in msX7_in (by rfl) rfl (Nat.le_of_ble_eq_true (by rfl)) (by first | decide | omega) (cM_inI E σ m hi v 0 10 (by decide) (by decide)) ?_
  refine j_if_eq (q := 12) (tgt := 55) dX7_luck_9 rfl (by decide) (fun h9 => ?_) (fun h9 => ?_)
  · exact bad (bad2 (fun h => sWi_0 h9 h.1))
  refine j_aload_n (q := 13) dX7_luck_12 rfl (by rfl) ?_
  refine j_iload_n (q := 14) dX7_luck_13 rfl (by rfl) ?_
  refine o_callVi (q := 17) dX7_luck_14 rfl lX7_160 mwX7_isGeyser mvX7_isGeyser cn7 (by assumption) (by rfl) rfl (Nat.le_of_ble_eq_true (by rfl)) (by first | decide | omega) (cM_isGeyser E σ m hi t c w hR hc hc4) ?_
  rcases ixV_or w hc (by omega) with ⟨hs, hv2⟩ | ⟨j, hj, ej, hs, hv2⟩
  · rw [← hc, hs]
    refine j_if_eq (q := 20) (tgt := 55) dX7_luck_17 rfl (by decide) (fun h17 => ?_) (fun h17 => ?_)
    · exact bad (by unfold xLuck; rw [hv2])
    · exact absurd rfl h17
  rw [← hc, hs]
  subst ej
  refine j_if_eq (q := 20) (tgt := 55) dX7_luck_17 rfl (by decide) (fun h17 => ?_) (fun h17 => ?_)
  · exact absurd h17 (by decide)
  refine j_iload_n (q := 21) dX7_luck_20 rfl (by rfl) ?_
  refine j_i2l (q := 22) dX7_luck_21 rfl ?_
  refine j_lconst (q := 23) (v := 0) dX7_luck_22 rfl (by decide) ?_
  refine j_ldc2 (q := 26) dX7_luck_23 rfl kX7_249 ?_
  refine o_callSi (q := 29) dX7_luck_26 rfl lX7_55 mwX7_in msX7_in (by rfl) rfl (Nat.le_of_ble_eq_true (by rfl)) (by first | decide | omega) (cM_inI E σ m hi n 0 8 (by decide) (by decide)) ?_
  refine j_if_eq (q := 32) (tgt := 55) dX7_luck_29 rfl (by decide) (fun h29 => ?_) (fun h29 => ?_)
  · exact bad (bad2 (fun h => sWi_0 h29 h.2.1))
  refine j_iload (q := 34) dX7_luck_32 rfl (by rfl) ?_
  refine j_i2l (q := 35) dX7_luck_34 rfl ?_
  refine j_lconst (q := 36) (v := 0) dX7_luck_35 rfl (by decide) ?_
  refine j_lconst (q := 37) (v := 1) dX7_luck_36 rfl (by decide) ?_
  refine o_callSi (q := 40) dX7_luck_37 rfl lX7_55 mwX7_in msX7_in (by rfl) rfl (Nat.le_of_ble_eq_true (by rfl)) (by first | decide | omega) (cM_inI E σ m hi k 0 1 (by decide) (by decide)) ?_
  refine j_if_eq (q := 43) (tgt := 55) dX7_luck_40 rfl (by decide) (fun h40 => ?_) (fun h40 => ?_)
  · exact bad (bad2 (fun h => sWi_0 h40 h.2.2))
  have hgd : goodOdds v n k := And.intro (sWi_1 h9) (And.intro (sWi_1 h29) (sWi_1 h40))
  obtain ⟨vv, hvv, evv⟩ := swN_wi (n := 10) (by decide) h9
  obtain ⟨nn, hnn, enn⟩ := swN_wi (n := 8) (by decide) h29
  subst evv
  subst enn
  have hB := cM_byNobody E σ m hi t vv nn (nI j) k _ hR ho hvv (by omega) (Or.inr ⟨j, by omega, rfl, rfl⟩)
  rw [luS_bn _ hvv] at hB
  have hx : xLuck (pgR m t 0) (nI vv) (nI j) (nI nn) k = xLow (luS (pgR m t 0) (nI vv) j nn (2 ^ nn)) (lN (10 ^ nn)) k := by
    unfold xLuck
    rw [hv2]
    dsimp only
    rw [if_pos hgd, nI_clamp (by omega), show powL 10 nn = lN (10 ^ nn) from powL_N (b := 10) (by decide) nn]
  rw [hx] at hF
  refine j_aload_n (q := 44) dX7_luck_43 rfl (by rfl) ?_
  refine j_iload_n (q := 45) dX7_luck_44 rfl (by rfl) ?_
  refine j_iload_n (q := 46) dX7_luck_45 rfl (by rfl) ?_
  refine j_iload_n (q := 47) dX7_luck_46 rfl (by rfl) ?_
  refine j_iload (q := 49) dX7_luck_47 rfl (by rfl) ?_
  refine o_callVx (q := 52) dX7_luck_49 rfl lX7_251 mwX7_byNobody mvX7_byNobody cn7 (by assumption) (by rfl) rfl (Nat.le_of_ble_eq_true (by rfl)) (by first | decide | omega) (hB) ?_
  rintro _ m1 ⟨rfl, hs1⟩
  refine j_goto (tgt := 58) dX7_luck_52 (by decide) ?_
  refine o_lret hF rfl dX7_luck_58 ?_
  exact ⟨rfl, hs1⟩
theorem cM_mean (E : gEv) (σ : gSg) (m : gMem) (hi t : Nat) (v n k : Int32) (hR : gR σ t) (ho : okM m t) : gCo E yX7_mean cX7_mean 4 (some .long) 4 [.ref t, .int v, .int n, .int k] σ m hi (fun v' m' => v' = some (.long (xMean (pgR m t 0) v n k)) ∧ rsc t m m') := by
  refine gCo.of mwX7_mean (Nat.le_of_ble_eq_true rfl) ?_
  intro F hF
  have h0 := hR.1
  have bad : ¬ goodOdds v n k → (gJ E yX7_mean cX7_mean 4 (some .long) (gRm 4 0 0) F 46 ([some (.ref t), some (.int v), some (.int n), some (.int k)]) ([]) 0 0 σ (m) hi) := by
    intro hb
    unfold xMean at hF
    rw [if_neg hb] at hF
    refine j_ldc2 (q := 49) dX7_mean_46 rfl kX7_255 ?_
    refine o_lret hF rfl dX7_mean_49 ?_
    exact ⟨rfl, rsc.rf t m⟩
  refine j_iload_n (q := 1) dX7_mean_0 rfl (by rfl) ?_
  refine j_i2l (q := 2) dX7_mean_1 rfl ?_
  refine j_lconst (q := 3) (v := 0) dX7_mean_2 rfl (by decide) ?_
  refine j_ldc2 (q := 6) dX7_mean_3 rfl kX7_243 ?_
  refine o_callSi (q := 9) dX7_mean_6 rfl lX7_55 mwX7_in msX7_in (by rfl) rfl (Nat.le_of_ble_eq_true (by rfl)) (by first | decide | omega) (cM_inI E σ m hi v 0 10 (by decide) (by decide)) ?_
  refine j_if_eq (q := 12) (tgt := 46) dX7_mean_9 rfl (by decide) (fun h9 => ?_) (fun h9 => ?_)
  · exact bad (fun h => sWi_0 h9 h.1)
  refine j_iload_n (q := 13) dX7_mean_12 rfl (by rfl) ?_
  refine j_i2l (q := 14) dX7_mean_13 rfl ?_
  refine j_lconst (q := 15) (v := 0) dX7_mean_14 rfl (by decide) ?_
  refine j_ldc2 (q := 18) dX7_mean_15 rfl kX7_249 ?_
  refine o_callSi (q := 21) dX7_mean_18 rfl lX7_55 mwX7_in msX7_in (by rfl) rfl (Nat.le_of_ble_eq_true (by rfl)) (by first | decide | omega) (cM_inI E σ m hi n 0 8 (by decide) (by decide)) ?_
  refine j_if_eq (q := 24) (tgt := 46) dX7_mean_21 rfl (by decide) (fun h21 => ?_) (fun h21 => ?_)
  · exact bad (fun h => sWi_0 h21 h.2.1)
  refine j_iload_n (q := 25) dX7_mean_24 rfl (by rfl) ?_
  refine j_i2l (q := 26) dX7_mean_25 rfl ?_
  refine j_lconst (q := 27) (v := 0) dX7_mean_26 rfl (by decide) ?_
  refine j_lconst (q := 28) (v := 1) dX7_mean_27 rfl (by decide) ?_
  refine o_callSi (q := 31) dX7_mean_28 rfl lX7_55 mwX7_in msX7_in (by rfl) rfl (Nat.le_of_ble_eq_true (by rfl)) (by first | decide | omega) (cM_inI E σ m hi k 0 1 (by decide) (by decide)) ?_
  refine j_if_eq (q := 34) (tgt := 46) dX7_mean_31 rfl (by decide) (fun h31 => ?_) (fun h31 => ?_)
  · exact bad (fun h => sWi_0 h31 h.2.2)
  have hgd : goodOdds v n k := And.intro (sWi_1 h9) (And.intro (sWi_1 h21) (sWi_1 h31))
  obtain ⟨vv, hvv, evv⟩ := swN_wi (n := 10) (by decide) h9
  obtain ⟨nn, hnn, enn⟩ := swN_wi (n := 8) (by decide) h21
  subst evv
  subst enn
  have hB := cM_byNobody E σ m hi t vv nn (-4) k _ hR ho hvv (by omega) (Or.inl ⟨rfl, rfl⟩)
  rw [meS_bn ho.1 hvv (by omega)] at hB
  have hx : xMean (pgR m t 0) (nI vv) (nI nn) k = xLow (meS (pgR m t 0) (nI vv) nn (2 ^ nn)) (lN (10 ^ nn)) k := by
    unfold xMean
    rw [if_pos hgd, nI_clamp (by omega), show powL 10 nn = lN (10 ^ nn) from powL_N (b := 10) (by decide) nn]
  rw [hx] at hF
  refine j_aload_n (q := 35) dX7_mean_34 rfl (by rfl) ?_
  refine j_iload_n (q := 36) dX7_mean_35 rfl (by rfl) ?_
  refine j_bipush (q := 38) (v := (-4)) dX7_mean_36 rfl (by decide) ?_
  refine j_iload_n (q := 39) dX7_mean_38 rfl (by rfl) ?_
  refine j_iload_n (q := 40) dX7_mean_39 rfl (by rfl) ?_
  refine o_callVx (q := 43) dX7_mean_40 rfl lX7_251 mwX7_byNobody mvX7_byNobody cn7 (by assumption) (by rfl) rfl (Nat.le_of_ble_eq_true (by rfl)) (by first | decide | omega) (hB) ?_
  rintro _ m1 ⟨rfl, hs1⟩
  refine j_goto (tgt := 49) dX7_mean_43 (by decide) ?_
  refine o_lret hF rfl dX7_mean_49 ?_
  exact ⟨rfl, hs1⟩
