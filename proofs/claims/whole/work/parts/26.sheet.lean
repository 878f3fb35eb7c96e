/-! sheets -/
def gSt (σ : gSg) (a : Nat) : Prop := σ a = some (.inl (3, [some (.ref (a + 1)), none, none])) ∧ σ (a + 1) = some (.inr (0, 40, fun _ => none))
theorem gN.st {σ : gSg} {x : Nat} (hN : gN σ x) : ∀ j, j < 4 → gSt σ (x + 86 + 2 * j) := by
  obtain ⟨-, -, -, -, -, -, -, -, -, -, -, -, -, -, -, -, -, -, h⟩ := hN
  intro j hj
  have := h j hj
  rw [show x + 87 + 2 * j = x + 86 + 2 * j + 1 by omega] at this
  exact this
theorem gN.sf {σ : gSg} {x : Nat} (hN : gN σ x) : ∃ f : Nat → Option Nat, σ (x + 29) = some (.inr (6, 4, f)) ∧ ∀ j, j < 4 → f j = some (x + 86 + 2 * j) := by
  obtain ⟨-, -, -, -, -, -, -, -, -, -, -, -, -, -, -, h, -⟩ := hN
  exact h
def gZ (m : gMem) (b n : Nat) : gMem := (fun q r => if q = b ∧ r < n then 0 else m.1 q r, m.2)
theorem gZ_0 (m : gMem) (b : Nat) : gZ m b 0 = m := by
  apply gMem_ext
  · intro q r
    exact if_neg (by omega)
  · rfl
theorem gZ_s (m : gMem) (b n : Nat) : gW (gZ m b n) b n 0 = gZ m b (n + 1) := by
  apply gMem_ext
  · intro q r
    rw [gW_1]
    show (if q = b ∧ r = n then 0 else if q = b ∧ r < n then 0 else m.1 q r) = if q = b ∧ r < n + 1 then 0 else m.1 q r
    by_cases h1 : q = b ∧ r = n
    · rw [if_pos h1, if_pos (by omega)]
    · rw [if_neg h1]
      by_cases h2 : q = b ∧ r < n
      · rw [if_pos h2, if_pos (by omega)]
      · rw [if_neg h2, if_neg (by omega)]
  · rfl
def rnM (m : gMem) (a : Nat) (la : Int32) (t : Nat) : gMem := gZ (gW (gW m a 1 la) a 2 (nI t)) (a + 1) 40
theorem cH_renew (E : gEv) (σ : gSg) (m : gMem) (hi a t : Nat) (la : Int32) (hS : gSt σ a) (ht : t ≤ 40) : gCo E yX3_renew cX3_renew 4 (none) 1 [.ref a, .int la, .int (nI t)] σ m hi (gX none (rnM m a la t)) := by
  refine gCo.of mwX3_renew (Nat.le_of_ble_eq_true rfl) ?_
  intro F hF
  obtain ⟨h0, h1⟩ := hS
  have K21 : ∀ (u i : Nat), i + u = 40 → (gJ E yX3_renew cX3_renew 4 (none) (gRm 1 0 0) F 21 ([some (.ref a), some (.int la), some (.int (nI t)), some (.int (nI i))]) ([]) 0 0 σ (gZ (gW (gW m a 1 la) a 2 (nI t)) (a + 1) i) hi) := by
    intro u
    induction u with
    | zero =>
      intro i hi'
      have : i = 40 := by omega
      subst this
      refine j_iload_n (q := 22) dX3_renew_21 rfl (by rfl) ?_
      refine j_aload_n (q := 23) dX3_renew_22 rfl (by rfl) ?_
      refine j_getr (q := 26) dX3_renew_23 rfl fX3_9 (by assumption) (by rfl) ?_
      refine j_alen (q := 27) dX3_renew_26 rfl (by assumption) (by decide) (by rfl) ?_
      refine j_icmp_ge (q := 30) (tgt := 43) dX3_renew_27 rfl (by decide) (fun h27 => ?_) (fun h27 => ?_)
      · refine o_vret hF rfl dX3_renew_43 ?_
        exact ⟨rfl, rfl⟩
      · exact absurd (show (40 : Int32) ≤ nI 40 by decide) h27
    | succ u ih =>
      intro i hi'
      have hix : gIdx (nI i) 40 i := gIdx.of rfl (by omega) (by decide)
      refine j_iload_n (q := 22) dX3_renew_21 rfl (by rfl) ?_
      refine j_aload_n (q := 23) dX3_renew_22 rfl (by rfl) ?_
      refine j_getr (q := 26) dX3_renew_23 rfl fX3_9 (by assumption) (by rfl) ?_
      refine j_alen (q := 27) dX3_renew_26 rfl (by assumption) (by decide) (by rfl) ?_
      refine j_icmp_ge (q := 30) (tgt := 43) dX3_renew_27 rfl (by decide) (fun h27 => ?_) (fun h27 => ?_)
      · exact absurd h27 (nI_ge (a := i) (b := 40) (by omega) (by omega))
      · refine j_aload_n (q := 31) dX3_renew_30 rfl (by rfl) ?_
        refine j_getr (q := 34) dX3_renew_31 rfl fX3_9 (by assumption) (by rfl) ?_
        refine j_iload_n (q := 35) dX3_renew_34 rfl (by rfl) ?_
        refine j_iconst (q := 36) (v := 0) dX3_renew_35 rfl (by decide) ?_
        refine j_iastore (q := 37) dX3_renew_36 rfl (by assumption) (by assumption) ?_
        rw [gZ_s]
        refine j_iinc (q := 40) dX3_renew_37 rfl (by rfl) (by first | exact nI_inc _ | rfl) (by decide) ?_
        refine j_goto (tgt := 21) dX3_renew_40 (by decide) ?_
        exact ih (i + 1) (by omega)
  have e1 : (if (40 : Int32) < nI t then 40 else nI t) = nI t := if_neg (nI_nlt (a := 40) (b := t) ht (by decide))
  have e2 : (if (0 : Int32) < nI t then nI t else 0) = nI t := by
    by_cases h : t = 0
    · subst h; rfl
    · exact if_pos (show nI 0 < nI t from nI_lt (by omega) (by omega))
  refine j_aload_n (q := 1) dX3_renew_0 rfl (by rfl) ?_
  refine j_iload_n (q := 2) dX3_renew_1 rfl (by rfl) ?_
  refine j_puti (q := 5) dX3_renew_2 rfl fX3_19 p3_1 (by assumption) (by rfl) ?_
  refine j_aload_n (q := 6) dX3_renew_5 rfl (by rfl) ?_
  refine j_iconst (q := 7) (v := 0) dX3_renew_6 rfl (by decide) ?_
  refine j_iload_n (q := 8) dX3_renew_7 rfl (by rfl) ?_
  refine j_bipush (q := 10) (v := 40) dX3_renew_8 rfl (by decide) ?_
  refine j_mmin (q := 13) dX3_renew_10 rfl lX3_22 ⟨⟨by first | decide | (dsimp only [gRm]; omega), by first | exact Nat.le_of_ble_eq_true (by rfl) | (show 0 + 13 ≤ 40 * _; omega)⟩, by first | decide | exact Nat.zero_le _, by first | decide | exact Nat.zero_le _⟩ ?_
  rw [e1]
  refine j_mmax (q := 16) dX3_renew_13 rfl lX3_28 ⟨⟨by first | decide | (dsimp only [gRm]; omega), by first | exact Nat.le_of_ble_eq_true (by rfl) | (show 0 + 13 ≤ 40 * _; omega)⟩, by first | decide | exact Nat.zero_le _, by first | decide | exact Nat.zero_le _⟩ ?_
  rw [e2]
  refine j_puti (q := 19) dX3_renew_16 rfl fX3_15 p3_2 (by assumption) (by rfl) ?_
  refine j_iconst (q := 20) (v := 0) dX3_renew_19 rfl (by decide) ?_
  refine j_istore_n (q := 21) dX3_renew_20 rfl (by decide) ?_
  refine gJ.mm ?_ (K21 40 0 (by omega))
  rw [gZ_0]
/-- what is wrong with place p of a sheet -/
def fS (sz ln la : Int32) (p : Int) : Int32 := if sz < 0 then 1 else if ¬ la = ln then 3 else if p < 0 ∨ sz.toInt ≤ p then 2 else 0
theorem lt0 (i : Int64) : lg_cmp i 0 < 0 ↔ i.toInt < 0 := by
  rw [lgc_lt, Int64.lt_iff_toInt_lt]
  exact Iff.rfl
theorem ltS (i : Int64) (s : Int32) : lg_cmp i s.toInt64 < 0 ↔ i.toInt < s.toInt := by
  rw [lgc_lt, Int64.lt_iff_toInt_lt, Int32.toInt_toInt64]
theorem cH_faultAt (E : gEv) (σ : gSg) (m : gMem) (hi a : Nat) (la : Int32) (i : Int64) (hS : gSt σ a) : gCo E yX3_faultAt cX3_faultAt 4 (some .int) 0 [.ref a, .int la, .long i] σ m hi (gX (some (.int (fS (m.1 a 2) (m.1 a 1) la i.toInt))) m) := by
  refine gCo.of mwX3_faultAt (Nat.le_of_ble_eq_true rfl) ?_
  intro F hF
  obtain ⟨h0, h1⟩ := hS
  refine j_aload_n (q := 1) dX3_faultAt_0 rfl (by rfl) ?_
  refine j_geti (q := 4) dX3_faultAt_1 rfl fX3_15 (by assumption) (by rfl) ?_
  refine j_if_ge (q := 7) (tgt := 9) dX3_faultAt_4 rfl (by decide) (fun h4 => ?_) (fun h4 => ?_)
  · refine j_iload_n (q := 10) dX3_faultAt_9 rfl (by rfl) ?_
    refine j_aload_n (q := 11) dX3_faultAt_10 rfl (by rfl) ?_
    refine j_geti (q := 14) dX3_faultAt_11 rfl fX3_19 (by assumption) (by rfl) ?_
    refine j_icmp_eq (q := 17) (tgt := 19) dX3_faultAt_14 rfl (by decide) (fun h14 => ?_) (fun h14 => ?_)
    · refine j_lload_n (q := 20) dX3_faultAt_19 rfl (by rfl) ?_
      refine j_lconst (q := 21) (v := 0) dX3_faultAt_20 rfl (by decide) ?_
      refine j_lcmp (q := 22) dX3_faultAt_21 rfl ?_
      refine j_if_lt (q := 25) (tgt := 35) dX3_faultAt_22 rfl (by decide) (fun h22 => ?_) (fun h22 => ?_)
      · refine j_iconst (q := 36) (v := 2) dX3_faultAt_35 rfl (by decide) ?_
        refine j_goto (tgt := 40) dX3_faultAt_36 (by decide) ?_
        refine o_iret hF rfl dX3_faultAt_40 ?_
        unfold fS
        rw [if_neg (Int32.not_lt.mpr h4), if_neg (fun q => q h14)]
        first | (rw [if_pos (Or.inl ((lt0 i).mp h22))]; exact ⟨rfl, rfl⟩) | (rw [if_neg (fun q => q.elim (fun q => h22 ((lt0 i).mpr q)) (fun q => by have := (ltS i _).mp h32; omega))]; exact ⟨rfl, rfl⟩) | (rw [if_pos (Or.inr (Int.not_lt.mp (fun q => h32 ((ltS i _).mpr q))))]; exact ⟨rfl, rfl⟩)
      · refine j_lload_n (q := 26) dX3_faultAt_25 rfl (by rfl) ?_
        refine j_aload_n (q := 27) dX3_faultAt_26 rfl (by rfl) ?_
        refine j_geti (q := 30) dX3_faultAt_27 rfl fX3_15 (by assumption) (by rfl) ?_
        refine j_i2l (q := 31) dX3_faultAt_30 rfl ?_
        refine j_lcmp (q := 32) dX3_faultAt_31 rfl ?_
        refine j_if_lt (q := 35) (tgt := 39) dX3_faultAt_32 rfl (by decide) (fun h32 => ?_) (fun h32 => ?_)
        · refine j_iconst (q := 40) (v := 0) dX3_faultAt_39 rfl (by decide) ?_
          refine o_iret hF rfl dX3_faultAt_40 ?_
          unfold fS
          rw [if_neg (Int32.not_lt.mpr h4), if_neg (fun q => q h14)]
          first | (rw [if_pos (Or.inl ((lt0 i).mp h22))]; exact ⟨rfl, rfl⟩) | (rw [if_neg (fun q => q.elim (fun q => h22 ((lt0 i).mpr q)) (fun q => by have := (ltS i _).mp h32; omega))]; exact ⟨rfl, rfl⟩) | (rw [if_pos (Or.inr (Int.not_lt.mp (fun q => h32 ((ltS i _).mpr q))))]; exact ⟨rfl, rfl⟩)
        · refine j_iconst (q := 36) (v := 2) dX3_faultAt_35 rfl (by decide) ?_
          refine j_goto (tgt := 40) dX3_faultAt_36 (by decide) ?_
          refine o_iret hF rfl dX3_faultAt_40 ?_
          unfold fS
          rw [if_neg (Int32.not_lt.mpr h4), if_neg (fun q => q h14)]
          first | (rw [if_pos (Or.inl ((lt0 i).mp h22))]; exact ⟨rfl, rfl⟩) | (rw [if_neg (fun q => q.elim (fun q => h22 ((lt0 i).mpr q)) (fun q => by have := (ltS i _).mp h32; omega))]; exact ⟨rfl, rfl⟩) | (rw [if_pos (Or.inr (Int.not_lt.mp (fun q => h32 ((ltS i _).mpr q))))]; exact ⟨rfl, rfl⟩)
    · refine j_iconst (q := 18) (v := 3) dX3_faultAt_17 rfl (by decide) ?_
      refine o_iret hF rfl dX3_faultAt_18 ?_
      exact ⟨by unfold fS; rw [if_neg (Int32.not_lt.mpr h4), if_pos h14], rfl⟩
  · refine j_iconst (q := 8) (v := 1) dX3_faultAt_7 rfl (by decide) ?_
    refine o_iret hF rfl dX3_faultAt_8 ?_
    exact ⟨by unfold fS; rw [if_pos (Int32.not_le.mp h4)], rfl⟩
def f2S (sz ln la : Int32) (p : Int) : Int32 := if fS sz ln la p = 0 then fS sz ln la (p + 1) else fS sz ln la p
theorem cH_faultOfTwo (E : gEv) (σ : gSg) (m : gMem) (hi a : Nat) (la : Int32) (i : Int64) (p : Int) (hS : gSt σ a) (hp : i.toInt = p) (hp1 : (i + 1).toInt = p + 1) : gCo E yX3_faultOfTwo cX3_faultOfTwo 5 (some .int) 1 [.ref a, .int la, .long i] σ m hi (gX (some (.int (f2S (m.1 a 2) (m.1 a 1) la p))) m) := by
  refine gCo.of mwX3_faultOfTwo (Nat.le_of_ble_eq_true rfl) ?_
  intro F hF
  have hS0 := hS
  obtain ⟨h0, h1⟩ := hS
  subst hp
  have hA := cH_faultAt E σ m hi a la (i + 1) hS0
  rw [hp1] at hA
  refine j_aload_n (q := 1) dX3_faultOfTwo_0 rfl (by rfl) ?_
  refine j_iload_n (q := 2) dX3_faultOfTwo_1 rfl (by rfl) ?_
  refine j_lload_n (q := 3) dX3_faultOfTwo_2 rfl (by rfl) ?_
  refine o_callVi (q := 6) dX3_faultOfTwo_3 rfl lX3_31 mwX3_faultAt mvX3_faultAt cn3 (by assumption) (by rfl) rfl (Nat.le_of_ble_eq_true (by rfl)) (by first | decide | omega) (cH_faultAt E σ m hi a la i hS0) ?_
  refine j_istore (q := 8) dX3_faultOfTwo_6 rfl (by decide) ?_
  refine j_iload (q := 10) dX3_faultOfTwo_8 rfl (by rfl) ?_
  refine j_if_eq (q := 13) (tgt := 18) dX3_faultOfTwo_10 rfl (by decide) (fun h10 => ?_) (fun h10 => ?_)
  · refine j_aload_n (q := 19) dX3_faultOfTwo_18 rfl (by rfl) ?_
    refine j_iload_n (q := 20) dX3_faultOfTwo_19 rfl (by rfl) ?_
    refine j_lload_n (q := 21) dX3_faultOfTwo_20 rfl (by rfl) ?_
    refine j_lconst (q := 22) (v := 1) dX3_faultOfTwo_21 rfl (by decide) ?_
    refine j_ladd (q := 23) dX3_faultOfTwo_22 rfl ?_
    refine o_callVi (q := 26) dX3_faultOfTwo_23 rfl lX3_31 mwX3_faultAt mvX3_faultAt cn3 (by assumption) (by rfl) rfl (Nat.le_of_ble_eq_true (by rfl)) (by first | decide | omega) (hA) ?_
    refine o_iret hF rfl dX3_faultOfTwo_26 ?_
    first | (exact ⟨by unfold f2S; rw [if_pos h10], rfl⟩) | (exact ⟨by unfold f2S; rw [if_neg h10], rfl⟩)
  · refine j_iload (q := 15) dX3_faultOfTwo_13 rfl (by rfl) ?_
    refine j_goto (tgt := 26) dX3_faultOfTwo_15 (by decide) ?_
    refine o_iret hF rfl dX3_faultOfTwo_26 ?_
    first | (exact ⟨by unfold f2S; rw [if_pos h10], rfl⟩) | (exact ⟨by unfold f2S; rw [if_neg h10], rfl⟩)
theorem cH_put (E : gEv) (σ : gSg) (m : gMem) (hi a k s : Nat) (v : Int32) (hS : gSt σ a) (hs : m.1 a 2 = nI s) (hks : k < s) (hs40 : s ≤ 40) : gCo E yX3_put cX3_put 3 (none) 0 [.ref a, .int (nI k), .int v] σ m hi (gX none (gW m (a + 1) k (if m.1 a 1 = 0 then v.toInt16.toInt32 else v))) := by
  refine gCo.of mwX3_put (Nat.le_of_ble_eq_true rfl) ?_
  intro F hF
  obtain ⟨h0, h1⟩ := hS
  have hix : gIdx (nI k) 40 k := gIdx.of rfl (by omega) (by decide)
  refine j_iload_n (q := 1) dX3_put_0 rfl (by rfl) ?_
  refine j_if_lt (q := 4) (tgt := 31) dX3_put_1 rfl (by decide) (fun h1' => ?_) (fun h1' => ?_)
  · exact absurd h1' (nI_pos (by omega))
  refine j_iload_n (q := 5) dX3_put_4 rfl (by rfl) ?_
  refine j_aload_n (q := 6) dX3_put_5 rfl (by rfl) ?_
  refine j_geti (q := 9) dX3_put_6 rfl fX3_15 (by assumption) (by rfl) ?_
  rw [hs]
  refine j_icmp_ge (q := 12) (tgt := 31) dX3_put_9 rfl (by decide) (fun h9 => ?_) (fun h9 => ?_)
  · exact absurd h9 (nI_ge hks (by omega))
  refine j_aload_n (q := 13) dX3_put_12 rfl (by rfl) ?_
  refine j_getr (q := 16) dX3_put_13 rfl fX3_9 (by assumption) (by rfl) ?_
  refine j_iload_n (q := 17) dX3_put_16 rfl (by rfl) ?_
  refine j_aload_n (q := 18) dX3_put_17 rfl (by rfl) ?_
  refine j_geti (q := 21) dX3_put_18 rfl fX3_19 (by assumption) (by rfl) ?_
  refine j_if_ne (q := 24) (tgt := 29) dX3_put_21 rfl (by decide) (fun h21 => ?_) (fun h21 => ?_)
  · refine j_iload_n (q := 30) dX3_put_29 rfl (by rfl) ?_
    refine j_iastore (q := 31) dX3_put_30 rfl (by assumption) (by assumption) ?_
    refine o_vret hF rfl dX3_put_31 ?_
    rw [if_neg h21]
    exact ⟨rfl, rfl⟩
  · refine j_iload_n (q := 25) dX3_put_24 rfl (by rfl) ?_
    refine j_i2s (q := 26) dX3_put_25 rfl ?_
    refine j_goto (tgt := 30) dX3_put_26 (by decide) ?_
    refine j_iastore (q := 31) dX3_put_30 rfl (by assumption) (by assumption) ?_
    refine o_vret hF rfl dX3_put_31 ?_
    rw [if_pos (by first | exact h21 | exact Decidable.not_not.mp h21)]
    exact ⟨rfl, rfl⟩
theorem l2n {i : Int64} {k : Nat} (h : i.toInt = (k : Int)) (hk : k < 2 ^ 31) : i.toInt32 = nI k := by
  apply Int32.toInt_inj.mp
  rw [Int64.toInt_toInt32, h, nI_toInt hk]
  exact Int.bmod_eq_of_le (by omega) (by omega)
theorem cH_cellAt (E : gEv) (σ : gSg) (m : gMem) (hi a k s : Nat) (i : Int64) (hS : gSt σ a) (hs : m.1 a 2 = nI s) (hk : i.toInt = (k : Int)) (hks : k < s) (hs40 : s ≤ 40) : gCo E yX3_cellAt cX3_cellAt 3 (some .int) 0 [.ref a, .long i] σ m hi (gX (some (.int (m.1 (a + 1) k))) m) := by
  refine gCo.of mwX3_cellAt (Nat.le_of_ble_eq_true rfl) ?_
  intro F hF
  obtain ⟨h0, h1⟩ := hS
  have hix : gIdx i.toInt32 40 k := gIdx.of (l2n hk (by omega)) (by omega) (by decide)
  refine j_lload_n (q := 1) dX3_cellAt_0 rfl (by rfl) ?_
  refine j_lconst (q := 2) (v := 0) dX3_cellAt_1 rfl (by decide) ?_
  refine j_lcmp (q := 3) dX3_cellAt_2 rfl ?_
  refine j_if_lt (q := 6) (tgt := 26) dX3_cellAt_3 rfl (by decide) (fun h3 => ?_) (fun h3 => ?_)
  · exact absurd ((lt0 i).mp h3) (by omega)
  refine j_lload_n (q := 7) dX3_cellAt_6 rfl (by rfl) ?_
  refine j_aload_n (q := 8) dX3_cellAt_7 rfl (by rfl) ?_
  refine j_geti (q := 11) dX3_cellAt_8 rfl fX3_15 (by assumption) (by rfl) ?_
  refine j_i2l (q := 12) dX3_cellAt_11 rfl ?_
  refine j_lcmp (q := 13) dX3_cellAt_12 rfl ?_
  refine j_if_ge (q := 16) (tgt := 26) dX3_cellAt_13 rfl (by decide) (fun h13 => ?_) (fun h13 => ?_)
  · exact absurd ((ltS i _).mpr (by rw [hs, nI_toInt (by omega)]; omega)) (Int32.not_lt.mpr h13)
  refine j_aload_n (q := 17) dX3_cellAt_16 rfl (by rfl) ?_
  refine j_getr (q := 20) dX3_cellAt_17 rfl fX3_9 (by assumption) (by rfl) ?_
  refine j_lload_n (q := 21) dX3_cellAt_20 rfl (by rfl) ?_
  refine j_l2i (q := 22) dX3_cellAt_21 rfl ?_
  refine j_iaload (q := 23) dX3_cellAt_22 rfl (by assumption) (by assumption) ?_
  refine j_goto (tgt := 27) dX3_cellAt_23 (by decide) ?_
  refine o_iret hF rfl dX3_cellAt_27 ?_
  exact ⟨rfl, rfl⟩
/-- a sheet is nothing, or of at most 40 cells -/
def okH (m : gMem) (x : Nat) : Prop := ∀ j, j < 4 → (m.1 (x + 86 + 2 * j) 2 = -4 ∨ ∃ s, s ≤ 40 ∧ m.1 (x + 86 + 2 * j) 2 = nI s)
abbrev gdS (k la n : Int32) : Prop := (0 ≤ k ∧ k ≤ 3) ∧ (0 ≤ la ∧ la ≤ 2) ∧ n ≤ 40
theorem cX_sheet (E : gEv) (σ : gSg) (m : gMem) (hi x : Nat) (k la n : Int32) (hN : gN σ x) : gCo E yX6_sheet cX6_sheet 4 (some .int) 2 [.ref x, .int k, .int la, .int n] σ m hi (gX (some (.int (if gdS k la n then (if n < 0 then -14 else 1) else -1))) (if gdS k la n ∧ 0 ≤ n then rnM m (x + 86 + 2 * k.toNatClampNeg) la n.toNatClampNeg else m)) := by
  refine gCo.of mwX6_sheet (Nat.le_of_ble_eq_true rfl) ?_
  intro F hF
  have hx := hN.1
  obtain ⟨fs, h29, hfs⟩ := hN.sf
  refine j_iload_n (q := 1) dX6_sheet_0 rfl (by rfl) ?_
  refine j_iconst (q := 2) (v := 0) dX6_sheet_1 rfl (by decide) ?_
  refine j_iconst (q := 3) (v := 3) dX6_sheet_2 rfl (by decide) ?_
  refine o_callSi (q := 6) dX6_sheet_3 rfl lX6_66 mwX6_within msX6_within (by rfl) rfl (Nat.le_of_ble_eq_true (by rfl)) (by first | decide | omega) (cX_within E σ m hi _ _ _) ?_
  refine j_if_eq (q := 9) (tgt := 22) dX6_sheet_6 rfl (by decide) (fun h6 => ?_) (fun h6 => ?_)
  · refine j_iconst (q := 23) (v := (-1)) dX6_sheet_22 rfl (by decide) ?_
    refine o_iret hF rfl dX6_sheet_23 ?_
    rw [if_neg (fun h => sWi_0 h6 h.1), if_neg (fun h => sWi_0 h6 h.1.1)]
    exact ⟨rfl, rfl⟩
  refine j_iload_n (q := 10) dX6_sheet_9 rfl (by rfl) ?_
  refine o_callSi (q := 13) dX6_sheet_10 rfl lX6_292 mwX6_isLane msX6_isLane (by rfl) rfl (Nat.le_of_ble_eq_true (by rfl)) (by first | decide | omega) (cX_isLane E σ m hi _) ?_
  refine j_if_eq (q := 16) (tgt := 22) dX6_sheet_13 rfl (by decide) (fun h13 => ?_) (fun h13 => ?_)
  · refine j_iconst (q := 23) (v := (-1)) dX6_sheet_22 rfl (by decide) ?_
    refine o_iret hF rfl dX6_sheet_23 ?_
    rw [if_neg (fun h => sWi_0 h13 h.2.1), if_neg (fun h => sWi_0 h13 h.1.2.1)]
    exact ⟨rfl, rfl⟩
  refine j_iload_n (q := 17) dX6_sheet_16 rfl (by rfl) ?_
  refine j_bipush (q := 19) (v := 40) dX6_sheet_17 rfl (by decide) ?_
  refine j_icmp_le (q := 22) (tgt := 24) dX6_sheet_19 rfl (by decide) (fun h19 => ?_) (fun h19 => ?_)
  · have hg : gdS k la n := ⟨sWi_1 h6, sWi_1 h13, h19⟩
    rw [if_pos hg] at hF
    refine j_iload_n (q := 25) dX6_sheet_24 rfl (by rfl) ?_
    refine j_if_ge (q := 28) (tgt := 31) dX6_sheet_25 rfl (by decide) (fun h25 => ?_) (fun h25 => ?_)
    · rw [if_neg (Int32.not_lt.mpr h25), if_pos ⟨hg, h25⟩] at hF
      obtain ⟨j, hj, ej⟩ := swN_wi (n := 3) (by decide) h6
      obtain ⟨t, ht, et⟩ := nI_of2 (x := n) (M := 40) (n := 40) (by decide) (Int32.not_lt.mpr h25) h19
      subst ej
      subst et
      rw [nI_clamp (by omega), nI_clamp (by omega)] at hF
      have hix : gIdx (nI j) 4 j := gIdx.of rfl (by omega) (by decide)
      have hfj := hfs j (by omega)
      have hs := (hN.st j (by omega)).1
      refine j_aload_n (q := 32) dX6_sheet_31 rfl (by rfl) ?_
      refine j_getr (q := 35) dX6_sheet_32 rfl fX6_61 (by assumption) (by rfl) ?_
      refine j_iload_n (q := 36) dX6_sheet_35 rfl (by rfl) ?_
      refine j_aaload (q := 37) dX6_sheet_36 rfl (by assumption) (by decide) (by assumption) (by assumption) ?_
      refine j_iload_n (q := 38) dX6_sheet_37 rfl (by rfl) ?_
      refine j_iload_n (q := 39) dX6_sheet_38 rfl (by rfl) ?_
      refine o_callVv (q := 42) dX6_sheet_39 rfl lX6_295 mwX3_renew mvX3_renew cn3 (by assumption) (by rfl) rfl (Nat.le_of_ble_eq_true (by rfl)) (by first | decide | omega) (cH_renew E σ m hi (x + 86 + 2 * j) t la (hN.st j (by omega)) ht) ?_
      refine j_iconst (q := 43) (v := 1) dX6_sheet_42 rfl (by decide) ?_
      refine o_iret hF rfl dX6_sheet_43 ?_
      exact ⟨rfl, rfl⟩
    · rw [if_pos (Int32.not_le.mp h25), if_neg (fun h => h25 h.2)] at hF
      refine j_bipush (q := 30) (v := (-14)) dX6_sheet_28 rfl (by decide) ?_
      refine o_iret hF rfl dX6_sheet_30 ?_
      exact ⟨rfl, rfl⟩
  · refine j_iconst (q := 23) (v := (-1)) dX6_sheet_22 rfl (by decide) ?_
    refine o_iret hF rfl dX6_sheet_23 ?_
    rw [if_neg (fun h => h19 h.2.2), if_neg (fun h => h19 h.1.2.2)]
    exact ⟨rfl, rfl⟩
def xLay (m : gMem) (x : Nat) (k i : Int32) : Int32 := if 0 ≤ k ∧ k ≤ 3 then (if fS (m.1 (x + 86 + 2 * k.toNatClampNeg) 2) 0 0 i.toInt = 0 then 1 else -10 - fS (m.1 (x + 86 + 2 * k.toNatClampNeg) 2) 0 0 i.toInt) else -1
def lyM (m : gMem) (x : Nat) (k i v : Int32) : gMem := gW m (x + 86 + 2 * k.toNatClampNeg + 1) i.toNatClampNeg (if m.1 (x + 86 + 2 * k.toNatClampNeg) 1 = 0 then v.toInt16.toInt32 else v)
theorem fS_same (sz ln : Int32) (p : Int) : fS sz ln ln p = fS sz 0 0 p := by
  unfold fS
  rw [if_neg (fun q : ¬ ln = ln => q rfl), if_neg (fun q : ¬ (0 : Int32) = 0 => q rfl)]
theorem fS_ok {sz ln la : Int32} {p : Int} (h : fS sz ln la p = 0) (hs : sz = -4 ∨ ∃ s, s ≤ 40 ∧ sz = nI s) : ∃ s j : Nat, s ≤ 40 ∧ sz = nI s ∧ p = (j : Int) ∧ j < s := by
  unfold fS at h
  by_cases h1 : sz < 0
  · rw [if_pos h1] at h; exact absurd h (by decide)
  rw [if_neg h1] at h
  by_cases h2 : ¬ la = ln
  · rw [if_pos h2] at h; exact absurd h (by decide)
  rw [if_neg h2] at h
  by_cases h3 : p < 0 ∨ sz.toInt ≤ p
  · rw [if_pos h3] at h; exact absurd h (by decide)
  rcases hs with hs | ⟨s, hs, es⟩
  · subst hs; exact absurd (by decide) h1
  · subst es
    rw [nI_toInt (by omega)] at h3
    exact ⟨s, p.toNat, hs, rfl, by omega, by omega⟩
theorem cX_lay (E : gEv) (σ : gSg) (m : gMem) (hi x : Nat) (k i v : Int32) (hN : gN σ x) (hH : okH m x) : gCo E yX6_lay cX6_lay 5 (some .int) 1 [.ref x, .int k, .int i, .int v] σ m hi (gX (some (.int (xLay m x k i))) (if xLay m x k i = 1 then lyM m x k i v else m)) := by
  refine gCo.of mwX6_lay (Nat.le_of_ble_eq_true rfl) ?_
  intro F hF
  have hx := hN.1
  obtain ⟨fs, h29, hfs⟩ := hN.sf
  refine j_iload_n (q := 1) dX6_lay_0 rfl (by rfl) ?_
  refine j_iconst (q := 2) (v := 0) dX6_lay_1 rfl (by decide) ?_
  refine j_iconst (q := 3) (v := 3) dX6_lay_2 rfl (by decide) ?_
  refine o_callSi (q := 6) dX6_lay_3 rfl lX6_66 mwX6_within msX6_within (by rfl) rfl (Nat.le_of_ble_eq_true (by rfl)) (by first | decide | omega) (cX_within E σ m hi _ _ _) ?_
  refine j_if_ne (q := 9) (tgt := 11) dX6_lay_6 rfl (by decide) (fun h6 => ?_) (fun h6 => ?_)
  · obtain ⟨j, hj, ej⟩ := swN_wi (n := 3) (by decide) h6
    have hg := sWi_1 h6
    have hix : gIdx k 4 j := gIdx.of ej (by omega) (by decide)
    have hfj := hfs j (by omega)
    have hs := (hN.st j (by omega)).1
    have hA := cH_faultAt E σ m hi (x + 86 + 2 * j) (m.1 (x + 86 + 2 * j) 1) i.toInt64 (hN.st j (by omega))
    rw [Int32.toInt_toInt64, fS_same] at hA
    have hcl : k.toNatClampNeg = j := by rw [ej]; exact nI_clamp (by omega)
    unfold xLay at hF
    rw [if_pos hg, hcl] at hF
    refine j_aload_n (q := 12) dX6_lay_11 rfl (by rfl) ?_
    refine j_getr (q := 15) dX6_lay_12 rfl fX6_61 (by assumption) (by rfl) ?_
    refine j_iload_n (q := 16) dX6_lay_15 rfl (by rfl) ?_
    refine j_aaload (q := 17) dX6_lay_16 rfl (by assumption) (by decide) (by assumption) (by assumption) ?_
    refine j_aload_n (q := 18) dX6_lay_17 rfl (by rfl) ?_
    refine j_getr (q := 21) dX6_lay_18 rfl fX6_61 (by assumption) (by rfl) ?_
    refine j_iload_n (q := 22) dX6_lay_21 rfl (by rfl) ?_
    refine j_aaload (q := 23) dX6_lay_22 rfl (by assumption) (by decide) (by assumption) (by assumption) ?_
    refine j_geti (q := 26) dX6_lay_23 rfl fX6_298 (by assumption) (by rfl) ?_
    refine j_iload_n (q := 27) dX6_lay_26 rfl (by rfl) ?_
    refine j_i2l (q := 28) dX6_lay_27 rfl ?_
    refine o_callVi (q := 31) dX6_lay_28 rfl lX6_301 mwX3_faultAt mvX3_faultAt cn3 (by assumption) (by rfl) rfl (Nat.le_of_ble_eq_true (by rfl)) (by first | decide | omega) (hA) ?_
    refine j_istore (q := 33) dX6_lay_31 rfl (by decide) ?_
    refine j_iload (q := 35) dX6_lay_33 rfl (by rfl) ?_
    refine j_if_eq (q := 38) (tgt := 44) dX6_lay_35 rfl (by decide) (fun h35 => ?_) (fun h35 => ?_)
    · rw [if_pos h35, if_pos rfl] at hF
      obtain ⟨s, q, hs40, es, ep, hq⟩ := fS_ok h35 (hH j (by omega))
      have ei : i = nI q := Int32.toInt_inj.mp (by rw [ep, nI_toInt (by omega)])
      subst ei
      unfold lyM at hF
      rw [nI_clamp (by omega), hcl] at hF
      refine j_aload_n (q := 45) dX6_lay_44 rfl (by rfl) ?_
      refine j_getr (q := 48) dX6_lay_45 rfl fX6_61 (by assumption) (by rfl) ?_
      refine j_iload_n (q := 49) dX6_lay_48 rfl (by rfl) ?_
      refine j_aaload (q := 50) dX6_lay_49 rfl (by assumption) (by decide) (by assumption) (by assumption) ?_
      refine j_iload_n (q := 51) dX6_lay_50 rfl (by rfl) ?_
      refine j_iload_n (q := 52) dX6_lay_51 rfl (by rfl) ?_
      refine o_callVv (q := 55) dX6_lay_52 rfl lX6_305 mwX3_put mvX3_put cn3 (by assumption) (by rfl) rfl (Nat.le_of_ble_eq_true (by rfl)) (by first | decide | omega) (cH_put E σ m hi (x + 86 + 2 * j) q s v (hN.st j (by omega)) es hq hs40) ?_
      refine j_iconst (q := 56) (v := 1) dX6_lay_55 rfl (by decide) ?_
      refine o_iret hF rfl dX6_lay_56 ?_
      exact ⟨rfl, rfl⟩
    · rw [if_neg h35, if_neg] at hF
      · refine j_bipush (q := 40) (v := (-10)) dX6_lay_38 rfl (by decide) ?_
        refine j_iload (q := 42) dX6_lay_40 rfl (by rfl) ?_
        refine j_isub (q := 43) dX6_lay_42 rfl ?_
        refine o_iret hF rfl dX6_lay_43 ?_
        exact ⟨rfl, rfl⟩
      · unfold fS
        by_cases h1 : m.1 (x + 86 + 2 * j) 2 < 0
        · rw [if_pos h1]; decide
        rw [if_neg h1, if_neg (fun q : ¬ (0 : Int32) = 0 => q rfl)]
        by_cases h3 : i.toInt < 0 ∨ (m.1 (x + 86 + 2 * j) 2).toInt ≤ i.toInt
        · rw [if_pos h3]; decide
        · rw [if_neg h3]; decide
  · unfold xLay at hF
    rw [if_neg (sWi_0 h6), if_neg (by decide)] at hF
    refine j_iconst (q := 10) (v := (-1)) dX6_lay_9 rfl (by decide) ?_
    refine o_iret hF rfl dX6_lay_10 ?_
    exact ⟨rfl, rfl⟩
theorem addR_cnt (g : Nat → Int32) {r : Nat} (hr : r < 12) (a b : Int32) : cnt (addR g r a b) = cnt g := by
  unfold cnt addR
  rw [pk_un (by omega), pk_un (by omega), pk_un (by omega)]
theorem addR_rws {g : Nat → Int32} {r : Nat} (hg : g 49 = nI r) (hr : r < 12) (a b : Int32) : rws (addR g r a b) = r + 1 := by
  unfold rws
  rw [addR_49, hg, nI_1, nI_clamp (by omega)]
theorem addR_veq {g T : Nat → Int32} (h : veq g T) (hc : okC g) {r : Nat} (hg : g 49 = nI r) (hr : r < 12) (a b : Int32) : veq (addR g r a b) (addR T r a b) := by
  have h4 := cnt_le hc
  have hrw : rws g = r := by unfold rws; rw [hg, nI_clamp (by omega)]
  intro i hi
  unfold vis at hi
  rw [addR_cnt g hr, addR_rws hg hr] at hi
  unfold addR
  by_cases h49 : i = 49
  · subst h49; rw [pk_us, pk_us, h.a49]
  rw [pk_un h49, pk_un h49]
  by_cases h1 : i = 37 + r
  · subst h1; rw [pk_us, pk_us]
  rw [pk_un h1, pk_un h1]
  by_cases h2 : i = 25 + r
  · subst h2; rw [pk_us, pk_us]
  rw [pk_un h2, pk_un h2]
  refine h i ?_
  unfold vis
  rw [hrw]
  omega
theorem addR_0 {g : Nat → Int32} (h : pg0 g) {r : Nat} (hr : r < 12) (a b : Int32) : pg0 (addR g r a b) := upd_0 (upd_0 (upd_0 h (by omega) _) (by omega) _) (by omega) _
theorem addR_C {g : Nat → Int32} (h : okC g) {r : Nat} (hr : r < 12) (a b : Int32) : okC (addR g r a b) := ((h.up (by omega) _).up (by omega) _).up (by omega) _
theorem addR_B {g : Nat → Int32} {bb : Nat} (h : okB g bb) {r : Nat} (hg : g 49 = nI r) (hr : r < 12) (a b : Int32) : okB (addR g r a b) bb := by
  obtain ⟨r', h1, e1, e2, e3, e4⟩ := h
  refine ⟨r + 1, h1, by rw [addR_49, hg, nI_1], by omega, ?_, e4⟩
  unfold addR
  rw [pk_un (by omega), pk_un (by omega), pk_un (by omega)]
  exact e3
theorem xAdd_veq {g T : Nat → Int32} {b : Nat} (h : veq g T) (hc : okC g) (hb : okB g b) (w c : Int32) : (xAdd T w c).1 = (xAdd g w c).1 ∧ veq (xAdd g w c).2 (xAdd T w c).2 := by
  obtain ⟨r, h1, e1, e2, e3, e4⟩ := hb
  have hrw : rws g = r := by unfold rws; rw [e1, nI_clamp (by omega)]
  unfold xAdd
  by_cases hgood : (0 ≤ w ∧ w ≤ 9) ∧ (0 ≤ c ∧ c ≤ 4)
  · rw [if_pos hgood, if_pos hgood, h.r, hrw]
    by_cases hr : r < 12
    · rw [if_pos hr, if_pos hr, h.a49]
      exact ⟨rfl, addR_veq h hc e1 hr w c⟩
    · rw [if_neg hr, if_neg hr]
      exact ⟨rfl, h⟩
  · rw [if_neg hgood, if_neg hgood]
    exact ⟨rfl, h⟩
theorem xAdd_ok {g : Nat → Int32} {b : Nat} (hc : okC g) (hb : okB g b) (w c : Int32) : okC (xAdd g w c).2 ∧ okB (xAdd g w c).2 b := by
  have hb0 := hb
  obtain ⟨r, h1, e1, e2, e3, e4⟩ := hb
  have hrw : rws g = r := by unfold rws; rw [e1, nI_clamp (by omega)]
  unfold xAdd
  by_cases hgood : (0 ≤ w ∧ w ≤ 9) ∧ (0 ≤ c ∧ c ≤ 4)
  · rw [if_pos hgood, hrw]
    by_cases hr : r < 12
    · rw [if_pos hr]
      exact ⟨addR_C hc hr w c, addR_B hb0 e1 hr w c⟩
    · rw [if_neg hr]
      exact ⟨hc, hb0⟩
  · rw [if_neg hgood]
    exact ⟨hc, hb0⟩
theorem xAdd_0 {g : Nat → Int32} (h : pg0 g) (w c : Int32) : pg0 (xAdd g w c).2 := by
  unfold xAdd
  by_cases hgood : (0 ≤ w ∧ w ≤ 9) ∧ (0 ≤ c ∧ c ≤ 4)
  · rw [if_pos hgood]
    by_cases hr : rws g < 12
    · rw [if_pos hr]
      exact addR_0 h hr w c
    · rw [if_neg hr]; exact h
  · rw [if_neg hgood]; exact h
abbrev rdT : Type := Int32 × (Nat → Int32) × Int32 × Bool
def rdR (sz ln la : Int32) (C : Nat → Int32) (f : Int) : Nat → Nat → (Nat → Int32) → rdT
  | 0, i, g => (nI i, g, 0, true)
  | k + 1, i, g => if f2S sz ln la (f + 2 * i) = 0 then (if (xAdd g (C (f + 2 * i).toNat) (C (f + 2 * i + 1).toNat)).1 < 0 then (-20 - nI i, g, 0, false) else rdR sz ln la C f k (i + 1) (xAdd g (C (f + 2 * i).toNat) (C (f + 2 * i + 1).toNat)).2) else (nI i, g, f2S sz ln la (f + 2 * i), true)
abbrev gdR (k la n : Int32) : Prop := (0 ≤ k ∧ k ≤ 3) ∧ (0 ≤ la ∧ la ≤ 2) ∧ (0 ≤ n ∧ n ≤ 20)
def xRead (m : gMem) (x : Nat) (k la f n : Int32) : rdT := if gdR k la n then rdR (m.1 (x + 86 + 2 * k.toNatClampNeg) 2) (m.1 (x + 86 + 2 * k.toNatClampNeg) 1) la (m.1 (x + 86 + 2 * k.toNatClampNeg + 1)) f.toInt n.toNatClampNeg 0 (pgC m (x + 1)) else (-1, pgC m (x + 1), 0, false)
def rdP (m : gMem) (x : Nat) (R : rdT) (m' : gMem) : Prop := (R.2.2.2 = false → scr x m m') ∧ (R.2.2.2 = true → ∃ P, veq R.2.1 P ∧ pg0 P ∧ scr x (gW (gP m (x + 1) P) x 12 R.2.2.1) m')
theorem scr.w {x : Nat} {m m' : gMem} (h : scr x m m') (a k : Nat) (v : Int32) : scr x (gW m a k v) (gW m' a k v) := by
  intro q hq
  funext r
  rw [gW_1, gW_1, h q hq]
theorem scr.p {x : Nat} {m m' : gMem} (h : scr x m m') (a : Nat) (g : Nat → Int32) : scr x (gP m a g) (gP m' a g) := by
  intro q hq
  funext r
  cases hx : gIxP a q r with
  | none => rw [gP_none hx, gP_none hx, h q hq]
  | some i => rw [gP_some hx, gP_some hx]
theorem rdI {f : Int32} {i : Nat} (hi : i ≤ 20) : (f.toInt64 + 2 * (nI i).toInt64).toInt = f.toInt + 2 * i := by
  have h1 := f.toInt_lt
  have h2 := f.le_toInt
  have e : (2 * (nI i).toInt64 : Int64).toInt = 2 * (i : Int) := by
    rw [Int64.toInt_mul, Int32.toInt_toInt64, nI_toInt (by omega)]
    exact Int.bmod_eq_of_le (by show _ ≤ (2 : Int) * i; omega) (by show (2 : Int) * i < _; omega)
  rw [Int64.toInt_add, e, Int32.toInt_toInt64]
  exact Int.bmod_eq_of_le (by omega) (by omega)
theorem rdI1 {f : Int32} {i : Nat} (hi : i ≤ 20) : (f.toInt64 + 2 * (nI i).toInt64 + 1).toInt = f.toInt + 2 * i + 1 := by
  have h1 := f.toInt_lt
  have h2 := f.le_toInt
  rw [Int64.toInt_add, rdI hi, show (1 : Int64).toInt = 1 from rfl]
  exact Int.bmod_eq_of_le (by omega) (by omega)
theorem cX_read (E : gEv) (σ : gSg) (m : gMem) (hi x : Nat) (k la f n : Int32) (hN : gN σ x) (ho : okN m x) (hH : okH m x) : gCo E yX6_read cX6_read 11 (some .int) 4 [.ref x, .int k, .int la, .int f, .int n] σ m hi (fun v' m' => v' = some (.int (xRead m x k la f n).1) ∧ rdP m x (xRead m x k la f n) m') := by
  refine gCo.of mwX6_read (Nat.le_of_ble_eq_true rfl) ?_
  intro F hF
  have hx := hN.1
  have h1 := hN.2.1.1
  obtain ⟨fs, h29, hfs⟩ := hN.sf
  have hbad : ¬ gdR k la n → xRead m x k la f n = (-1, pgC m (x + 1), 0, false) := fun h => by unfold xRead; rw [if_neg h]
  refine j_iload_n (q := 1) dX6_read_0 rfl (by rfl) ?_
  refine j_iconst (q := 2) (v := 0) dX6_read_1 rfl (by decide) ?_
  refine j_iconst (q := 3) (v := 3) dX6_read_2 rfl (by decide) ?_
  refine o_callSi (q := 6) dX6_read_3 rfl lX6_66 mwX6_within msX6_within (by rfl) rfl (Nat.le_of_ble_eq_true (by rfl)) (by first | decide | omega) (cX_within E σ m hi _ _ _) ?_
  refine j_if_eq (q := 9) (tgt := 27) dX6_read_6 rfl (by decide) (fun h6 => ?_) (fun h6 => ?_)
  · refine j_iconst (q := 28) (v := (-1)) dX6_read_27 rfl (by decide) ?_
    refine o_iret hF rfl dX6_read_28 ?_
    rw [hbad (fun h => sWi_0 h6 h.1)]
    exact ⟨rfl, fun _ => scr.rf x m, fun h => by cases h⟩
  refine j_iload_n (q := 10) dX6_read_9 rfl (by rfl) ?_
  refine o_callSi (q := 13) dX6_read_10 rfl lX6_292 mwX6_isLane msX6_isLane (by rfl) rfl (Nat.le_of_ble_eq_true (by rfl)) (by first | decide | omega) (cX_isLane E σ m hi _) ?_
  refine j_if_eq (q := 16) (tgt := 27) dX6_read_13 rfl (by decide) (fun h13 => ?_) (fun h13 => ?_)
  · refine j_iconst (q := 28) (v := (-1)) dX6_read_27 rfl (by decide) ?_
    refine o_iret hF rfl dX6_read_28 ?_
    rw [hbad (fun h => sWi_0 h13 h.2.1)]
    exact ⟨rfl, fun _ => scr.rf x m, fun h => by cases h⟩
  refine j_iload (q := 18) dX6_read_16 rfl (by rfl) ?_
  refine j_iconst (q := 19) (v := 0) dX6_read_18 rfl (by decide) ?_
  refine j_bipush (q := 21) (v := 20) dX6_read_19 rfl (by decide) ?_
  refine o_callSi (q := 24) dX6_read_21 rfl lX6_66 mwX6_within msX6_within (by rfl) rfl (Nat.le_of_ble_eq_true (by rfl)) (by first | decide | omega) (cX_within E σ m hi _ _ _) ?_
  refine j_if_ne (q := 27) (tgt := 29) dX6_read_24 rfl (by decide) (fun h24 => ?_) (fun h24 => ?_)
  · have hg : gdR k la n := ⟨sWi_1 h6, sWi_1 h13, sWi_1 h24⟩
    obtain ⟨j, hj, ej⟩ := swN_wi (n := 3) (by decide) h6
    obtain ⟨t, ht, et⟩ := swN_wi (n := 20) (by decide) h24
    subst ej
    subst et
    have eR : xRead m x (nI j) la f (nI t) = rdR (m.1 (x + 86 + 2 * j) 2) (m.1 (x + 86 + 2 * j) 1) la (m.1 (x + 86 + 2 * j + 1)) f.toInt t 0 (pgC m (x + 1)) := by
      unfold xRead
      rw [if_pos hg, nI_clamp (by omega), nI_clamp (by omega)]
    rw [eR] at hF
    have hix : gIdx (nI j) 4 j := gIdx.of rfl (by omega) (by decide)
    have hfj := hfs j (by omega)
    have hs := (hN.st j (by omega)).1
    have hsh := hH j (by omega)
    have K134 : ∀ (c8 : Int32) (T g : Nat → Int32) (fo ca : Int32) (o9 : Option Value), rdR (m.1 (x + 86 + 2 * j) 2) (m.1 (x + 86 + 2 * j) 1) la (m.1 (x + 86 + 2 * j + 1)) f.toInt t 0 (pgC m (x + 1)) = (ca, g, fo, true) → veq g T → pg0 T → okC g → okB g 9999 → (gJ E yX6_read cX6_read 11 (some .int) (gRm 4 0 0) F 134 ([some (.ref x), some (.int (nI j)), some (.int la), some (.int f), some (.int (nI t)), some (.ref (x + 9)), some (.int fo), some (.int ca), some (.int c8), o9, none]) ([]) 0 0 σ (gP m (x + 9) T) hi) := by
      intro c8 T g fo ca o9 he hv h0 hc hb
      rw [he] at hF
      have hT := hb.v hv
      have hB := cG_become E σ (gP m (x + 9) T) hi (x + 1) (x + 9) hN.2.1 hN.2.2.1 (by unfold gAp; omega) (by rw [pgC_gP h0]; exact hc.v hv) (by rw [pgC_gP h0]; obtain ⟨r, h, q1, q2, -, -⟩ := hT; exact ⟨r, q1, q2⟩)
      rw [pgC_gP h0, pgC_ne (by unfold gAp; omega)] at hB
      refine j_aload_n (q := 135) dX6_read_134 rfl (by rfl) ?_
      refine j_getr (q := 138) dX6_read_135 rfl fX6_10 (by assumption) (by rfl) ?_
      refine j_aload (q := 140) dX6_read_138 rfl (by rfl) ?_
      refine o_callVv (q := 143) dX6_read_140 rfl lX6_93 mwX0_become mvX0_become cn0 (by assumption) (by rfl) rfl (Nat.le_of_ble_eq_true (by rfl)) (by first | decide | omega) (hB) ?_
      refine j_aload_n (q := 144) dX6_read_143 rfl (by rfl) ?_
      refine j_iload (q := 146) dX6_read_144 rfl (by rfl) ?_
      refine j_puti (q := 149) dX6_read_146 rfl fX6_317 p6_12 (by assumption) (by rfl) ?_
      refine j_iload (q := 151) dX6_read_149 rfl (by rfl) ?_
      refine o_iret hF rfl dX6_read_151 ?_
      refine ⟨rfl, ?_⟩
      unfold rdP
      refine ⟨fun h => absurd h (show ¬ true = false by decide), fun _ => ⟨bec T (pgC m (x + 1)), hv.tr (bec_veq T _), bec_0 (pgC_0 _ _), ?_⟩⟩
      exact (((scr.rf x m).t T).p (x + 1) _).w x 12 _
    have K44 : ∀ (u i : Nat) (T g : Nat → Int32) (o9 : Option Value), i + u = t → rdR (m.1 (x + 86 + 2 * j) 2) (m.1 (x + 86 + 2 * j) 1) la (m.1 (x + 86 + 2 * j + 1)) f.toInt t 0 (pgC m (x + 1)) = rdR (m.1 (x + 86 + 2 * j) 2) (m.1 (x + 86 + 2 * j) 1) la (m.1 (x + 86 + 2 * j + 1)) f.toInt u i g → veq g T → pg0 T → okC g → okB g 9999 → (gJ E yX6_read cX6_read 11 (some .int) (gRm 4 0 0) F 44 ([some (.ref x), some (.int (nI j)), some (.int la), some (.int f), some (.int (nI t)), some (.ref (x + 9)), some (.int 0), some (.int (nI i)), some (.int (nI i)), o9, none]) ([]) 0 0 σ (gP m (x + 9) T) hi) := by
      intro u
      induction u with
      | zero =>
        intro i T g o9 hi' he hv h0 hc hb
        have : i = t := by omega
        subst this
        refine j_iload (q := 46) dX6_read_44 rfl (by rfl) ?_
        refine j_iload (q := 48) dX6_read_46 rfl (by rfl) ?_
        refine j_icmp_ge (q := 51) (tgt := 134) dX6_read_48 rfl (by decide) (fun h48 => ?_) (fun h48 => ?_)
        · rw [rdR] at he
          exact K134 _ T g 0 (nI i) _ he hv h0 hc hb
        · exact absurd (Int32.le_refl _) h48
      | succ u ih =>
        intro i T g o9 hi' he hv h0 hc hb
        have hi20 : i ≤ 20 := by omega
        refine j_iload (q := 46) dX6_read_44 rfl (by rfl) ?_
        refine j_iload (q := 48) dX6_read_46 rfl (by rfl) ?_
        refine j_icmp_ge (q := 51) (tgt := 134) dX6_read_48 rfl (by decide) (fun h48 => ?_) (fun h48 => ?_)
        · exact absurd h48 (nI_ge (by omega) (by omega))
        refine j_iload (q := 53) dX6_read_51 rfl (by rfl) ?_
        refine j_if_ne (q := 56) (tgt := 134) dX6_read_53 rfl (by decide) (fun h53 => ?_) (fun h53 => ?_)
        · exact absurd rfl h53
        have eo : ∀ r, (gP m (x + 9) T).1 (x + 86 + 2 * j) r = m.1 (x + 86 + 2 * j) r := fun r => gP_none (gIxP_out (by omega))
        have eo1 : ∀ r, (gP m (x + 9) T).1 (x + 86 + 2 * j + 1) r = m.1 (x + 86 + 2 * j + 1) r := fun r => gP_none (gIxP_out (by omega))
        have hF2 := cH_faultOfTwo E σ (gP m (x + 9) T) hi (x + 86 + 2 * j) la (f.toInt64 + 2 * (nI i).toInt64) (f.toInt + 2 * i) (hN.st j (by omega)) (rdI hi20) (rdI1 hi20)
        rw [eo, eo] at hF2
        refine j_iload_n (q := 57) dX6_read_56 rfl (by rfl) ?_
        refine j_i2l (q := 58) dX6_read_57 rfl ?_
        refine j_ldc2 (q := 61) dX6_read_58 rfl kX6_308 ?_
        refine j_iload (q := 63) dX6_read_61 rfl (by rfl) ?_
        refine j_i2l (q := 64) dX6_read_63 rfl ?_
        refine j_lmul (q := 65) dX6_read_64 rfl ?_
        refine j_ladd (q := 66) dX6_read_65 rfl ?_
        refine j_lstore (q := 68) dX6_read_66 rfl (by decide) ?_
        refine j_aload_n (q := 69) dX6_read_68 rfl (by rfl) ?_
        refine j_getr (q := 72) dX6_read_69 rfl fX6_61 (by assumption) (by rfl) ?_
        refine j_iload_n (q := 73) dX6_read_72 rfl (by rfl) ?_
        refine j_aaload (q := 74) dX6_read_73 rfl (by assumption) (by decide) (by assumption) (by assumption) ?_
        refine j_iload_n (q := 75) dX6_read_74 rfl (by rfl) ?_
        refine j_lload (q := 77) dX6_read_75 rfl (by rfl) ?_
        refine o_callVi (q := 80) dX6_read_77 rfl lX6_310 mwX3_faultOfTwo mvX3_faultOfTwo cn3 (by assumption) (by rfl) rfl (Nat.le_of_ble_eq_true (by rfl)) (by first | decide | omega) (hF2) ?_
        refine j_istore (q := 82) dX6_read_80 rfl (by decide) ?_
        refine j_iload (q := 84) dX6_read_82 rfl (by rfl) ?_
        refine j_if_ne (q := 87) (tgt := 128) dX6_read_84 rfl (by decide) (fun h84 => ?_) (fun h84 => ?_)
        · rw [rdR, if_neg h84] at he
          refine j_iinc (q := 131) dX6_read_128 rfl (by rfl) (by first | exact nI_inc _ | rfl) (by decide) ?_
          refine j_goto (tgt := 44) dX6_read_131 (by decide) ?_
          refine j_iload (q := 46) dX6_read_44 rfl (by rfl) ?_
          refine j_iload (q := 48) dX6_read_46 rfl (by rfl) ?_
          have K := K134 (nI (i + 1)) T g (f2S (m.1 (x + 86 + 2 * j) 2) (m.1 (x + 86 + 2 * j) 1) la (f.toInt + 2 * i)) (nI i) (some (.long (f.toInt64 + 2 * (nI i).toInt64))) he hv h0 hc hb
          refine j_icmp_ge (q := 51) (tgt := 134) dX6_read_48 rfl (by decide) (fun h48b => ?_) (fun h48b => ?_)
          · exact K
          · refine j_iload (q := 53) dX6_read_51 rfl (by rfl) ?_
            refine j_if_ne (q := 56) (tgt := 134) dX6_read_53 rfl (by decide) (fun h53b => ?_) (fun h53b => ?_)
            · exact K
            · exact absurd (by first | exact h53b | exact Decidable.not_not.mp h53b) h84
        · have h840 : f2S (m.1 (x + 86 + 2 * j) 2) (m.1 (x + 86 + 2 * j) 1) la (f.toInt + 2 * i) = 0 := by first | exact h84 | exact Decidable.not_not.mp h84
          rw [h840]
          have hf1 : fS (m.1 (x + 86 + 2 * j) 2) (m.1 (x + 86 + 2 * j) 1) la (f.toInt + 2 * i) = 0 := by
            by_cases q : fS (m.1 (x + 86 + 2 * j) 2) (m.1 (x + 86 + 2 * j) 1) la (f.toInt + 2 * i) = 0
            · exact q
            · unfold f2S at h840; rw [if_neg q] at h840; exact h840
          have hf2 : fS (m.1 (x + 86 + 2 * j) 2) (m.1 (x + 86 + 2 * j) 1) la (f.toInt + 2 * i + 1) = 0 := by
            unfold f2S at h840; rw [if_pos hf1] at h840; exact h840
          obtain ⟨s1, p1, hs1, es1, ep1, hp1⟩ := fS_ok hf1 hsh
          obtain ⟨s2, p2, hs2, es2, ep2, hp2⟩ := fS_ok hf2 hsh
          have hC1 := cH_cellAt E σ (gP m (x + 9) T) hi (x + 86 + 2 * j) p1 s1 (f.toInt64 + 2 * (nI i).toInt64) (hN.st j (by omega)) (by rw [eo]; exact es1) (by rw [rdI hi20]; exact ep1) hp1 hs1
          have hC2 := cH_cellAt E σ (gP m (x + 9) T) hi (x + 86 + 2 * j) p2 s2 (f.toInt64 + 2 * (nI i).toInt64 + 1) (hN.st j (by omega)) (by rw [eo]; exact es2) (by rw [rdI1 hi20]; exact ep2) hp2 hs2
          rw [eo1] at hC1 hC2
          rw [rdR, if_pos h840, ep2, ep1, Int.toNat_natCast, Int.toNat_natCast] at he
          have hbT := hb.v hv
          obtain ⟨r, hh, er, hr12, -, -⟩ := hbT
          have hAd := cX_addTo E σ (gP m (x + 9) T) hi (x + 9) r (m.1 (x + 86 + 2 * j + 1) p1) (m.1 (x + 86 + 2 * j + 1) p2) hN.2.2.1 (by rw [pgC_gP h0]; exact er) hr12
          rw [pgC_gP h0, gP_gP] at hAd
          have hxa := xAdd_veq hv hc hb (m.1 (x + 86 + 2 * j + 1) p1) (m.1 (x + 86 + 2 * j + 1) p2)
          have hxo := xAdd_ok hc hb (m.1 (x + 86 + 2 * j + 1) p1) (m.1 (x + 86 + 2 * j + 1) p2)
          rw [hxa.1] at hAd
          refine j_aload (q := 89) dX6_read_87 rfl (by rfl) ?_
          refine j_aload_n (q := 90) dX6_read_89 rfl (by rfl) ?_
          refine j_getr (q := 93) dX6_read_90 rfl fX6_61 (by assumption) (by rfl) ?_
          refine j_iload_n (q := 94) dX6_read_93 rfl (by rfl) ?_
          refine j_aaload (q := 95) dX6_read_94 rfl (by assumption) (by decide) (by assumption) (by assumption) ?_
          refine j_lload (q := 97) dX6_read_95 rfl (by rfl) ?_
          refine o_callVi (q := 100) dX6_read_97 rfl lX6_313 mwX3_cellAt mvX3_cellAt cn3 (by assumption) (by rfl) rfl (Nat.le_of_ble_eq_true (by rfl)) (by first | decide | omega) (hC1) ?_
          refine j_aload_n (q := 101) dX6_read_100 rfl (by rfl) ?_
          refine j_getr (q := 104) dX6_read_101 rfl fX6_61 (by assumption) (by rfl) ?_
          refine j_iload_n (q := 105) dX6_read_104 rfl (by rfl) ?_
          refine j_aaload (q := 106) dX6_read_105 rfl (by assumption) (by decide) (by assumption) (by assumption) ?_
          refine j_lload (q := 108) dX6_read_106 rfl (by rfl) ?_
          refine j_lconst (q := 109) (v := 1) dX6_read_108 rfl (by decide) ?_
          refine j_ladd (q := 110) dX6_read_109 rfl ?_
          refine o_callVi (q := 113) dX6_read_110 rfl lX6_313 mwX3_cellAt mvX3_cellAt cn3 (by assumption) (by rfl) rfl (Nat.le_of_ble_eq_true (by rfl)) (by first | decide | omega) (hC2) ?_
          refine o_callSi (q := 116) dX6_read_113 rfl lX6_164 mwX6_addTo msX6_addTo (by rfl) rfl (Nat.le_of_ble_eq_true (by rfl)) (by first | decide | omega) (hAd) ?_
          refine j_if_ge (q := 119) (tgt := 125) dX6_read_116 rfl (by decide) (fun h116 => ?_) (fun h116 => ?_)
          · rw [if_neg (Int32.not_lt.mpr h116)] at he
            refine j_iinc (q := 128) dX6_read_125 rfl (by rfl) (by first | exact nI_inc _ | rfl) (by decide) ?_
            refine j_iinc (q := 131) dX6_read_128 rfl (by rfl) (by first | exact nI_inc _ | rfl) (by decide) ?_
            refine j_goto (tgt := 44) dX6_read_131 (by decide) ?_
            exact ih (i + 1) _ _ _ (by omega) he hxa.2 (xAdd_0 h0 _ _) hxo.1 hxo.2
          · rw [if_pos (Int32.not_le.mp h116)] at he
            rw [he] at hF
            refine j_bipush (q := 121) (v := (-20)) dX6_read_119 rfl (by decide) ?_
            refine j_iload (q := 123) dX6_read_121 rfl (by rfl) ?_
            refine j_isub (q := 124) dX6_read_123 rfl ?_
            refine o_iret hF rfl dX6_read_124 ?_
            exact ⟨rfl, fun _ => (scr.rf x m).t _, fun h => by cases h⟩
    refine j_aload_n (q := 30) dX6_read_29 rfl (by rfl) ?_
    refine o_callVa (q := 33) dX6_read_30 rfl lX6_177 mwX6_afresh mvX6_afresh cn6 (by assumption) (by rfl) rfl (Nat.le_of_ble_eq_true (by rfl)) (by first | decide | omega) (cX_afresh E σ m hi x hN ho) ?_
    refine j_astore (q := 35) dX6_read_33 rfl (by decide) ?_
    refine j_iconst (q := 36) (v := 0) dX6_read_35 rfl (by decide) ?_
    refine j_istore (q := 38) dX6_read_36 rfl (by decide) ?_
    refine j_iconst (q := 39) (v := 0) dX6_read_38 rfl (by decide) ?_
    refine j_istore (q := 41) dX6_read_39 rfl (by decide) ?_
    refine j_iconst (q := 42) (v := 0) dX6_read_41 rfl (by decide) ?_
    refine j_istore (q := 44) dX6_read_42 rfl (by decide) ?_
    exact K44 t 0 _ (pgC m (x + 1)) _ (by omega) rfl (bec_veq _ _) (bec_0 (pgC_0 _ _)) ho.1 ho.2
  · refine j_iconst (q := 28) (v := (-1)) dX6_read_27 rfl (by decide) ?_
    refine o_iret hF rfl dX6_read_28 ?_
    rw [hbad (fun h => sWi_0 h24 h.2.2)]
    exact ⟨rfl, fun _ => scr.rf x m, fun h => by cases h⟩
def xCount (m : gMem) (x : Nat) (k : Int32) : Int32 := match swN k 5 with
  | some 0 => m.1 (x + 23) 3
  | some 1 => (if m.1 (x + 19) 0 = 0 then 0 else 1) + (if m.1 (x + 19) 1 = 0 then 0 else 1)
  | some 2 => m.1 (x + 21) 1
  | some 3 => if m.1 (x + 86) 2 < 0 then -4 else m.1 (x + 86) 2
  | some 4 => sumP (pgC m (x + 1)) 1
  | some 5 => sumW (pgC m (x + 1)) (rws (pgC m (x + 1)))
  | _ => -1
theorem cX_count (E : gEv) (σ : gSg) (m : gMem) (hi x : Nat) (k : Int32) (hN : gN σ x) (ho : okN m x) : gCo E yX6_count cX6_count 2 (some .int) 2 [.ref x, .int k] σ m hi (gX (some (.int (xCount m x k))) m) := by
  refine gCo.of mwX6_count (Nat.le_of_ble_eq_true rfl) ?_
  intro F hF
  have hx := hN.1
  have h1 := hN.2.1.1
  have hs0 := (hN.st 0 (by omega)).1
  obtain ⟨fs, h29, hfs⟩ := hN.sf
  have hf0 := hfs 0 (by omega)
  obtain ⟨-, -, -, -, -, h19, h20, h21, -, h23, -⟩ := id hN
  have hix : gIdx 0 4 0 := gIdx.of rfl (by omega) (by decide)
  have hix0 : gIdx 0 2 0 := gIdx.of rfl (by omega) (by decide)
  have hix1 : gIdx 1 2 1 := gIdx.of rfl (by omega) (by decide)
  obtain ⟨r, hh, e1, e2, -, -⟩ := ho.2
  have hrw : rws (pgC m (x + 1)) = r := by unfold rws; rw [e1, nI_clamp (by omega)]
  refine j_iload_n (q := 1) dX6_count_0 rfl (by rfl) ?_
  rcases gSw k 5 (by decide) with hsw | ⟨ksw, hksw, hkse⟩
  · refine j_tableOut (tgt := 130) dX6_count_1 hsw (by decide) ?_
    refine j_iconst (q := 131) (v := (-1)) dX6_count_130 rfl (by decide) ?_
    refine o_iret hF rfl dX6_count_131 ?_
    exact ⟨by unfold xCount; rw [swN_out hsw], rfl⟩
  · match ksw, hksw, hkse with
    | 0, _, hkse =>
      subst hkse
      refine j_tableIn (off := 39) (tgt := 40) dX6_count_1 (by decide) (by decide) (by rfl) (by decide) ?_
      refine j_aload_n (q := 41) dX6_count_40 rfl (by rfl) ?_
      refine j_getr (q := 44) dX6_count_41 rfl fX6_47 (by assumption) (by rfl) ?_
      refine j_geti (q := 47) dX6_count_44 rfl fX6_97 (by assumption) (by rfl) ?_
      refine o_iret hF rfl dX6_count_47 ?_
      exact ⟨by unfold xCount; rw [swN_in (by decide) (by decide)]; try rfl, rfl⟩
    | 1, _, hkse =>
      subst hkse
      refine j_tableIn (off := 47) (tgt := 48) dX6_count_1 (by decide) (by decide) (by rfl) (by decide) ?_
      refine j_aload_n (q := 49) dX6_count_48 rfl (by rfl) ?_
      refine j_getr (q := 52) dX6_count_49 rfl fX6_26 (by assumption) (by rfl) ?_
      refine j_iconst (q := 53) (v := 0) dX6_count_52 rfl (by decide) ?_
      refine j_zaload (q := 54) dX6_count_53 rfl (by assumption) (by assumption) ?_
      refine j_if_eq (q := 57) (tgt := 61) dX6_count_54 rfl (by decide) (fun h54 => ?_) (fun h54 => ?_)
      · refine j_iconst (q := 62) (v := 0) dX6_count_61 rfl (by decide) ?_
        refine j_aload_n (q := 63) dX6_count_62 rfl (by rfl) ?_
        refine j_getr (q := 66) dX6_count_63 rfl fX6_26 (by assumption) (by rfl) ?_
        refine j_iconst (q := 67) (v := 1) dX6_count_66 rfl (by decide) ?_
        refine j_zaload (q := 68) dX6_count_67 rfl (by assumption) (by assumption) ?_
        refine j_if_eq (q := 71) (tgt := 75) dX6_count_68 rfl (by decide) (fun h68 => ?_) (fun h68 => ?_)
        · refine j_iconst (q := 76) (v := 0) dX6_count_75 rfl (by decide) ?_
          refine j_iadd (q := 77) dX6_count_76 rfl ?_
          refine o_iret hF rfl dX6_count_77 ?_
          exact ⟨by unfold xCount; rw [swN_in (by decide) (by decide)]; simp [*], rfl⟩
        · refine j_iconst (q := 72) (v := 1) dX6_count_71 rfl (by decide) ?_
          refine j_goto (tgt := 76) dX6_count_72 (by decide) ?_
          refine j_iadd (q := 77) dX6_count_76 rfl ?_
          refine o_iret hF rfl dX6_count_77 ?_
          exact ⟨by unfold xCount; rw [swN_in (by decide) (by decide)]; simp [*], rfl⟩
      · refine j_iconst (q := 58) (v := 1) dX6_count_57 rfl (by decide) ?_
        refine j_goto (tgt := 62) dX6_count_58 (by decide) ?_
        refine j_aload_n (q := 63) dX6_count_62 rfl (by rfl) ?_
        refine j_getr (q := 66) dX6_count_63 rfl fX6_26 (by assumption) (by rfl) ?_
        refine j_iconst (q := 67) (v := 1) dX6_count_66 rfl (by decide) ?_
        refine j_zaload (q := 68) dX6_count_67 rfl (by assumption) (by assumption) ?_
        refine j_if_eq (q := 71) (tgt := 75) dX6_count_68 rfl (by decide) (fun h68 => ?_) (fun h68 => ?_)
        · refine j_iconst (q := 76) (v := 0) dX6_count_75 rfl (by decide) ?_
          refine j_iadd (q := 77) dX6_count_76 rfl ?_
          refine o_iret hF rfl dX6_count_77 ?_
          exact ⟨by unfold xCount; rw [swN_in (by decide) (by decide)]; simp [*], rfl⟩
        · refine j_iconst (q := 72) (v := 1) dX6_count_71 rfl (by decide) ?_
          refine j_goto (tgt := 76) dX6_count_72 (by decide) ?_
          refine j_iadd (q := 77) dX6_count_76 rfl ?_
          refine o_iret hF rfl dX6_count_77 ?_
          exact ⟨by unfold xCount; rw [swN_in (by decide) (by decide)]; simp [*], rfl⟩
    | 2, _, hkse =>
      subst hkse
      refine j_tableIn (off := 77) (tgt := 78) dX6_count_1 (by decide) (by decide) (by rfl) (by decide) ?_
      refine j_aload_n (q := 79) dX6_count_78 rfl (by rfl) ?_
      refine j_getr (q := 82) dX6_count_79 rfl fX6_41 (by assumption) (by rfl) ?_
      refine j_geti (q := 85) dX6_count_82 rfl fX6_76 (by assumption) (by rfl) ?_
      refine o_iret hF rfl dX6_count_85 ?_
      exact ⟨by unfold xCount; rw [swN_in (by decide) (by decide)]; try rfl, rfl⟩
    | 3, _, hkse =>
      subst hkse
      refine j_tableIn (off := 85) (tgt := 86) dX6_count_1 (by decide) (by decide) (by rfl) (by decide) ?_
      refine j_aload_n (q := 87) dX6_count_86 rfl (by rfl) ?_
      refine j_getr (q := 90) dX6_count_87 rfl fX6_61 (by assumption) (by rfl) ?_
      refine j_iconst (q := 91) (v := 0) dX6_count_90 rfl (by decide) ?_
      refine j_aaload (q := 92) dX6_count_91 rfl (by assumption) (by decide) (by assumption) (by assumption) ?_
      refine j_geti (q := 95) dX6_count_92 rfl fX6_320 (by assumption) (by rfl) ?_
      refine j_if_ge (q := 98) (tgt := 103) dX6_count_95 rfl (by decide) (fun h95 => ?_) (fun h95 => ?_)
      · refine j_aload_n (q := 104) dX6_count_103 rfl (by rfl) ?_
        refine j_getr (q := 107) dX6_count_104 rfl fX6_61 (by assumption) (by rfl) ?_
        refine j_iconst (q := 108) (v := 0) dX6_count_107 rfl (by decide) ?_
        refine j_aaload (q := 109) dX6_count_108 rfl (by assumption) (by decide) (by assumption) (by assumption) ?_
        refine j_geti (q := 112) dX6_count_109 rfl fX6_320 (by assumption) (by rfl) ?_
        refine o_iret hF rfl dX6_count_112 ?_
        exact ⟨by unfold xCount; rw [swN_in (by decide) (by decide)]; first | exact congrArg (fun z => some (Value.int z)) (if_neg (Int32.not_lt.mpr h95)).symm | exact congrArg (fun z => some (Value.int z)) (if_pos (Int32.not_le.mp h95)).symm, rfl⟩
      · refine j_bipush (q := 100) (v := (-4)) dX6_count_98 rfl (by decide) ?_
        refine j_goto (tgt := 112) dX6_count_100 (by decide) ?_
        refine o_iret hF rfl dX6_count_112 ?_
        exact ⟨by unfold xCount; rw [swN_in (by decide) (by decide)]; first | exact congrArg (fun z => some (Value.int z)) (if_neg (Int32.not_lt.mpr h95)).symm | exact congrArg (fun z => some (Value.int z)) (if_pos (Int32.not_le.mp h95)).symm, rfl⟩
    | 4, _, hkse =>
      subst hkse
      refine j_tableIn (off := 112) (tgt := 113) dX6_count_1 (by decide) (by decide) (by rfl) (by decide) ?_
      refine j_aload_n (q := 114) dX6_count_113 rfl (by rfl) ?_
      refine j_getr (q := 117) dX6_count_114 rfl fX6_10 (by assumption) (by rfl) ?_
      refine j_iconst (q := 118) (v := 1) dX6_count_117 rfl (by decide) ?_
      refine o_callVi (q := 121) dX6_count_118 rfl lX6_115 mwX0_sumOf mvX0_sumOf cn0 (by assumption) (by rfl) rfl (Nat.le_of_ble_eq_true (by rfl)) (by first | decide | omega) (cG_sumOf E σ m hi (x + 1) 1 (by decide) hN.2.1 ho.1) ?_
      refine o_iret hF rfl dX6_count_121 ?_
      exact ⟨by unfold xCount; rw [swN_in (by decide) (by decide)]; try rfl, rfl⟩
    | 5, _, hkse =>
      subst hkse
      refine j_tableIn (off := 121) (tgt := 122) dX6_count_1 (by decide) (by decide) (by rfl) (by decide) ?_
      refine j_aload_n (q := 123) dX6_count_122 rfl (by rfl) ?_
      refine j_getr (q := 126) dX6_count_123 rfl fX6_10 (by assumption) (by rfl) ?_
      refine o_callVi (q := 129) dX6_count_126 rfl lX6_323 mwX0_sumOfWatchers mvX0_sumOfWatchers cn0 (by assumption) (by rfl) rfl (Nat.le_of_ble_eq_true (by rfl)) (by first | decide | omega) (cG_sumOfWatchers E σ m hi (x + 1) r hN.2.1 e1 e2) ?_
      refine o_iret hF rfl dX6_count_129 ?_
      exact ⟨by unfold xCount; rw [swN_in (by decide) (by decide), hrw]; try rfl, rfl⟩
    | k + 6, h, _ => exact absurd h (by omega)
