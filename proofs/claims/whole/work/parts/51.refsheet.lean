/-! the reference: sheets -/
def szR (m : gMem) (t j : Nat) : Int32 := if m.1 (t + 12) j = -4 then -4 else m.1 (t + 13) j
def okHR (m : gMem) (t : Nat) : Prop := ∀ j, j < 4 → m.1 (t + 12) j = -4 ∨ ((∃ a, a ≤ 2 ∧ m.1 (t + 12) j = nI a) ∧ ∃ s, s ≤ 40 ∧ m.1 (t + 13) j = nI s)
/-- cells from a on, so many, are 0 -/
def gZa (m : gMem) (b a n : Nat) : gMem := (fun q r => if q = b ∧ a ≤ r ∧ r < a + n then 0 else m.1 q r, m.2)
theorem gZa_0 (m : gMem) (b a : Nat) : gZa m b a 0 = m := by
  apply gMem_ext
  · intro q r
    exact if_neg (by omega)
  · rfl
theorem gZa_s (m : gMem) (b a n : Nat) : gW (gZa m b a n) b (a + n) 0 = gZa m b a (n + 1) := by
  apply gMem_ext
  · intro q r
    rw [gW_1]
    show (if q = b ∧ r = a + n then 0 else if q = b ∧ a ≤ r ∧ r < a + n then 0 else m.1 q r) = if q = b ∧ a ≤ r ∧ r < a + (n + 1) then 0 else m.1 q r
    by_cases h : q = b ∧ r = a + n
    · rw [if_pos h, if_pos (by omega)]
    · rw [if_neg h]
      by_cases h2 : q = b ∧ a ≤ r ∧ r < a + n
      · rw [if_pos h2, if_pos (by omega)]
      · rw [if_neg h2, if_neg (by omega)]
  · rfl
def rnR (m : gMem) (t j : Nat) (la n : Int32) : gMem := gZa (gW (gW m (t + 12) j la) (t + 13) j n) (t + 14) (40 * j) 40
theorem cM_sheet (E : gEv) (σ : gSg) (m : gMem) (hi t : Nat) (k la n : Int32) (hR : gR σ t) : gCo E yX7_sheet cX7_sheet 5 (some .int) 1 [.ref t, .int k, .int la, .int n] σ m hi (gX (some (.int (if gdS k la n then (if n < 0 then -14 else 1) else -1))) (if gdS k la n ∧ 0 ≤ n then rnR m t k.toNatClampNeg la n else m)) := by
  refine gCo.of mwX7_sheet (Nat.le_of_ble_eq_true rfl) ?_
  intro F hF
  have h0 := hR.1
  obtain ⟨-, -, -, -, -, -, -, -, -, -, -, -, h12, h13, h14⟩ := id hR
  have bad : ¬ gdS k la n → (gJ E yX7_sheet cX7_sheet 5 (some .int) (gRm 1 0 0) F 30 ([some (.ref t), some (.int k), some (.int la), some (.int n), none]) ([]) 0 0 σ (m) hi) := by
    intro hb
    rw [if_neg hb, if_neg (fun h => hb h.1)] at hF
    refine j_iconst (q := 31) (v := (-1)) dX7_sheet_30 rfl (by decide) ?_
    refine o_iret hF rfl dX7_sheet_31 ?_
    exact ⟨rfl, rfl⟩
  refine j_iload_n (q := 1) dX7_sheet_0 rfl (by rfl) ?_
  refine j_i2l (q := 2) dX7_sheet_1 rfl ?_
  refine j_lconst (q := 3) (v := 0) dX7_sheet_2 rfl (by decide) ?_
  refine j_ldc2 (q := 6) dX7_sheet_3 rfl kX7_169 ?_
  refine o_callSi (q := 9) dX7_sheet_6 rfl lX7_55 mwX7_in msX7_in (by rfl) rfl (Nat.le_of_ble_eq_true (by rfl)) (by first | decide | omega) (cM_inI E σ m hi k 0 3 (by decide) (by decide)) ?_
  refine j_if_eq (q := 12) (tgt := 30) dX7_sheet_9 rfl (by decide) (fun h9 => ?_) (fun h9 => ?_)
  · exact bad (fun h => sWi_0 h9 h.1)
  refine j_iload_n (q := 13) dX7_sheet_12 rfl (by rfl) ?_
  refine j_i2l (q := 14) dX7_sheet_13 rfl ?_
  refine j_lconst (q := 15) (v := 0) dX7_sheet_14 rfl (by decide) ?_
  refine j_ldc2 (q := 18) dX7_sheet_15 rfl kX7_224 ?_
  refine o_callSi (q := 21) dX7_sheet_18 rfl lX7_55 mwX7_in msX7_in (by rfl) rfl (Nat.le_of_ble_eq_true (by rfl)) (by first | decide | omega) (cM_inI E σ m hi la 0 2 (by decide) (by decide)) ?_
  refine j_if_eq (q := 24) (tgt := 30) dX7_sheet_21 rfl (by decide) (fun h21 => ?_) (fun h21 => ?_)
  · exact bad (fun h => sWi_0 h21 h.2.1)
  refine j_iload_n (q := 25) dX7_sheet_24 rfl (by rfl) ?_
  refine j_bipush (q := 27) (v := 40) dX7_sheet_25 rfl (by decide) ?_
  refine j_icmp_le (q := 30) (tgt := 32) dX7_sheet_27 rfl (by decide) (fun h27 => ?_) (fun h27 => ?_)
  · have hg : gdS k la n := And.intro (sWi_1 h9) (And.intro (sWi_1 h21) h27)
    obtain ⟨j, hj, ej⟩ := swN_wi (n := 3) (by decide) h9
    subst ej
    rw [if_pos hg, nI_clamp (by omega)] at hF
    have i4 : gIdx (nI j) 4 j := gIdx.of rfl (by omega) (by decide)
    refine j_iload_n (q := 33) dX7_sheet_32 rfl (by rfl) ?_
    refine j_if_ge (q := 36) (tgt := 39) dX7_sheet_33 rfl (by decide) (fun h33 => ?_) (fun h33 => ?_)
    · rw [if_neg (Int32.not_lt.mpr h33), if_pos ⟨hg, h33⟩] at hF
      have K56 : ∀ (z i : Nat), i + z = 40 → (gJ E yX7_sheet cX7_sheet 5 (some .int) (gRm 1 0 0) F 56 ([some (.ref t), some (.int (nI j)), some (.int la), some (.int n), some (.int (nI i))]) ([]) 0 0 σ (gZa (gW (gW m (t + 12) j la) (t + 13) j n) (t + 14) (40 * j) i) hi) := by
        intro z
        induction z with
        | zero =>
          intro i hiz
          have hi4 : i = 40 := by omega
          subst hi4
          refine j_iload (q := 58) dX7_sheet_56 rfl (by rfl) ?_
          refine j_bipush (q := 60) (v := 40) dX7_sheet_58 rfl (by decide) ?_
          refine j_icmp_ge (q := 63) (tgt := 82) dX7_sheet_60 rfl (by decide) (fun h60 => ?_) (fun h60 => ?_)
          · refine j_iconst (q := 83) (v := 1) dX7_sheet_82 rfl (by decide) ?_
            refine o_iret hF rfl dX7_sheet_83 ?_
            exact ⟨rfl, rfl⟩
          · exact absurd (show (40 : Int32) ≤ nI 40 by decide) h60
        | succ z ih =>
          intro i hiz
          have ix : gIdx (40 * nI j + nI i) 160 (40 * j + i) := gIdx.of (by rw [show (40 : Int32) * nI j = nI (40 * j) from pk_mul 40 j, nI_add]) (by omega) (by decide)
          refine j_iload (q := 58) dX7_sheet_56 rfl (by rfl) ?_
          refine j_bipush (q := 60) (v := 40) dX7_sheet_58 rfl (by decide) ?_
          refine j_icmp_ge (q := 63) (tgt := 82) dX7_sheet_60 rfl (by decide) (fun h60 => ?_) (fun h60 => ?_)
          · exact absurd h60 (nI_ge (a := i) (b := 40) (by omega) (by omega))
          refine j_aload_n (q := 64) dX7_sheet_63 rfl (by rfl) ?_
          refine j_getr (q := 67) dX7_sheet_64 rfl fX7_50 (by first | with_reducible assumption | assumption) (by rfl) ?_
          refine j_bipush (q := 69) (v := 40) dX7_sheet_67 rfl (by decide) ?_
          refine j_iload_n (q := 70) dX7_sheet_69 rfl (by rfl) ?_
          refine j_imul (q := 71) dX7_sheet_70 rfl ?_
          refine j_iload (q := 73) dX7_sheet_71 rfl (by rfl) ?_
          refine j_iadd (q := 74) dX7_sheet_73 rfl ?_
          refine j_iconst (q := 75) (v := 0) dX7_sheet_74 rfl (by decide) ?_
          refine j_iastore (q := 76) dX7_sheet_75 rfl (by first | with_reducible assumption | assumption) (by first | with_reducible assumption | assumption) ?_
          rw [gZa_s]
          refine j_iinc (q := 79) dX7_sheet_76 rfl (by rfl) (by first | exact nI_inc _ | rfl) (by decide) ?_
          refine j_goto (tgt := 56) dX7_sheet_79 (by decide) ?_
          exact ih (i + 1) (by omega)
      refine j_aload_n (q := 40) dX7_sheet_39 rfl (by rfl) ?_
      refine j_getr (q := 43) dX7_sheet_40 rfl fX7_44 (by first | with_reducible assumption | assumption) (by rfl) ?_
      refine j_iload_n (q := 44) dX7_sheet_43 rfl (by rfl) ?_
      refine j_iload_n (q := 45) dX7_sheet_44 rfl (by rfl) ?_
      refine j_iastore (q := 46) dX7_sheet_45 rfl (by first | with_reducible assumption | assumption) (by first | with_reducible assumption | assumption) ?_
      refine j_aload_n (q := 47) dX7_sheet_46 rfl (by rfl) ?_
      refine j_getr (q := 50) dX7_sheet_47 rfl fX7_47 (by first | with_reducible assumption | assumption) (by rfl) ?_
      refine j_iload_n (q := 51) dX7_sheet_50 rfl (by rfl) ?_
      refine j_iload_n (q := 52) dX7_sheet_51 rfl (by rfl) ?_
      refine j_iastore (q := 53) dX7_sheet_52 rfl (by first | with_reducible assumption | assumption) (by first | with_reducible assumption | assumption) ?_
      refine j_iconst (q := 54) (v := 0) dX7_sheet_53 rfl (by decide) ?_
      refine j_istore (q := 56) dX7_sheet_54 rfl (by decide) ?_
      refine gJ.mm ?_ (K56 40 0 (by omega))
      rw [gZa_0]
    · rw [if_pos (Int32.not_le.mp h33), if_neg (fun h => h33 h.2)] at hF
      refine j_bipush (q := 38) (v := (-14)) dX7_sheet_36 rfl (by decide) ?_
      refine o_iret hF rfl dX7_sheet_38 ?_
      exact ⟨rfl, rfl⟩
  · exact bad (fun h => h27 h.2.2)
theorem sh16 (v : Int32) : (v <<< ((16 : Int32) &&& 31)) >>> ((16 : Int32) &&& 31) = v.toInt16.toInt32 := by
  apply Int32.toInt_inj.mp
  have h1 := pk_shr (v <<< ((16 : Int32) &&& 31)) ((16 : Int32) &&& 31) 16 (by decide)
  have h2 := pk_shl v ((16 : Int32) &&& 31) 16 (by decide)
  have h3 := toInt_c (v <<< ((16 : Int32) &&& 31))
  have h4 := toInt_c v
  have h5 : v.toBitVec.toNat < 2 ^ 32 := v.toBitVec.isLt
  rw [Int.shiftRight_eq_div_pow] at h1
  rw [h1, h3, h2, Int16.toInt_toInt32, Int32.toInt_toInt16, h4, Int.bmod_def]
  generalize v.toBitVec.toNat = N at *
  by_cases c1 : 2 * N < 2 ^ 32
  · rw [if_pos c1]
    by_cases c2 : 2 * (N * 2 ^ 16 % 2 ^ 32) < 2 ^ 32
    · rw [if_pos c2, if_pos (by omega)]; omega
    · rw [if_neg c2, if_neg (by omega)]; omega
  · rw [if_neg c1]
    by_cases c2 : 2 * (N * 2 ^ 16 % 2 ^ 32) < 2 ^ 32
    · rw [if_pos c2, if_pos (by omega)]; omega
    · rw [if_neg c2, if_neg (by omega)]; omega
def xLayR (m : gMem) (t : Nat) (k i : Int32) : Int32 := if 0 ≤ k ∧ k ≤ 3 then (if fS (szR m t k.toNatClampNeg) 0 0 i.toInt = 0 then 1 else -10 - fS (szR m t k.toNatClampNeg) 0 0 i.toInt) else -1
def lyR (m : gMem) (t : Nat) (k i v : Int32) : gMem := gW m (t + 14) (40 * k.toNatClampNeg + i.toNatClampNeg) (if m.1 (t + 12) k.toNatClampNeg = 0 then v.toInt16.toInt32 else v)
theorem sHas_t {s : Nat} (hs : s ≤ 1000) (i : Int32) : (sHas (nI s) i = 0 ∧ (i.toInt < 0 ∨ (nI s).toInt ≤ i.toInt)) ∨ ∃ j, j < s ∧ i = nI j ∧ sHas (nI s) i = 1 ∧ i.toInt = (j : Int) ∧ (nI s).toInt = (s : Int) := by
  have es := nI_toInt (n := s) (by omega)
  rcases ixV_or i (n := nI s) rfl (by omega) with ⟨h1, h2⟩ | ⟨j, hj, ej, h1, -⟩
  · refine Or.inl ⟨h1, ?_⟩
    unfold ixV at h2
    by_cases hc : i < 0 ∨ nI s ≤ i
    · rcases hc with hc | hc
      · exact Or.inl (by rw [Int32.lt_iff_toInt_lt] at hc; exact hc)
      · exact Or.inr (by rw [Int32.le_iff_toInt_le] at hc; exact hc)
    · rw [if_neg hc] at h2; cases h2
  · exact Or.inr ⟨j, hj, ej, h1, by rw [ej, nI_toInt (by omega)], es⟩
theorem cM_lay (E : gEv) (σ : gSg) (m : gMem) (hi t : Nat) (k i v : Int32) (hR : gR σ t) (hH : okHR m t) : gCo E yX7_lay cX7_lay 4 (some .int) 1 [.ref t, .int k, .int i, .int v] σ m hi (gX (some (.int (xLayR m t k i))) (if xLayR m t k i = 1 then lyR m t k i v else m)) := by
  refine gCo.of mwX7_lay (Nat.le_of_ble_eq_true rfl) ?_
  intro F hF
  have h0 := hR.1
  obtain ⟨-, -, -, -, -, -, -, -, -, -, -, -, h12, h13, h14⟩ := id hR
  unfold xLayR at hF
  refine j_iload_n (q := 1) dX7_lay_0 rfl (by rfl) ?_
  refine j_i2l (q := 2) dX7_lay_1 rfl ?_
  refine j_lconst (q := 3) (v := 0) dX7_lay_2 rfl (by decide) ?_
  refine j_ldc2 (q := 6) dX7_lay_3 rfl kX7_169 ?_
  refine o_callSi (q := 9) dX7_lay_6 rfl lX7_55 mwX7_in msX7_in (by rfl) rfl (Nat.le_of_ble_eq_true (by rfl)) (by first | decide | omega) (cM_inI E σ m hi k 0 3 (by decide) (by decide)) ?_
  refine j_if_ne (q := 12) (tgt := 14) dX7_lay_9 rfl (by decide) (fun h9 => ?_) (fun h9 => ?_)
  · obtain ⟨j, hj, ej⟩ := swN_wi (n := 3) (by decide) h9
    subst ej
    rw [if_pos (sWi_1 h9), nI_clamp (by omega)] at hF
    have i4 : gIdx (nI j) 4 j := gIdx.of rfl (by omega) (by decide)
    have hj' := hH j (by omega)
    refine j_aload_n (q := 15) dX7_lay_14 rfl (by rfl) ?_
    refine j_getr (q := 18) dX7_lay_15 rfl fX7_44 (by first | with_reducible assumption | assumption) (by rfl) ?_
    refine j_iload_n (q := 19) dX7_lay_18 rfl (by rfl) ?_
    refine j_iaload (q := 20) dX7_lay_19 rfl (by first | with_reducible assumption | assumption) (by first | with_reducible assumption | assumption) ?_
    refine j_bipush (q := 22) (v := (-4)) dX7_lay_20 rfl (by decide) ?_
    by_cases hln : m.1 (t + 12) j = -4
    · have hz : szR m t j = -4 := if_pos hln
      rw [hz, show fS (-4) 0 0 i.toInt = 1 from if_pos (by decide), if_neg (by decide)] at hF
      rw [hln]
      refine j_icmp_ne (q := 25) (tgt := 28) dX7_lay_22 rfl (by decide) (fun h22 => ?_) (fun h22 => ?_)
      · exact absurd rfl h22
      refine j_bipush (q := 27) (v := (-11)) dX7_lay_25 rfl (by decide) ?_
      refine o_iret hF rfl dX7_lay_27 ?_
      exact ⟨rfl, rfl⟩
    · have hz : szR m t j = m.1 (t + 13) j := if_neg hln
      obtain ⟨⟨a, ha2, ea⟩, s, hs40, es⟩ := hj'.resolve_left hln
      rw [hz, es] at hF
      have hI := cM_inI E σ m hi i 0 (nI s - 1) (L := 0) (H := (nI s - 1).toInt64) (by decide) rfl
      rw [sHas_wi _ (by omega)] at hI
      refine j_icmp_ne (q := 25) (tgt := 28) dX7_lay_22 rfl (by decide) (fun h22 => ?_) (fun h22 => ?_)
      · refine j_iload_n (q := 29) dX7_lay_28 rfl (by rfl) ?_
        refine j_i2l (q := 30) dX7_lay_29 rfl ?_
        refine j_lconst (q := 31) (v := 0) dX7_lay_30 rfl (by decide) ?_
        refine j_aload_n (q := 32) dX7_lay_31 rfl (by rfl) ?_
        refine j_getr (q := 35) dX7_lay_32 rfl fX7_47 (by first | with_reducible assumption | assumption) (by rfl) ?_
        refine j_iload_n (q := 36) dX7_lay_35 rfl (by rfl) ?_
        refine j_iaload (q := 37) dX7_lay_36 rfl (by first | with_reducible assumption | assumption) (by first | with_reducible assumption | assumption) ?_
        rw [es]
        refine j_iconst (q := 38) (v := 1) dX7_lay_37 rfl (by decide) ?_
        refine j_isub (q := 39) dX7_lay_38 rfl ?_
        refine j_i2l (q := 40) dX7_lay_39 rfl ?_
        refine o_callSi (q := 43) dX7_lay_40 rfl lX7_55 mwX7_in msX7_in (by rfl) rfl (Nat.le_of_ble_eq_true (by rfl)) (by first | decide | omega) (hI) ?_
        rcases sHas_t (s := s) (by omega) i with ⟨e1, e2⟩ | ⟨p, hp, ep, e1, e2, e3⟩
        · have hf : fS (nI s) 0 0 i.toInt = 2 := by
            unfold fS
            rw [if_neg (nI_pos (by omega)), if_neg (fun q => q rfl), if_pos e2]
          rw [hf, if_neg (by decide)] at hF
          rw [e1]
          refine j_if_ne (q := 46) (tgt := 49) dX7_lay_43 rfl (by decide) (fun h43 => ?_) (fun h43 => ?_)
          · exact absurd rfl h43
          refine j_bipush (q := 48) (v := (-12)) dX7_lay_46 rfl (by decide) ?_
          refine o_iret hF rfl dX7_lay_48 ?_
          exact ⟨rfl, rfl⟩
        · have hf : fS (nI s) 0 0 i.toInt = 0 := by
            unfold fS
            rw [if_neg (nI_pos (by omega)), if_neg (fun q => q rfl), if_neg (by omega)]
          rw [hf, if_pos rfl, if_pos rfl] at hF
          rw [e1]
          subst ep
          have ix : gIdx (40 * nI j + nI p) 160 (40 * j + p) := gIdx.of (by rw [show (40 : Int32) * nI j = nI (40 * j) from pk_mul 40 j, nI_add]) (by omega) (by decide)
          have hfin : ∀ z : Int32, z = (if m.1 (t + 12) j = 0 then v.toInt16.toInt32 else v) → gW m (t + 14) (40 * j + p) z = lyR m t (nI j) (nI p) v := by
            intro z hz
            unfold lyR
            rw [nI_clamp (by omega), nI_clamp (by omega), hz]
          refine j_if_ne (q := 46) (tgt := 49) dX7_lay_43 rfl (by decide) (fun h43 => ?_) (fun h43 => ?_)
          · refine j_aload_n (q := 50) dX7_lay_49 rfl (by rfl) ?_
            refine j_getr (q := 53) dX7_lay_50 rfl fX7_50 (by first | with_reducible assumption | assumption) (by rfl) ?_
            refine j_bipush (q := 55) (v := 40) dX7_lay_53 rfl (by decide) ?_
            refine j_iload_n (q := 56) dX7_lay_55 rfl (by rfl) ?_
            refine j_imul (q := 57) dX7_lay_56 rfl ?_
            refine j_iload_n (q := 58) dX7_lay_57 rfl (by rfl) ?_
            refine j_iadd (q := 59) dX7_lay_58 rfl ?_
            refine j_aload_n (q := 60) dX7_lay_59 rfl (by rfl) ?_
            refine j_getr (q := 63) dX7_lay_60 rfl fX7_44 (by first | with_reducible assumption | assumption) (by rfl) ?_
            refine j_iload_n (q := 64) dX7_lay_63 rfl (by rfl) ?_
            refine j_iaload (q := 65) dX7_lay_64 rfl (by first | with_reducible assumption | assumption) (by first | with_reducible assumption | assumption) ?_
            refine j_if_ne (q := 68) (tgt := 78) dX7_lay_65 rfl (by decide) (fun h65 => ?_) (fun h65 => ?_)
            · refine j_iload_n (q := 79) dX7_lay_78 rfl (by rfl) ?_
              refine j_iastore (q := 80) dX7_lay_79 rfl (by first | with_reducible assumption | assumption) (by first | with_reducible assumption | assumption) ?_
              refine j_iconst (q := 81) (v := 1) dX7_lay_80 rfl (by decide) ?_
              refine o_iret hF rfl dX7_lay_81 ?_
              exact ⟨rfl, hfin _ (if_neg h65).symm⟩
            · refine j_iload_n (q := 69) dX7_lay_68 rfl (by rfl) ?_
              refine j_bipush (q := 71) (v := 16) dX7_lay_69 rfl (by decide) ?_
              refine j_ishl (q := 72) dX7_lay_71 rfl ?_
              refine j_bipush (q := 74) (v := 16) dX7_lay_72 rfl (by decide) ?_
              refine j_ishr (q := 75) dX7_lay_74 rfl ?_
              rw [sh16]
              refine j_goto (tgt := 79) dX7_lay_75 (by decide) ?_
              refine j_iastore (q := 80) dX7_lay_79 rfl (by first | with_reducible assumption | assumption) (by first | with_reducible assumption | assumption) ?_
              refine j_iconst (q := 81) (v := 1) dX7_lay_80 rfl (by decide) ?_
              refine o_iret hF rfl dX7_lay_81 ?_
              exact ⟨rfl, hfin _ (if_pos (by first | exact h65 | exact Decidable.not_not.mp h65)).symm⟩
          · exact absurd h43 (by decide)
      · exact absurd (by first | exact h22 | exact Decidable.not_not.mp h22) hln
  · have h9' := sWi_0 (by first | exact h9 | exact Decidable.not_not.mp h9)
    rw [if_neg h9', if_neg (by decide)] at hF
    refine j_iconst (q := 13) (v := (-1)) dX7_lay_12 rfl (by decide) ?_
    refine o_iret hF rfl dX7_lay_13 ?_
    exact ⟨rfl, rfl⟩
def xCountR (m : gMem) (t : Nat) (k : Int32) : Int32 := match swN k 5 with
  | some 0 => m.1 t 23
  | some 1 => (if m.1 (t + 11) 0 = 0 then 0 else 1) + (if m.1 (t + 11) 1 = 0 then 0 else 1)
  | some 2 => m.1 t 5
  | some 3 => szR m t 0
  | some 4 => sumP (pgR m t 0) 1
  | some 5 => sumW (pgR m t 0) (rws (pgR m t 0))
  | _ => -1
theorem cM_count (E : gEv) (σ : gSg) (m : gMem) (hi t : Nat) (k : Int32) (hR : gR σ t) (ho : okM m t) : gCo E yX7_count cX7_count 4 (some .int) 1 [.ref t, .int k] σ m hi (gX (some (.int (xCountR m t k))) m) := by
  refine gCo.of mwX7_count (Nat.le_of_ble_eq_true rfl) ?_
  intro F hF
  have h0 := hR.1
  have h1 := hR.2.1
  obtain ⟨-, -, -, -, -, -, -, -, -, -, -, h11, h12, h13, h14⟩ := id hR
  have i49 : gIdx 49 318 49 := gIdx.of rfl (by decide) (by decide)
  have hix : gIdx 0 4 0 := gIdx.of rfl (by omega) (by decide)
  have hix0 : gIdx 0 2 0 := gIdx.of rfl (by omega) (by decide)
  have hix1 : gIdx 1 2 1 := gIdx.of rfl (by omega) (by decide)
  obtain ⟨r, hh, e1, e2, -, -⟩ := ho.2
  have hrw : rws (pgR m t 0) = r := by unfold rws; rw [e1, nI_clamp (by omega)]
  have hSu := cM_sumOn E σ m hi t 0 1 (by decide) hR (by decide) ho.1
  have K33 : (gJ E yX7_count cX7_count 4 (some .int) (gRm 1 0 0) F 33 ([some (.ref t), some (.int k), some (.int (sumW (pgR m t 0) r)), some (.int (nI r))]) ([]) 0 0 σ (m) hi) := by
    refine j_iload_n (q := 34) dX7_count_33 rfl (by rfl) ?_
    rcases gSw k 5 (by decide) with hsw | ⟨ksw, hksw, hkse⟩
    · refine j_tableOut (tgt := 144) dX7_count_34 hsw (by decide) ?_
      refine j_iconst (q := 145) (v := (-1)) dX7_count_144 rfl (by decide) ?_
      refine o_iret hF rfl dX7_count_145 ?_
      exact ⟨by unfold xCountR; rw [swN_out hsw], rfl⟩
    · match ksw, hksw, hkse with
      | 0, _, hkse =>
        subst hkse
        refine j_tableIn (off := 38) (tgt := 72) dX7_count_34 (by decide) (by decide) (by rfl) (by decide) ?_
        refine j_aload_n (q := 73) dX7_count_72 rfl (by rfl) ?_
        refine j_geti (q := 76) dX7_count_73 rfl fX7_126 (by first | with_reducible assumption | assumption) (by rfl) ?_
        refine o_iret hF rfl dX7_count_76 ?_
        exact ⟨by unfold xCountR; rw [swN_in (by decide) (by decide)]; try rfl, rfl⟩
      | 1, _, hkse =>
        subst hkse
        refine j_tableIn (off := 43) (tgt := 77) dX7_count_34 (by decide) (by decide) (by rfl) (by decide) ?_
        refine j_aload_n (q := 78) dX7_count_77 rfl (by rfl) ?_
        refine j_getr (q := 81) dX7_count_78 rfl fX7_40 (by first | with_reducible assumption | assumption) (by rfl) ?_
        refine j_iconst (q := 82) (v := 0) dX7_count_81 rfl (by decide) ?_
        refine j_zaload (q := 83) dX7_count_82 rfl (by first | with_reducible assumption | assumption) (by first | with_reducible assumption | assumption) ?_
        refine j_if_eq (q := 86) (tgt := 90) dX7_count_83 rfl (by decide) (fun h83 => ?_) (fun h83 => ?_)
        · refine j_iconst (q := 91) (v := 0) dX7_count_90 rfl (by decide) ?_
          refine j_aload_n (q := 92) dX7_count_91 rfl (by rfl) ?_
          refine j_getr (q := 95) dX7_count_92 rfl fX7_40 (by first | with_reducible assumption | assumption) (by rfl) ?_
          refine j_iconst (q := 96) (v := 1) dX7_count_95 rfl (by decide) ?_
          refine j_zaload (q := 97) dX7_count_96 rfl (by first | with_reducible assumption | assumption) (by first | with_reducible assumption | assumption) ?_
          refine j_if_eq (q := 100) (tgt := 104) dX7_count_97 rfl (by decide) (fun h97 => ?_) (fun h97 => ?_)
          · refine j_iconst (q := 105) (v := 0) dX7_count_104 rfl (by decide) ?_
            refine j_iadd (q := 106) dX7_count_105 rfl ?_
            refine o_iret hF rfl dX7_count_106 ?_
            exact ⟨by unfold xCountR; rw [swN_in (by decide) (by decide)]; simp [*], rfl⟩
          · refine j_iconst (q := 101) (v := 1) dX7_count_100 rfl (by decide) ?_
            refine j_goto (tgt := 105) dX7_count_101 (by decide) ?_
            refine j_iadd (q := 106) dX7_count_105 rfl ?_
            refine o_iret hF rfl dX7_count_106 ?_
            exact ⟨by unfold xCountR; rw [swN_in (by decide) (by decide)]; simp [*], rfl⟩
        · refine j_iconst (q := 87) (v := 1) dX7_count_86 rfl (by decide) ?_
          refine j_goto (tgt := 91) dX7_count_87 (by decide) ?_
          refine j_aload_n (q := 92) dX7_count_91 rfl (by rfl) ?_
          refine j_getr (q := 95) dX7_count_92 rfl fX7_40 (by first | with_reducible assumption | assumption) (by rfl) ?_
          refine j_iconst (q := 96) (v := 1) dX7_count_95 rfl (by decide) ?_
          refine j_zaload (q := 97) dX7_count_96 rfl (by first | with_reducible assumption | assumption) (by first | with_reducible assumption | assumption) ?_
          refine j_if_eq (q := 100) (tgt := 104) dX7_count_97 rfl (by decide) (fun h97 => ?_) (fun h97 => ?_)
          · refine j_iconst (q := 105) (v := 0) dX7_count_104 rfl (by decide) ?_
            refine j_iadd (q := 106) dX7_count_105 rfl ?_
            refine o_iret hF rfl dX7_count_106 ?_
            exact ⟨by unfold xCountR; rw [swN_in (by decide) (by decide)]; simp [*], rfl⟩
          · refine j_iconst (q := 101) (v := 1) dX7_count_100 rfl (by decide) ?_
            refine j_goto (tgt := 105) dX7_count_101 (by decide) ?_
            refine j_iadd (q := 106) dX7_count_105 rfl ?_
            refine o_iret hF rfl dX7_count_106 ?_
            exact ⟨by unfold xCountR; rw [swN_in (by decide) (by decide)]; simp [*], rfl⟩
      | 2, _, hkse =>
        subst hkse
        refine j_tableIn (off := 73) (tgt := 107) dX7_count_34 (by decide) (by decide) (by rfl) (by decide) ?_
        refine j_aload_n (q := 108) dX7_count_107 rfl (by rfl) ?_
        refine j_geti (q := 111) dX7_count_108 rfl fX7_59 (by first | with_reducible assumption | assumption) (by rfl) ?_
        refine o_iret hF rfl dX7_count_111 ?_
        exact ⟨by unfold xCountR; rw [swN_in (by decide) (by decide)]; try rfl, rfl⟩
      | 3, _, hkse =>
        subst hkse
        refine j_tableIn (off := 78) (tgt := 112) dX7_count_34 (by decide) (by decide) (by rfl) (by decide) ?_
        refine j_aload_n (q := 113) dX7_count_112 rfl (by rfl) ?_
        refine j_getr (q := 116) dX7_count_113 rfl fX7_44 (by first | with_reducible assumption | assumption) (by rfl) ?_
        refine j_iconst (q := 117) (v := 0) dX7_count_116 rfl (by decide) ?_
        refine j_iaload (q := 118) dX7_count_117 rfl (by first | with_reducible assumption | assumption) (by first | with_reducible assumption | assumption) ?_
        refine j_bipush (q := 120) (v := (-4)) dX7_count_118 rfl (by decide) ?_
        refine j_icmp_ne (q := 123) (tgt := 128) dX7_count_120 rfl (by decide) (fun h120 => ?_) (fun h120 => ?_)
        · refine j_aload_n (q := 129) dX7_count_128 rfl (by rfl) ?_
          refine j_getr (q := 132) dX7_count_129 rfl fX7_47 (by first | with_reducible assumption | assumption) (by rfl) ?_
          refine j_iconst (q := 133) (v := 0) dX7_count_132 rfl (by decide) ?_
          refine j_iaload (q := 134) dX7_count_133 rfl (by first | with_reducible assumption | assumption) (by first | with_reducible assumption | assumption) ?_
          refine o_iret hF rfl dX7_count_134 ?_
          exact ⟨by unfold xCountR szR; rw [swN_in (by decide) (by decide)]; first | exact congrArg (fun z => some (Value.int z)) (if_neg h120).symm | exact congrArg (fun z => some (Value.int z)) (if_pos (by first | exact h120 | exact Decidable.not_not.mp h120)).symm, rfl⟩
        · refine j_bipush (q := 125) (v := (-4)) dX7_count_123 rfl (by decide) ?_
          refine j_goto (tgt := 134) dX7_count_125 (by decide) ?_
          refine o_iret hF rfl dX7_count_134 ?_
          exact ⟨by unfold xCountR szR; rw [swN_in (by decide) (by decide)]; first | exact congrArg (fun z => some (Value.int z)) (if_neg h120).symm | exact congrArg (fun z => some (Value.int z)) (if_pos (by first | exact h120 | exact Decidable.not_not.mp h120)).symm, rfl⟩
      | 4, _, hkse =>
        subst hkse
        refine j_tableIn (off := 101) (tgt := 135) dX7_count_34 (by decide) (by decide) (by rfl) (by decide) ?_
        refine j_aload_n (q := 136) dX7_count_135 rfl (by rfl) ?_
        refine j_iconst (q := 137) (v := 0) dX7_count_136 rfl (by decide) ?_
        refine j_iconst (q := 138) (v := 4) dX7_count_137 rfl (by decide) ?_
        refine o_callVi (q := 141) dX7_count_138 rfl lX7_157 mwX7_sumOn mvX7_sumOn cn7 (by assumption) (by rfl) rfl (Nat.le_of_ble_eq_true (by rfl)) (by first | decide | omega) (hSu) ?_
        refine o_iret hF rfl dX7_count_141 ?_
        exact ⟨by unfold xCountR; rw [swN_in (by decide) (by decide)]; try rfl, rfl⟩
      | 5, _, hkse =>
        subst hkse
        refine j_tableIn (off := 108) (tgt := 142) dX7_count_34 (by decide) (by decide) (by rfl) (by decide) ?_
        refine j_iload_n (q := 143) dX7_count_142 rfl (by rfl) ?_
        refine o_iret hF rfl dX7_count_143 ?_
        exact ⟨by unfold xCountR; rw [swN_in (by decide) (by decide), hrw]; try rfl, rfl⟩
      | k + 6, h, _ => exact absurd h (by omega)
  have K4 : ∀ (z i : Nat), i + z = r → (gJ E yX7_count cX7_count 4 (some .int) (gRm 1 0 0) F 4 ([some (.ref t), some (.int k), some (.int (sumW (pgR m t 0) i)), some (.int (nI i))]) ([]) 0 0 σ (m) hi) := by
    intro z
    induction z with
    | zero =>
      intro i hiz
      have hir : i = r := by omega
      subst hir
      refine j_iload_n (q := 5) dX7_count_4 rfl (by rfl) ?_
      refine j_aload_n (q := 6) dX7_count_5 rfl (by rfl) ?_
      refine j_getr (q := 9) dX7_count_6 rfl fX7_7 (by first | with_reducible assumption | assumption) (by rfl) ?_
      refine j_bipush (q := 11) (v := 49) dX7_count_9 rfl (by decide) ?_
      refine j_iaload (q := 12) dX7_count_11 rfl (by first | with_reducible assumption | assumption) (by first | with_reducible assumption | assumption) ?_
      rw [r0_j m t (by omega), e1]
      refine j_icmp_ge (q := 15) (tgt := 33) dX7_count_12 rfl (by decide) (fun h12' => ?_) (fun h12' => ?_)
      · exact K33
      · exact absurd (Int32.le_refl _) h12'
    | succ z ih =>
      intro i hiz
      have ix : gIdx (25 + nI i) 318 (25 + i) := gIdx.of (nI_add 25 i) (by omega) (by decide)
      refine j_iload_n (q := 5) dX7_count_4 rfl (by rfl) ?_
      refine j_aload_n (q := 6) dX7_count_5 rfl (by rfl) ?_
      refine j_getr (q := 9) dX7_count_6 rfl fX7_7 (by first | with_reducible assumption | assumption) (by rfl) ?_
      refine j_bipush (q := 11) (v := 49) dX7_count_9 rfl (by decide) ?_
      refine j_iaload (q := 12) dX7_count_11 rfl (by first | with_reducible assumption | assumption) (by first | with_reducible assumption | assumption) ?_
      rw [r0_j m t (by omega), e1]
      refine j_icmp_ge (q := 15) (tgt := 33) dX7_count_12 rfl (by decide) (fun h12' => ?_) (fun h12' => ?_)
      · exact absurd h12' (nI_ge (by omega) (by omega))
      refine j_iload_n (q := 16) dX7_count_15 rfl (by rfl) ?_
      refine j_aload_n (q := 17) dX7_count_16 rfl (by rfl) ?_
      refine j_getr (q := 20) dX7_count_17 rfl fX7_7 (by first | with_reducible assumption | assumption) (by rfl) ?_
      refine j_bipush (q := 22) (v := 25) dX7_count_20 rfl (by decide) ?_
      refine j_iload_n (q := 23) dX7_count_22 rfl (by rfl) ?_
      refine j_iadd (q := 24) dX7_count_23 rfl ?_
      refine j_iaload (q := 25) dX7_count_24 rfl (by first | with_reducible assumption | assumption) (by first | with_reducible assumption | assumption) ?_
      rw [r0_j m t (by omega)]
      refine j_iadd (q := 26) dX7_count_25 rfl ?_
      refine j_istore_n (q := 27) dX7_count_26 rfl (by decide) ?_
      refine j_iinc (q := 30) dX7_count_27 rfl (by rfl) (by first | exact nI_inc _ | rfl) (by decide) ?_
      refine j_goto (tgt := 4) dX7_count_30 (by decide) ?_
      exact ih (i + 1) (by omega)
  refine j_iconst (q := 1) (v := 0) dX7_count_0 rfl (by decide) ?_
  refine j_istore_n (q := 2) dX7_count_1 rfl (by decide) ?_
  refine j_iconst (q := 3) (v := 0) dX7_count_2 rfl (by decide) ?_
  refine j_istore_n (q := 4) dX7_count_3 rfl (by decide) ?_
  exact K4 r 0 (by omega)
