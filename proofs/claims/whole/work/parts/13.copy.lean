def rws (g : Nat → Int32) : Nat := (g 49).toNatClampNeg
def bec1 (s d : Nat → Int32) : Nat → Int32 := upd (upd (upd (upd (upd d 24 (s 24)) 49 (s 49)) 52 (s 52)) 50 (s 50)) 51 (s 51)
def bec2 (j : Nat) (s d : Nat → Int32) : Nat → Int32 := fun i => if i < 24 ∧ i % 4 < j then s i else bec1 s d i
def bec3 (j c : Nat) (s d : Nat → Int32) : Nat → Int32 := fun i => if (25 ≤ i ∧ i < 37 ∧ i - 25 < j) ∨ (37 ≤ i ∧ i < 49 ∧ i - 37 < j) then s i else bec2 c s d i
/-- page d becomes as s is: what s shows -/
def bec (s d : Nat → Int32) : Nat → Int32 := bec3 (rws s) (cnt s) s d
theorem bec2_succ {j : Nat} (hj : j < 4) (s d : Nat → Int32) : upd (upd (upd (upd (upd (upd (bec2 j s d) (4 * 0 + j) (s (4 * 0 + j))) (4 * 1 + j) (s (4 * 1 + j))) (4 * 2 + j) (s (4 * 2 + j))) (4 * 3 + j) (s (4 * 3 + j))) (4 * 4 + j) (s (4 * 4 + j))) (4 * 5 + j) (s (4 * 5 + j)) = bec2 (j + 1) s d := by
  funext i
  by_cases h5 : i = 4 * 5 + j
  · subst h5; rw [pk_us]; exact (if_pos (by omega)).symm
  rw [pk_un h5]
  by_cases h4 : i = 4 * 4 + j
  · subst h4; rw [pk_us]; exact (if_pos (by omega)).symm
  rw [pk_un h4]
  by_cases h3 : i = 4 * 3 + j
  · subst h3; rw [pk_us]; exact (if_pos (by omega)).symm
  rw [pk_un h3]
  by_cases h2 : i = 4 * 2 + j
  · subst h2; rw [pk_us]; exact (if_pos (by omega)).symm
  rw [pk_un h2]
  by_cases h1 : i = 4 * 1 + j
  · subst h1; rw [pk_us]; exact (if_pos (by omega)).symm
  rw [pk_un h1]
  by_cases h0 : i = 4 * 0 + j
  · subst h0; rw [pk_us]; exact (if_pos (by omega)).symm
  rw [pk_un h0]
  unfold bec2
  by_cases h : i < 24 ∧ i % 4 < j
  · rw [if_pos h, if_pos (by omega)]
  · rw [if_neg h, if_neg (by omega)]
theorem bec3_succ {j c : Nat} (hj : j < 12) (s d : Nat → Int32) : upd (upd (bec3 j c s d) (25 + j) (s (25 + j))) (37 + j) (s (37 + j)) = bec3 (j + 1) c s d := by
  funext i
  by_cases h5 : i = 37 + j
  · subst h5; rw [pk_us]; exact (if_pos (by omega)).symm
  rw [pk_un h5]
  by_cases h4 : i = 25 + j
  · subst h4; rw [pk_us]; exact (if_pos (by omega)).symm
  rw [pk_un h4]
  unfold bec3
  by_cases h : (25 ≤ i ∧ i < 37 ∧ i - 25 < j) ∨ (37 ≤ i ∧ i < 49 ∧ i - 37 < j)
  · rw [if_pos h, if_pos (by omega)]
  · rw [if_neg h, if_neg (by omega)]
theorem bec3_0 (c : Nat) (s d : Nat → Int32) : bec3 0 c s d = bec2 c s d := by
  funext i
  exact if_neg (by omega)
theorem bec2_0 (s d : Nat → Int32) : bec2 0 s d = bec1 s d := by
  funext i
  exact if_neg (by omega)
theorem bec1_24 (s d : Nat → Int32) : bec1 s d 24 = s 24 := by
  unfold bec1
  rw [pk_un (by decide), pk_un (by decide), pk_un (by decide), pk_un (by decide), pk_us]
theorem bec1_49 (s d : Nat → Int32) : bec1 s d 49 = s 49 := by
  unfold bec1
  rw [pk_un (by decide), pk_un (by decide), pk_un (by decide), pk_us]
theorem bec2_24 (j : Nat) (s d : Nat → Int32) : bec2 j s d 24 = s 24 := by
  unfold bec2
  rw [if_neg (by omega), bec1_24]
theorem bec3_49 (j c : Nat) (s d : Nat → Int32) : bec3 j c s d 49 = s 49 := by
  unfold bec3 bec2
  rw [if_neg (by omega), if_neg (by omega), bec1_49]
theorem cG_become (E : gEv) (σ : gSg) (m : gMem) (hi a b : Nat) (hG : gG σ a) (hGb : gG σ b) (hap : gAp a b) (hok : okC (pgC m b)) (hrk : ∃ r, pgC m b 49 = nI r ∧ r ≤ 12) : gCo E yX0_become cX0_become 3 (none) 2 [.ref a, .ref b] σ m hi (gX none (gP m a (bec (pgC m b) (pgC m a)))) := by
  refine gCo.of mwX0_become (Nat.le_of_ble_eq_true rfl) ?_
  intro F hF
  obtain ⟨h0, ⟨fv, h1, hfv⟩, h2, h3, hv⟩ := hG
  obtain ⟨b0, ⟨fb, b1, hfb⟩, b2, b3, hvb⟩ := hGb
  obtain ⟨c, hc, hc4⟩ := hok
  obtain ⟨r, hr, hr12⟩ := hrk
  have hcn : cnt (pgC m b) = c := by unfold cnt; rw [hc]; exact nI_clamp (by omega)
  have hrn : rws (pgC m b) = r := by unfold rws; rw [hr]; exact nI_clamp (by omega)
  have hne : ¬ b = a := by unfold gAp at hap; omega
  have hN : ∀ (mm : gMem) (k j : Nat) (x : Int32), (gW mm a k x).1 b j = mm.1 b j := fun mm k j x => gW_n (fun h => hne h.1)
  have hO : ∀ (g : Nat → Int32) (q k : Nat), b ≤ q → q < b + 8 → (gP m a g).1 q k = m.1 q k := fun g q k h1 h2 => gP_none (gIxP_out (by unfold gAp at hap; omega))
  have K73 : ∀ n j : Nat, j + n = r → (gJ E yX0_become cX0_become 3 (none) (gRm 2 0 0) F 73 ([some (.ref a), some (.ref b), some (.int (nI j))]) ([]) 0 0 σ (gP m a (bec3 j c (pgC m b) (pgC m a))) hi) := by
    intro n
    induction n with
    | zero =>
      intro j hj
      have hjc : j = r := by omega
      subst hjc
      refine j_iload_n (q := 74) dX0_become_73 rfl (by rfl) ?_
      refine j_aload_n (q := 75) dX0_become_74 rfl (by rfl) ?_
      refine j_geti (q := 78) dX0_become_75 rfl fX0_35 (by assumption) (by rfl) ?_
      rw [gP_some (gIxP_n4 a), bec3_49, hr]
      refine j_icmp_ge (q := 81) (tgt := 111) dX0_become_78 rfl (by decide) (fun h78 => ?_) (fun h78 => ?_)
      · refine o_vret hF rfl dX0_become_111 ?_
        exact ⟨rfl, by unfold bec; rw [hcn, hrn]⟩
      · exact absurd (Int32.le_refl _) h78
    | succ n ih =>
      intro j hj
      have hj4 : j < 12 := by omega
      have hix : gIdx (nI j) 12 j := gIdx.of rfl hj4 (by decide)
      refine j_iload_n (q := 74) dX0_become_73 rfl (by rfl) ?_
      refine j_aload_n (q := 75) dX0_become_74 rfl (by rfl) ?_
      refine j_geti (q := 78) dX0_become_75 rfl fX0_35 (by assumption) (by rfl) ?_
      rw [gP_some (gIxP_n4 a), bec3_49, hr]
      refine j_icmp_ge (q := 81) (tgt := 111) dX0_become_78 rfl (by decide) (fun h78 => ?_) (fun h78 => ?_)
      · exact absurd h78 (nI_ge (by omega) (by omega))
      · refine j_aload_n (q := 82) dX0_become_81 rfl (by rfl) ?_
        refine j_getr (q := 85) dX0_become_82 rfl fX0_17 (by assumption) (by rfl) ?_
        refine j_iload_n (q := 86) dX0_become_85 rfl (by rfl) ?_
        refine j_aload_n (q := 87) dX0_become_86 rfl (by rfl) ?_
        refine j_getr (q := 90) dX0_become_87 rfl fX0_17 (by assumption) (by rfl) ?_
        refine j_iload_n (q := 91) dX0_become_90 rfl (by rfl) ?_
        refine j_iaload (q := 92) dX0_become_91 rfl (by assumption) (by assumption) ?_
        refine j_iastore (q := 93) dX0_become_92 rfl (by assumption) (by assumption) ?_
        rw [hO _ (b + 2) j (by omega) (by omega), gW_gP (gIxP_w a hj4), pg_w m b hj4]
        refine j_aload_n (q := 94) dX0_become_93 rfl (by rfl) ?_
        refine j_getr (q := 97) dX0_become_94 rfl fX0_21 (by assumption) (by rfl) ?_
        refine j_iload_n (q := 98) dX0_become_97 rfl (by rfl) ?_
        refine j_aload_n (q := 99) dX0_become_98 rfl (by rfl) ?_
        refine j_getr (q := 102) dX0_become_99 rfl fX0_21 (by assumption) (by rfl) ?_
        refine j_iload_n (q := 103) dX0_become_102 rfl (by rfl) ?_
        refine j_iaload (q := 104) dX0_become_103 rfl (by assumption) (by assumption) ?_
        refine j_iastore (q := 105) dX0_become_104 rfl (by assumption) (by assumption) ?_
        rw [hO _ (b + 3) j (by omega) (by omega), gW_gP (gIxP_c a hj4), pg_c m b hj4, bec3_succ hj4]
        refine j_iinc (q := 108) dX0_become_105 rfl (by rfl) (by first | exact nI_inc _ | rfl) (by decide) ?_
        refine j_goto (tgt := 73) dX0_become_108 (by decide) ?_
        exact ih (j + 1) (by omega)
  have K42 : ∀ n j : Nat, j + n = c → (gJ E yX0_become cX0_become 3 (none) (gRm 2 0 0) F 42 ([some (.ref a), some (.ref b), some (.int (nI j))]) ([]) 0 0 σ (gP m a (bec2 j (pgC m b) (pgC m a))) hi) := by
    intro n
    induction n with
    | zero =>
      intro j hj
      have hjc : j = c := by omega
      subst hjc
      refine j_iload_n (q := 43) dX0_become_42 rfl (by rfl) ?_
      refine j_aload_n (q := 44) dX0_become_43 rfl (by rfl) ?_
      refine j_geti (q := 47) dX0_become_44 rfl fX0_32 (by assumption) (by rfl) ?_
      rw [gP_some (gIxP_n3 a), bec2_24, hc]
      refine j_icmp_ge (q := 50) (tgt := 71) dX0_become_47 rfl (by decide) (fun h47 => ?_) (fun h47 => ?_)
      · refine j_iconst (q := 72) (v := 0) dX0_become_71 rfl (by decide) ?_
        refine j_istore_n (q := 73) dX0_become_72 rfl (by decide) ?_
        refine gJ.mm ?_ (K73 r 0 (by omega))
        rw [bec3_0]
      · exact absurd (Int32.le_refl _) h47
    | succ n ih =>
      intro j hj
      have hj4 : j < 4 := by omega
      have hix : gIdx (nI j) 4 j := gIdx.of rfl hj4 (by decide)
      have hfj := hfv j hj4
      have hvj := hv j hj4
      have hfbj := hfb j hj4
      have hvbj := hvb j hj4
      have hb := cV_become E σ (gP m a (bec2 j (pgC m b) (pgC m a))) hi (a + 4 + j) (b + 4 + j) hvj hvbj (by unfold gAp at hap; omega)
      have eb : ∀ k, k < 6 → (gP m a (bec2 j (pgC m b) (pgC m a))).1 (b + 4 + j) k = pgC m b (4 * k + j) := fun k hk => by rw [hO _ _ _ (by omega) (by omega), pg_v m b hj4 hk]
      rw [eb 0 (by decide), eb 1 (by decide), eb 2 (by decide), eb 3 (by decide), eb 4 (by decide), eb 5 (by decide)] at hb
      rw [gW_gP (gIxP_v a hj4 (by decide)), gW_gP (gIxP_v a hj4 (by decide)), gW_gP (gIxP_v a hj4 (by decide)), gW_gP (gIxP_v a hj4 (by decide)), gW_gP (gIxP_v a hj4 (by decide)), gW_gP (gIxP_v a hj4 (by decide)), bec2_succ hj4] at hb
      refine j_iload_n (q := 43) dX0_become_42 rfl (by rfl) ?_
      refine j_aload_n (q := 44) dX0_become_43 rfl (by rfl) ?_
      refine j_geti (q := 47) dX0_become_44 rfl fX0_32 (by assumption) (by rfl) ?_
      rw [gP_some (gIxP_n3 a), bec2_24, hc]
      refine j_icmp_ge (q := 50) (tgt := 71) dX0_become_47 rfl (by decide) (fun h47 => ?_) (fun h47 => ?_)
      · exact absurd h47 (nI_ge (by omega) (by omega))
      · refine j_aload_n (q := 51) dX0_become_50 rfl (by rfl) ?_
        refine j_getr (q := 54) dX0_become_51 rfl fX0_11 (by assumption) (by rfl) ?_
        refine j_iload_n (q := 55) dX0_become_54 rfl (by rfl) ?_
        refine j_aaload (q := 56) dX0_become_55 rfl (by assumption) (by decide) (by assumption) (by assumption) ?_
        refine j_aload_n (q := 57) dX0_become_56 rfl (by rfl) ?_
        refine j_getr (q := 60) dX0_become_57 rfl fX0_11 (by assumption) (by rfl) ?_
        refine j_iload_n (q := 61) dX0_become_60 rfl (by rfl) ?_
        refine j_aaload (q := 62) dX0_become_61 rfl (by assumption) (by decide) (by assumption) (by assumption) ?_
        refine o_callVv (q := 65) dX0_become_62 rfl lX0_41 mwX5_become mvX5_become cn5 (by assumption) (by rfl) rfl (Nat.le_of_ble_eq_true (by rfl)) (by decide) (hb) ?_
        refine j_iinc (q := 68) dX0_become_65 rfl (by rfl) (by first | exact nI_inc _ | rfl) (by decide) ?_
        refine j_goto (tgt := 42) dX0_become_68 (by decide) ?_
        exact ih (j + 1) (by omega)
  refine j_aload_n (q := 1) dX0_become_0 rfl (by rfl) ?_
  refine j_aload_n (q := 2) dX0_become_1 rfl (by rfl) ?_
  refine j_geti (q := 5) dX0_become_2 rfl fX0_32 (by assumption) (by rfl) ?_
  refine j_puti (q := 8) dX0_become_5 rfl fX0_32 p0_3 (by assumption) (by rfl) ?_
  refine j_aload_n (q := 9) dX0_become_8 rfl (by rfl) ?_
  refine j_aload_n (q := 10) dX0_become_9 rfl (by rfl) ?_
  refine j_geti (q := 13) dX0_become_10 rfl fX0_35 (by assumption) (by rfl) ?_
  refine j_puti (q := 16) dX0_become_13 rfl fX0_35 p0_4 (by assumption) (by rfl) ?_
  refine j_aload_n (q := 17) dX0_become_16 rfl (by rfl) ?_
  refine j_aload_n (q := 18) dX0_become_17 rfl (by rfl) ?_
  refine j_geti (q := 21) dX0_become_18 rfl fX0_38 (by assumption) (by rfl) ?_
  refine j_puti (q := 24) dX0_become_21 rfl fX0_38 p0_5 (by assumption) (by rfl) ?_
  refine j_aload_n (q := 25) dX0_become_24 rfl (by rfl) ?_
  refine j_aload_n (q := 26) dX0_become_25 rfl (by rfl) ?_
  refine j_geti (q := 29) dX0_become_26 rfl fX0_24 (by assumption) (by rfl) ?_
  refine j_puti (q := 32) dX0_become_29 rfl fX0_24 p0_6 (by assumption) (by rfl) ?_
  refine j_aload_n (q := 33) dX0_become_32 rfl (by rfl) ?_
  refine j_aload_n (q := 34) dX0_become_33 rfl (by rfl) ?_
  refine j_geti (q := 37) dX0_become_34 rfl fX0_28 (by assumption) (by rfl) ?_
  refine j_puti (q := 40) dX0_become_37 rfl fX0_28 p0_7 (by assumption) (by rfl) ?_
  refine j_iconst (q := 41) (v := 0) dX0_become_40 rfl (by decide) ?_
  refine j_istore_n (q := 42) dX0_become_41 rfl (by decide) ?_
  refine gJ.mm ?_ (K42 c 0 (by omega))
  simp only [hN]
  rw [gW_pg (gIxP_n3 a), gW_gP (gIxP_n4 a), gW_gP (gIxP_n5 a), gW_gP (gIxP_n6 a), gW_gP (gIxP_n7 a), pg_3 m b, pg_4 m b, pg_5 m b, pg_6 m b, pg_7 m b, bec2_0]
  rfl
/-- moods alone: heats, frets, wents of the first j -/
def moo (j : Nat) (s d : Nat → Int32) : Nat → Int32 := fun i => if 12 ≤ i ∧ i < 24 ∧ i % 4 < j then s i else d i
theorem moo_succ {j : Nat} (hj : j < 4) (s d : Nat → Int32) : upd (upd (upd (moo j s d) (4 * 3 + j) (s (4 * 3 + j))) (4 * 4 + j) (s (4 * 4 + j))) (4 * 5 + j) (s (4 * 5 + j)) = moo (j + 1) s d := by
  funext i
  by_cases h5 : i = 4 * 5 + j
  · subst h5; rw [pk_us]; exact (if_pos (by omega)).symm
  rw [pk_un h5]
  by_cases h4 : i = 4 * 4 + j
  · subst h4; rw [pk_us]; exact (if_pos (by omega)).symm
  rw [pk_un h4]
  by_cases h3 : i = 4 * 3 + j
  · subst h3; rw [pk_us]; exact (if_pos (by omega)).symm
  rw [pk_un h3]
  unfold moo
  by_cases h : 12 ≤ i ∧ i < 24 ∧ i % 4 < j
  · rw [if_pos h, if_pos (by omega)]
  · rw [if_neg h, if_neg (by omega)]
theorem moo_0 (s d : Nat → Int32) : moo 0 s d = d := by
  funext i
  exact if_neg (by omega)
theorem moo_24 (j : Nat) (s d : Nat → Int32) : moo j s d 24 = d 24 := if_neg (by omega)
theorem cG_takeMoods (E : gEv) (σ : gSg) (m : gMem) (hi a b : Nat) (hG : gG σ a) (hGb : gG σ b) (hap : gAp a b) (hok : okC (pgC m a)) : gCo E yX0_takeMoods cX0_takeMoods 3 (none) 1 [.ref a, .ref b] σ m hi (gX none (gP m a (moo (cnt (pgC m a)) (pgC m b) (pgC m a)))) := by
  refine gCo.of mwX0_takeMoods (Nat.le_of_ble_eq_true rfl) ?_
  intro F hF
  obtain ⟨h0, ⟨fv, h1, hfv⟩, h2, h3, hv⟩ := hG
  obtain ⟨b0, ⟨fb, b1, hfb⟩, b2, b3, hvb⟩ := hGb
  obtain ⟨c, hc, hc4⟩ := hok
  have hcn : cnt (pgC m a) = c := by unfold cnt; rw [hc]; exact nI_clamp (by omega)
  have hO : ∀ (g : Nat → Int32) (q k : Nat), b ≤ q → q < b + 8 → (gP m a g).1 q k = m.1 q k := fun g q k h1 h2 => gP_none (gIxP_out (by unfold gAp at hap; omega))
  have K2 : ∀ n j : Nat, j + n = c → (gJ E yX0_takeMoods cX0_takeMoods 3 (none) (gRm 1 0 0) F 2 ([some (.ref a), some (.ref b), some (.int (nI j))]) ([]) 0 0 σ (gP m a (moo j (pgC m b) (pgC m a))) hi) := by
    intro n
    induction n with
    | zero =>
      intro j hj
      have hjc : j = c := by omega
      subst hjc
      refine j_iload_n (q := 3) dX0_takeMoods_2 rfl (by rfl) ?_
      refine j_aload_n (q := 4) dX0_takeMoods_3 rfl (by rfl) ?_
      refine j_geti (q := 7) dX0_takeMoods_4 rfl fX0_32 (by assumption) (by rfl) ?_
      rw [gP_some (gIxP_n3 a), moo_24, hc]
      refine j_icmp_ge (q := 10) (tgt := 31) dX0_takeMoods_7 rfl (by decide) (fun h7 => ?_) (fun h7 => ?_)
      · refine o_vret hF rfl dX0_takeMoods_31 ?_
        exact ⟨rfl, by rw [hcn]⟩
      · exact absurd (Int32.le_refl _) h7
    | succ n ih =>
      intro j hj
      have hj4 : j < 4 := by omega
      have hix : gIdx (nI j) 4 j := gIdx.of rfl hj4 (by decide)
      have hfj := hfv j hj4
      have hvj := hv j hj4
      have hfbj := hfb j hj4
      have hvbj := hvb j hj4
      have hb := cV_takeMood E σ (gP m a (moo j (pgC m b) (pgC m a))) hi (a + 4 + j) (b + 4 + j) hvj hvbj (by unfold gAp at hap; omega)
      have eb : ∀ k, k < 6 → (gP m a (moo j (pgC m b) (pgC m a))).1 (b + 4 + j) k = pgC m b (4 * k + j) := fun k hk => by rw [hO _ _ _ (by omega) (by omega), pg_v m b hj4 hk]
      rw [eb 3 (by decide), eb 4 (by decide), eb 5 (by decide)] at hb
      rw [gW_gP (gIxP_v a hj4 (by decide)), gW_gP (gIxP_v a hj4 (by decide)), gW_gP (gIxP_v a hj4 (by decide)), moo_succ hj4] at hb
      refine j_iload_n (q := 3) dX0_takeMoods_2 rfl (by rfl) ?_
      refine j_aload_n (q := 4) dX0_takeMoods_3 rfl (by rfl) ?_
      refine j_geti (q := 7) dX0_takeMoods_4 rfl fX0_32 (by assumption) (by rfl) ?_
      rw [gP_some (gIxP_n3 a), moo_24, hc]
      refine j_icmp_ge (q := 10) (tgt := 31) dX0_takeMoods_7 rfl (by decide) (fun h7 => ?_) (fun h7 => ?_)
      · exact absurd h7 (nI_ge (by omega) (by omega))
      · refine j_aload_n (q := 11) dX0_takeMoods_10 rfl (by rfl) ?_
        refine j_getr (q := 14) dX0_takeMoods_11 rfl fX0_11 (by assumption) (by rfl) ?_
        refine j_iload_n (q := 15) dX0_takeMoods_14 rfl (by rfl) ?_
        refine j_aaload (q := 16) dX0_takeMoods_15 rfl (by assumption) (by decide) (by assumption) (by assumption) ?_
        refine j_aload_n (q := 17) dX0_takeMoods_16 rfl (by rfl) ?_
        refine j_getr (q := 20) dX0_takeMoods_17 rfl fX0_11 (by assumption) (by rfl) ?_
        refine j_iload_n (q := 21) dX0_takeMoods_20 rfl (by rfl) ?_
        refine j_aaload (q := 22) dX0_takeMoods_21 rfl (by assumption) (by decide) (by assumption) (by assumption) ?_
        refine o_callVv (q := 25) dX0_takeMoods_22 rfl lX0_45 mwX5_takeMood mvX5_takeMood cn5 (by assumption) (by rfl) rfl (Nat.le_of_ble_eq_true (by rfl)) (by decide) (hb) ?_
        refine j_iinc (q := 28) dX0_takeMoods_25 rfl (by rfl) (by first | exact nI_inc _ | rfl) (by decide) ?_
        refine j_goto (tgt := 2) dX0_takeMoods_28 (by decide) ?_
        exact ih (j + 1) (by omega)
  refine j_iconst (q := 1) (v := 0) dX0_takeMoods_0 rfl (by decide) ?_
  refine j_istore_n (q := 2) dX0_takeMoods_1 rfl (by decide) ?_
  refine gJ.mm ?_ (K2 c 0 (by omega))
  rw [moo_0, gP_pgC]
def clr (g : Nat → Int32) : Nat → Int32 := upd (upd (upd (upd (upd g 24 0) 49 0) 52 0) 50 8) 51 4
theorem cG_clear (E : gEv) (σ : gSg) (m : gMem) (hi a : Nat) (hG : gG σ a) : gCo E yX0_clear cX0_clear 1 (none) 0 [.ref a] σ m hi (gX none (gP m a (clr (pgC m a)))) := by
  refine gCo.of mwX0_clear (Nat.le_of_ble_eq_true rfl) ?_
  intro F hF
  have h0 := hG.1
  refine j_aload_n (q := 1) dX0_clear_0 rfl (by rfl) ?_
  refine j_iconst (q := 2) (v := 0) dX0_clear_1 rfl (by decide) ?_
  refine j_puti (q := 5) dX0_clear_2 rfl fX0_32 p0_3 (by assumption) (by rfl) ?_
  refine j_aload_n (q := 6) dX0_clear_5 rfl (by rfl) ?_
  refine j_iconst (q := 7) (v := 0) dX0_clear_6 rfl (by decide) ?_
  refine j_puti (q := 10) dX0_clear_7 rfl fX0_35 p0_4 (by assumption) (by rfl) ?_
  refine j_aload_n (q := 11) dX0_clear_10 rfl (by rfl) ?_
  refine j_iconst (q := 12) (v := 0) dX0_clear_11 rfl (by decide) ?_
  refine j_puti (q := 15) dX0_clear_12 rfl fX0_38 p0_5 (by assumption) (by rfl) ?_
  refine j_aload_n (q := 16) dX0_clear_15 rfl (by rfl) ?_
  refine j_bipush (q := 18) (v := 8) dX0_clear_16 rfl (by decide) ?_
  refine j_puti (q := 21) dX0_clear_18 rfl fX0_24 p0_6 (by assumption) (by rfl) ?_
  refine j_aload_n (q := 22) dX0_clear_21 rfl (by rfl) ?_
  refine j_iconst (q := 23) (v := 4) dX0_clear_22 rfl (by decide) ?_
  refine j_puti (q := 26) dX0_clear_23 rfl fX0_28 p0_7 (by assumption) (by rfl) ?_
  refine o_vret hF rfl dX0_clear_26 ?_
  refine ⟨rfl, ?_⟩
  rw [gW_pg (gIxP_n3 a), gW_gP (gIxP_n4 a), gW_gP (gIxP_n5 a), gW_gP (gIxP_n6 a), gW_gP (gIxP_n7 a)]
  rfl
def opn (g : Nat → Int32) (c : Nat) (x z u : Int32) : Nat → Int32 := upd (upd (upd (upd (upd (upd (upd g (4 * 0 + c) x) (4 * 1 + c) z) (4 * 2 + c) u) (4 * 3 + c) 0) (4 * 4 + c) 0) (4 * 5 + c) 0) 24 (g 24 + 1)
theorem cG_moreVents (E : gEv) (σ : gSg) (m : gMem) (hi a c : Nat) (x z u : Int32) (hG : gG σ a) (hc : pgC m a 24 = nI c) (hc4 : c ≤ 4) : gCo E yX0_moreVents cX0_moreVents 4 (some .boolean) 1 [.ref a, .int x, .int z, .int u] σ m hi (gX (some (.int (if c < 4 then 1 else 0))) (if c < 4 then gP m a (opn (pgC m a) c x z u) else m)) := by
  refine gCo.of mwX0_moreVents (Nat.le_of_ble_eq_true rfl) ?_
  intro F hF
  obtain ⟨h0, ⟨fv, h1, hfv⟩, h2, h3, hv⟩ := hG
  refine j_aload_n (q := 1) dX0_moreVents_0 rfl (by rfl) ?_
  refine j_geti (q := 4) dX0_moreVents_1 rfl fX0_32 (by assumption) (by rfl) ?_
  refine j_iconst (q := 5) (v := 4) dX0_moreVents_4 rfl (by decide) ?_
  rw [pg_3, hc]
  by_cases hlt : c < 4
  · have hix : gIdx (nI c) 4 c := gIdx.of rfl hlt (by decide)
    have hfj := hfv c hlt
    have hvj := hv c hlt
    refine j_icmp_lt (q := 8) (tgt := 10) dX0_moreVents_5 rfl (by decide) (fun h5 => ?_) (fun h5 => ?_)
    · refine j_aload_n (q := 11) dX0_moreVents_10 rfl (by rfl) ?_
      refine j_getr (q := 14) dX0_moreVents_11 rfl fX0_11 (by assumption) (by rfl) ?_
      refine j_aload_n (q := 15) dX0_moreVents_14 rfl (by rfl) ?_
      refine j_geti (q := 18) dX0_moreVents_15 rfl fX0_32 (by assumption) (by rfl) ?_
      rw [pg_3, hc]
      refine j_aaload (q := 19) dX0_moreVents_18 rfl (by assumption) (by decide) (by assumption) (by assumption) ?_
      refine j_iload_n (q := 20) dX0_moreVents_19 rfl (by rfl) ?_
      refine j_iload_n (q := 21) dX0_moreVents_20 rfl (by rfl) ?_
      refine j_iload_n (q := 22) dX0_moreVents_21 rfl (by rfl) ?_
      refine o_callVv (q := 25) dX0_moreVents_22 rfl lX0_48 mwX5_begin mvX5_begin cn5 (by assumption) (by rfl) rfl (Nat.le_of_ble_eq_true (by rfl)) (by decide) (cV_begin E σ m hi (a + 4 + c) x z u hvj) ?_
      rw [gW_pg (m := m) (r := 0) (gIxP_v a hlt (by decide)), gW_gP (gIxP_v a hlt (by decide)), gW_gP (gIxP_v a hlt (by decide)), gW_gP (gIxP_v a hlt (by decide)), gW_gP (gIxP_v a hlt (by decide)), gW_gP (gIxP_v a hlt (by decide))]
      refine j_aload_n (q := 26) dX0_moreVents_25 rfl (by rfl) ?_
      refine j_dup (q := 27) dX0_moreVents_26 rfl rfl ?_
      refine j_geti (q := 30) dX0_moreVents_27 rfl fX0_32 (by assumption) (by rfl) ?_
      refine j_iconst (q := 31) (v := 1) dX0_moreVents_30 rfl (by decide) ?_
      refine j_iadd (q := 32) dX0_moreVents_31 rfl ?_
      refine j_puti (q := 35) dX0_moreVents_32 rfl fX0_32 p0_3 (by assumption) (by rfl) ?_
      refine j_iconst (q := 36) (v := 1) dX0_moreVents_35 rfl (by decide) ?_
      refine o_zret hF rfl dX0_moreVents_36 (by first | assumption | exact Or.inl rfl | exact Or.inr rfl) ?_
      rw [if_pos hlt, if_pos hlt]
      refine ⟨rfl, ?_⟩
      rw [gP_some (gIxP_n3 a), gW_gP (gIxP_n3 a)]
      rw [pk_un (by omega), pk_un (by omega), pk_un (by omega), pk_un (by omega), pk_un (by omega), pk_un (by omega)]
      rfl
    · exact absurd (show nI c < 4 from nI_lt (b := 4) hlt (by decide)) h5
  · refine j_icmp_lt (q := 8) (tgt := 10) dX0_moreVents_5 rfl (by decide) (fun h5 => ?_) (fun h5 => ?_)
    · exact absurd h5 (by
        have : c = 4 := by omega
        subst this
        decide)
    · refine j_iconst (q := 9) (v := 0) dX0_moreVents_8 rfl (by decide) ?_
      refine o_zret hF rfl dX0_moreVents_9 (by first | assumption | exact Or.inl rfl | exact Or.inr rfl) ?_
      rw [if_neg hlt, if_neg hlt]
      exact ⟨rfl, rfl⟩
def addR (g : Nat → Int32) (r : Nat) (x z : Int32) : Nat → Int32 := upd (upd (upd g (25 + r) x) (37 + r) z) 49 (g 49 + 1)
theorem cG_moreRows (E : gEv) (σ : gSg) (m : gMem) (hi a r : Nat) (x z : Int32) (hG : gG σ a) (hr : pgC m a 49 = nI r) (hr12 : r ≤ 12) : gCo E yX0_moreRows cX0_moreRows 3 (some .boolean) 0 [.ref a, .int x, .int z] σ m hi (gX (some (.int (if r < 12 then 1 else 0))) (if r < 12 then gP m a (addR (pgC m a) r x z) else m)) := by
  refine gCo.of mwX0_moreRows (Nat.le_of_ble_eq_true rfl) ?_
  intro F hF
  obtain ⟨h0, ⟨fv, h1, hfv⟩, h2, h3, hv⟩ := hG
  refine j_aload_n (q := 1) dX0_moreRows_0 rfl (by rfl) ?_
  refine j_geti (q := 4) dX0_moreRows_1 rfl fX0_35 (by assumption) (by rfl) ?_
  refine j_bipush (q := 6) (v := 12) dX0_moreRows_4 rfl (by decide) ?_
  rw [pg_4, hr]
  by_cases hlt : r < 12
  · have hix : gIdx (nI r) 12 r := gIdx.of rfl hlt (by decide)
    refine j_icmp_lt (q := 9) (tgt := 11) dX0_moreRows_6 rfl (by decide) (fun h6 => ?_) (fun h6 => ?_)
    · refine j_aload_n (q := 12) dX0_moreRows_11 rfl (by rfl) ?_
      refine j_getr (q := 15) dX0_moreRows_12 rfl fX0_17 (by assumption) (by rfl) ?_
      refine j_aload_n (q := 16) dX0_moreRows_15 rfl (by rfl) ?_
      refine j_geti (q := 19) dX0_moreRows_16 rfl fX0_35 (by assumption) (by rfl) ?_
      rw [pg_4, hr]
      refine j_iload_n (q := 20) dX0_moreRows_19 rfl (by rfl) ?_
      refine j_iastore (q := 21) dX0_moreRows_20 rfl (by assumption) (by assumption) ?_
      rw [gW_pg (gIxP_w a hlt)]
      refine j_aload_n (q := 22) dX0_moreRows_21 rfl (by rfl) ?_
      refine j_getr (q := 25) dX0_moreRows_22 rfl fX0_21 (by assumption) (by rfl) ?_
      refine j_aload_n (q := 26) dX0_moreRows_25 rfl (by rfl) ?_
      refine j_geti (q := 29) dX0_moreRows_26 rfl fX0_35 (by assumption) (by rfl) ?_
      rw [gP_some (gIxP_n4 a), pk_un (by omega), hr]
      refine j_iload_n (q := 30) dX0_moreRows_29 rfl (by rfl) ?_
      refine j_iastore (q := 31) dX0_moreRows_30 rfl (by assumption) (by assumption) ?_
      rw [gW_gP (gIxP_c a hlt)]
      refine j_aload_n (q := 32) dX0_moreRows_31 rfl (by rfl) ?_
      refine j_dup (q := 33) dX0_moreRows_32 rfl rfl ?_
      refine j_geti (q := 36) dX0_moreRows_33 rfl fX0_35 (by assumption) (by rfl) ?_
      refine j_iconst (q := 37) (v := 1) dX0_moreRows_36 rfl (by decide) ?_
      refine j_iadd (q := 38) dX0_moreRows_37 rfl ?_
      refine j_puti (q := 41) dX0_moreRows_38 rfl fX0_35 p0_4 (by assumption) (by rfl) ?_
      refine j_iconst (q := 42) (v := 1) dX0_moreRows_41 rfl (by decide) ?_
      refine o_zret hF rfl dX0_moreRows_42 (by first | assumption | exact Or.inl rfl | exact Or.inr rfl) ?_
      rw [if_pos hlt, if_pos hlt]
      refine ⟨rfl, ?_⟩
      rw [gP_some (gIxP_n4 a), gW_gP (gIxP_n4 a), pk_un (by omega), pk_un (by omega)]
      rfl
    · exact absurd (show nI r < 12 from nI_lt (b := 12) hlt (by decide)) h6
  · refine j_icmp_lt (q := 9) (tgt := 11) dX0_moreRows_6 rfl (by decide) (fun h6 => ?_) (fun h6 => ?_)
    · exact absurd h6 (by
        have : r = 12 := by omega
        subst this
        decide)
    · refine j_iconst (q := 10) (v := 0) dX0_moreRows_9 rfl (by decide) ?_
      refine o_zret hF rfl dX0_moreRows_10 (by first | assumption | exact Or.inl rfl | exact Or.inr rfl) ?_
      rw [if_neg hlt, if_neg hlt]
      exact ⟨rfl, rfl⟩
def sCho (g : Nat → Int32) (k : Int32) : Int32 := if g 24 ≤ k then 4 else k
theorem cG_choice (E : gEv) (σ : gSg) (m : gMem) (hi a : Nat) (k : Int32) (hG : gG σ a) : gCo E yX0_choice cX0_choice 2 (some .int) 0 [.ref a, .int k] σ m hi (gX (some (.int (sCho (pgC m a) k))) m) := by
  refine gCo.of mwX0_choice (Nat.le_of_ble_eq_true rfl) ?_
  intro F hF
  have h0 := hG.1
  refine j_iload_n (q := 1) dX0_choice_0 rfl (by rfl) ?_
  refine j_aload_n (q := 2) dX0_choice_1 rfl (by rfl) ?_
  refine j_geti (q := 5) dX0_choice_2 rfl fX0_32 (by assumption) (by rfl) ?_
  refine j_icmp_ge (q := 8) (tgt := 12) dX0_choice_5 rfl (by decide) (fun h5 => ?_) (fun h5 => ?_)
  · refine j_iconst (q := 13) (v := 4) dX0_choice_12 rfl (by decide) ?_
    refine o_iret hF rfl dX0_choice_13 ?_
    exact ⟨by unfold sCho; rw [← pg_3]; simp [*], rfl⟩
  · refine j_iload_n (q := 9) dX0_choice_8 rfl (by rfl) ?_
    refine j_goto (tgt := 13) dX0_choice_9 (by decide) ?_
    refine o_iret hF rfl dX0_choice_13 ?_
    exact ⟨by unfold sCho; rw [← pg_3]; simp [*], rfl⟩
def swp (g : Nat → Int32) (i j : Nat) : Nat → Int32 := upd (upd (upd (upd g (25 + i) (g (25 + j))) (37 + i) (g (37 + j))) (25 + j) (g (25 + i))) (37 + j) (g (37 + i))
theorem sHas_in {n j : Nat} {x : Int32} (hx : x = nI n) (hj : j < n) (hn : n < 2 ^ 31) : sHas x (nI j) = 1 := by
  subst hx
  unfold sHas
  rw [if_neg (nI_pos (by omega)), if_neg (nI_ge hj hn)]
theorem cG_exchange (E : gEv) (σ : gSg) (m : gMem) (hi a r i j : Nat) (hG : gG σ a) (hr : pgC m a 49 = nI r) (hr12 : r ≤ 12) (hij : i < j) (hjr : j < r) : gCo E yX0_exchange cX0_exchange 5 (none) 1 [.ref a, .int (nI i), .int (nI j)] σ m hi (gX none (gP m a (swp (pgC m a) i j))) := by
  refine gCo.of mwX0_exchange (Nat.le_of_ble_eq_true rfl) ?_
  intro F hF
  have hG0 := hG
  obtain ⟨h0, ⟨fv, h1, hfv⟩, h2, h3, hv⟩ := hG
  have hxi : gIdx (nI i) 12 i := gIdx.of rfl (by omega) (by decide)
  have hxj : gIdx (nI j) 12 j := gIdx.of rfl (by omega) (by decide)
  refine j_aload_n (q := 1) dX0_exchange_0 rfl (by rfl) ?_
  refine j_iload_n (q := 2) dX0_exchange_1 rfl (by rfl) ?_
  refine o_callVi (q := 5) dX0_exchange_2 rfl lX0_52 mwX0_hasRow mvX0_hasRow cn0 (by assumption) (by rfl) rfl (Nat.le_of_ble_eq_true (by rfl)) (by decide) (cG_hasRow E σ m hi a (nI i) hG0) ?_
  rw [sHas_in hr (by omega) (by omega)]
  refine j_if_eq (q := 8) (tgt := 70) dX0_exchange_5 rfl (by decide) (fun h5 => ?_) (fun h5 => ?_)
  · exact absurd h5 (by decide)
  refine j_aload_n (q := 9) dX0_exchange_8 rfl (by rfl) ?_
  refine j_iload_n (q := 10) dX0_exchange_9 rfl (by rfl) ?_
  refine o_callVi (q := 13) dX0_exchange_10 rfl lX0_52 mwX0_hasRow mvX0_hasRow cn0 (by assumption) (by rfl) rfl (Nat.le_of_ble_eq_true (by rfl)) (by decide) (cG_hasRow E σ m hi a (nI j) hG0) ?_
  rw [sHas_in hr hjr (by omega)]
  refine j_if_eq (q := 16) (tgt := 70) dX0_exchange_13 rfl (by decide) (fun h13 => ?_) (fun h13 => ?_)
  · exact absurd h13 (by decide)
  refine j_aload_n (q := 17) dX0_exchange_16 rfl (by rfl) ?_
  refine j_getr (q := 20) dX0_exchange_17 rfl fX0_17 (by assumption) (by rfl) ?_
  refine j_iload_n (q := 21) dX0_exchange_20 rfl (by rfl) ?_
  refine j_iaload (q := 22) dX0_exchange_21 rfl (by assumption) (by assumption) ?_
  refine j_istore_n (q := 23) dX0_exchange_22 rfl (by decide) ?_
  refine j_aload_n (q := 24) dX0_exchange_23 rfl (by rfl) ?_
  refine j_getr (q := 27) dX0_exchange_24 rfl fX0_21 (by assumption) (by rfl) ?_
  refine j_iload_n (q := 28) dX0_exchange_27 rfl (by rfl) ?_
  refine j_iaload (q := 29) dX0_exchange_28 rfl (by assumption) (by assumption) ?_
  refine j_istore (q := 31) dX0_exchange_29 rfl (by decide) ?_
  refine j_aload_n (q := 32) dX0_exchange_31 rfl (by rfl) ?_
  refine j_getr (q := 35) dX0_exchange_32 rfl fX0_17 (by assumption) (by rfl) ?_
  refine j_iload_n (q := 36) dX0_exchange_35 rfl (by rfl) ?_
  refine j_aload_n (q := 37) dX0_exchange_36 rfl (by rfl) ?_
  refine j_getr (q := 40) dX0_exchange_37 rfl fX0_17 (by assumption) (by rfl) ?_
  refine j_iload_n (q := 41) dX0_exchange_40 rfl (by rfl) ?_
  refine j_iaload (q := 42) dX0_exchange_41 rfl (by assumption) (by assumption) ?_
  refine j_iastore (q := 43) dX0_exchange_42 rfl (by assumption) (by assumption) ?_
  rw [pg_w m a (show j < 12 by omega), pg_w m a (show i < 12 by omega), pg_c m a (show i < 12 by omega), gW_pg (gIxP_w a (show i < 12 by omega))]
  refine j_aload_n (q := 44) dX0_exchange_43 rfl (by rfl) ?_
  refine j_getr (q := 47) dX0_exchange_44 rfl fX0_21 (by assumption) (by rfl) ?_
  refine j_iload_n (q := 48) dX0_exchange_47 rfl (by rfl) ?_
  refine j_aload_n (q := 49) dX0_exchange_48 rfl (by rfl) ?_
  refine j_getr (q := 52) dX0_exchange_49 rfl fX0_21 (by assumption) (by rfl) ?_
  refine j_iload_n (q := 53) dX0_exchange_52 rfl (by rfl) ?_
  refine j_iaload (q := 54) dX0_exchange_53 rfl (by assumption) (by assumption) ?_
  refine j_iastore (q := 55) dX0_exchange_54 rfl (by assumption) (by assumption) ?_
  rw [gP_some (gIxP_c a (show j < 12 by omega)), pk_un (show ¬ 37 + j = 25 + i by omega), gW_gP (gIxP_c a (show i < 12 by omega))]
  refine j_aload_n (q := 56) dX0_exchange_55 rfl (by rfl) ?_
  refine j_getr (q := 59) dX0_exchange_56 rfl fX0_17 (by assumption) (by rfl) ?_
  refine j_iload_n (q := 60) dX0_exchange_59 rfl (by rfl) ?_
  refine j_iload_n (q := 61) dX0_exchange_60 rfl (by rfl) ?_
  refine j_iastore (q := 62) dX0_exchange_61 rfl (by assumption) (by assumption) ?_
  rw [gW_gP (gIxP_w a (show j < 12 by omega))]
  refine j_aload_n (q := 63) dX0_exchange_62 rfl (by rfl) ?_
  refine j_getr (q := 66) dX0_exchange_63 rfl fX0_21 (by assumption) (by rfl) ?_
  refine j_iload_n (q := 67) dX0_exchange_66 rfl (by rfl) ?_
  refine j_iload (q := 69) dX0_exchange_67 rfl (by rfl) ?_
  refine j_iastore (q := 70) dX0_exchange_69 rfl (by assumption) (by assumption) ?_
  rw [gW_gP (gIxP_c a (show j < 12 by omega))]
  refine o_vret hF rfl dX0_exchange_70 ?_
  exact ⟨rfl, rfl⟩
abbrev asNow (g g' : Nat → Int32) : Prop := sTurn g = sTurn g' ∧ g 24 = g' 24 ∧ ∀ v, v < cnt g → g (12 + v) = g' (12 + v) ∧ g (16 + v) = g' (16 + v)
theorem cG_standsAs (E : gEv) (σ : gSg) (m : gMem) (hi a b : Nat) (hG : gG σ a) (hGb : gG σ b) (hok : okC (pgC m a)) (hokb : okC (pgC m b)) : gCo E yX0_standsAs cX0_standsAs 3 (some .boolean) 1 [.ref a, .ref b] σ m hi (gX (some (.int (if asNow (pgC m a) (pgC m b) then 1 else 0))) m) := by
  refine gCo.of mwX0_standsAs (Nat.le_of_ble_eq_true rfl) ?_
  intro F hF
  have hG0 := hG
  have hGb0 := hGb
  obtain ⟨h0, ⟨fv, h1, hfv⟩, h2, h3, hv⟩ := hG
  obtain ⟨b0, ⟨fb, b1, hfb⟩, b2, b3, hvb⟩ := hGb
  obtain ⟨c, hc, hc4⟩ := hok
  have hcn : cnt (pgC m a) = c := by unfold cnt; rw [hc]; exact nI_clamp (by omega)
  have K26 : ∀ n j : Nat, j + n = c → sTurn (pgC m a) = sTurn (pgC m b) → pgC m a 24 = pgC m b 24 → (∀ v, v < j → pgC m a (12 + v) = pgC m b (12 + v) ∧ pgC m a (16 + v) = pgC m b (16 + v)) → (gJ E yX0_standsAs cX0_standsAs 3 (some .boolean) (gRm 1 0 0) F 26 ([some (.ref a), some (.ref b), some (.int (nI j))]) ([]) 0 0 σ (m) hi) := by
    intro n
    induction n with
    | zero =>
      intro j hj et e24 hall
      have hjc : j = c := by omega
      subst hjc
      refine j_iload_n (q := 27) dX0_standsAs_26 rfl (by rfl) ?_
      refine j_aload_n (q := 28) dX0_standsAs_27 rfl (by rfl) ?_
      refine j_geti (q := 31) dX0_standsAs_28 rfl fX0_32 (by assumption) (by rfl) ?_
      rw [pg_3, hc]
      refine j_icmp_ge (q := 34) (tgt := 84) dX0_standsAs_31 rfl (by decide) (fun h31 => ?_) (fun h31 => ?_)
      · refine j_iconst (q := 85) (v := 1) dX0_standsAs_84 rfl (by decide) ?_
        refine o_zret hF rfl dX0_standsAs_85 (by first | assumption | exact Or.inl rfl | exact Or.inr rfl) ?_
        exact ⟨by rw [if_pos ⟨et, e24, fun v hv => hall v (by rw [hcn] at hv; exact hv)⟩], rfl⟩
      · exact absurd (Int32.le_refl _) h31
    | succ n ih =>
      intro j hj et e24 hall
      have hj4 : j < 4 := by omega
      have hix : gIdx (nI j) 4 j := gIdx.of rfl hj4 (by decide)
      have hfj := hfv j hj4
      have hvj := hv j hj4
      have hfbj := hfb j hj4
      have hvbj := hvb j hj4
      refine j_iload_n (q := 27) dX0_standsAs_26 rfl (by rfl) ?_
      refine j_aload_n (q := 28) dX0_standsAs_27 rfl (by rfl) ?_
      refine j_geti (q := 31) dX0_standsAs_28 rfl fX0_32 (by assumption) (by rfl) ?_
      rw [pg_3, hc]
      refine j_icmp_ge (q := 34) (tgt := 84) dX0_standsAs_31 rfl (by decide) (fun h31 => ?_) (fun h31 => ?_)
      · exact absurd h31 (nI_ge (by omega) (by omega))
      refine j_aload_n (q := 35) dX0_standsAs_34 rfl (by rfl) ?_
      refine j_getr (q := 38) dX0_standsAs_35 rfl fX0_11 (by assumption) (by rfl) ?_
      refine j_iload_n (q := 39) dX0_standsAs_38 rfl (by rfl) ?_
      refine j_aaload (q := 40) dX0_standsAs_39 rfl (by assumption) (by decide) (by assumption) (by assumption) ?_
      refine j_geti (q := 43) dX0_standsAs_40 rfl fX0_99 (by assumption) (by rfl) ?_
      refine j_aload_n (q := 44) dX0_standsAs_43 rfl (by rfl) ?_
      refine j_getr (q := 47) dX0_standsAs_44 rfl fX0_11 (by assumption) (by rfl) ?_
      refine j_iload_n (q := 48) dX0_standsAs_47 rfl (by rfl) ?_
      refine j_aaload (q := 49) dX0_standsAs_48 rfl (by assumption) (by decide) (by assumption) (by assumption) ?_
      refine j_geti (q := 52) dX0_standsAs_49 rfl fX0_99 (by assumption) (by rfl) ?_
      rw [pg_v m a hj4 (by decide), pg_v m b hj4 (by decide)]
      refine j_icmp_ne (q := 55) (tgt := 76) dX0_standsAs_52 rfl (by decide) (fun h52 => ?_) (fun h52 => ?_)
      · refine j_iconst (q := 77) (v := 0) dX0_standsAs_76 rfl (by decide) ?_
        refine o_zret hF rfl dX0_standsAs_77 (by first | assumption | exact Or.inl rfl | exact Or.inr rfl) ?_
        exact ⟨by rw [if_neg (fun h => h52 (h.2.2 j (by rw [hcn]; omega)).1)], rfl⟩
      refine j_aload_n (q := 56) dX0_standsAs_55 rfl (by rfl) ?_
      refine j_getr (q := 59) dX0_standsAs_56 rfl fX0_11 (by assumption) (by rfl) ?_
      refine j_iload_n (q := 60) dX0_standsAs_59 rfl (by rfl) ?_
      refine j_aaload (q := 61) dX0_standsAs_60 rfl (by assumption) (by decide) (by assumption) (by assumption) ?_
      refine j_geti (q := 64) dX0_standsAs_61 rfl fX0_102 (by assumption) (by rfl) ?_
      refine j_aload_n (q := 65) dX0_standsAs_64 rfl (by rfl) ?_
      refine j_getr (q := 68) dX0_standsAs_65 rfl fX0_11 (by assumption) (by rfl) ?_
      refine j_iload_n (q := 69) dX0_standsAs_68 rfl (by rfl) ?_
      refine j_aaload (q := 70) dX0_standsAs_69 rfl (by assumption) (by decide) (by assumption) (by assumption) ?_
      refine j_geti (q := 73) dX0_standsAs_70 rfl fX0_102 (by assumption) (by rfl) ?_
      rw [pg_v m a hj4 (by decide), pg_v m b hj4 (by decide)]
      refine j_icmp_eq (q := 76) (tgt := 78) dX0_standsAs_73 rfl (by decide) (fun h73 => ?_) (fun h73 => ?_)
      · refine j_iinc (q := 81) dX0_standsAs_78 rfl (by rfl) (by first | exact nI_inc _ | rfl) (by decide) ?_
        refine j_goto (tgt := 26) dX0_standsAs_81 (by decide) ?_
        refine ih (j + 1) (by omega) et e24 (fun v hv => ?_)
        by_cases hvj' : v = j
        · subst hvj'
          exact ⟨by first | exact h52 | exact Decidable.not_not.mp h52, h73⟩
        · exact hall v (by omega)
      · refine j_iconst (q := 77) (v := 0) dX0_standsAs_76 rfl (by decide) ?_
        refine o_zret hF rfl dX0_standsAs_77 (by first | assumption | exact Or.inl rfl | exact Or.inr rfl) ?_
        exact ⟨by rw [if_neg (fun h => h73 (h.2.2 j (by rw [hcn]; omega)).2)], rfl⟩
  refine j_aload_n (q := 1) dX0_standsAs_0 rfl (by rfl) ?_
  refine o_callVi (q := 4) dX0_standsAs_1 rfl lX0_56 mwX0_turn mvX0_turn cn0 (by assumption) (by rfl) rfl (Nat.le_of_ble_eq_true (by rfl)) (by decide) (cG_turn E σ m hi a hG0) ?_
  refine j_aload_n (q := 5) dX0_standsAs_4 rfl (by rfl) ?_
  refine o_callVi (q := 8) dX0_standsAs_5 rfl lX0_56 mwX0_turn mvX0_turn cn0 (by assumption) (by rfl) rfl (Nat.le_of_ble_eq_true (by rfl)) (by decide) (cG_turn E σ m hi b hGb0) ?_
  refine j_icmp_ne (q := 11) (tgt := 22) dX0_standsAs_8 rfl (by decide) (fun h8 => ?_) (fun h8 => ?_)
  · refine j_iconst (q := 23) (v := 0) dX0_standsAs_22 rfl (by decide) ?_
    refine o_zret hF rfl dX0_standsAs_23 (by first | assumption | exact Or.inl rfl | exact Or.inr rfl) ?_
    exact ⟨by rw [if_neg (fun h => h8 h.1)], rfl⟩
  refine j_aload_n (q := 12) dX0_standsAs_11 rfl (by rfl) ?_
  refine j_geti (q := 15) dX0_standsAs_12 rfl fX0_32 (by assumption) (by rfl) ?_
  refine j_aload_n (q := 16) dX0_standsAs_15 rfl (by rfl) ?_
  refine j_geti (q := 19) dX0_standsAs_16 rfl fX0_32 (by assumption) (by rfl) ?_
  refine j_icmp_eq (q := 22) (tgt := 24) dX0_standsAs_19 rfl (by decide) (fun h19 => ?_) (fun h19 => ?_)
  · refine j_iconst (q := 25) (v := 0) dX0_standsAs_24 rfl (by decide) ?_
    refine j_istore_n (q := 26) dX0_standsAs_25 rfl (by decide) ?_
    exact K26 c 0 (by omega) (by first | exact h8 | exact Decidable.not_not.mp h8) (by rw [← pg_3, ← pg_3]; exact h19) (fun v hv => absurd hv (by omega))
  · refine j_iconst (q := 23) (v := 0) dX0_standsAs_22 rfl (by decide) ?_
    refine o_zret hF rfl dX0_standsAs_23 (by first | assumption | exact Or.inl rfl | exact Or.inr rfl) ?_
    exact ⟨by rw [if_neg (fun h => h19 (by rw [pg_3, pg_3]; exact h.2.1))], rfl⟩
