abbrev xP : Type := Int32 × (Nat → Int32)
def xAlter (g : Nat → Int32) (v k z : Int32) : xP := match ixV (g 24) v with
  | none => (-1, g)
  | some j => if sFit k z = 0 then (-1, g) else match swN k 4 with
    | none => (-1, g)
    | some t => (g (4 * t + j), upd g (4 * t + j) z)
theorem sFit_in {k v : Int32} (h : ¬ sFit k v = 0) : ∃ t : Nat, t < 5 ∧ k = nI t := by
  rcases gSw k 4 (by decide) with h3 | ⟨j, h4, h5⟩
  · exact absurd (by unfold sFit; rw [swN_out h3]) h
  · exact ⟨j, by omega, h5⟩
theorem cX_alter (E : gEv) (σ : gSg) (m : gMem) (hi x : Nat) (v k z : Int32) (hN : gN σ x) (ho : okN m x) : gCo E yX6_alter cX6_alter 5 (some .int) 2 [.ref x, .int v, .int k, .int z] σ m hi (gX (some (.int (xAlter (pgC m (x + 1)) v k z).1)) (gP m (x + 1) (xAlter (pgC m (x + 1)) v k z).2)) := by
  refine gCo.of mwX6_alter (Nat.le_of_ble_eq_true rfl) ?_
  intro F hF
  have hx := hN.1
  obtain ⟨h0, ⟨fv, h1, hfv⟩, h2, h3, hvv⟩ := hN.2.1
  obtain ⟨c, hc, hc4⟩ := ho.1
  have bad : ∀ g : Nat → Int32, g = pgC m (x + 1) → m = gP m (x + 1) g := fun g e => by rw [e, gP_pgC]
  refine j_aload_n (q := 1) dX6_alter_0 rfl (by rfl) ?_
  refine j_getr (q := 4) dX6_alter_1 rfl fX6_10 (by assumption) (by rfl) ?_
  refine j_iload_n (q := 5) dX6_alter_4 rfl (by rfl) ?_
  refine o_callVi (q := 8) dX6_alter_5 rfl lX6_126 mwX0_hasVent mvX0_hasVent cn0 (by assumption) (by rfl) rfl (Nat.le_of_ble_eq_true (by rfl)) (by decide) (cG_hasVent E σ m hi (x + 1) v hN.2.1) ?_
  rcases ixV_or v hc (by omega) with ⟨hs, hv⟩ | ⟨j, hj, ej, hs, hv⟩
  · rw [hs]
    refine j_if_eq (q := 11) (tgt := 19) dX6_alter_8 rfl (by decide) (fun h8 => ?_) (fun h8 => ?_)
    · refine j_iconst (q := 20) (v := (-1)) dX6_alter_19 rfl (by decide) ?_
      refine o_iret hF rfl dX6_alter_20 ?_
      unfold xAlter
      rw [hv]
      exact ⟨rfl, bad _ rfl⟩
    · exact absurd rfl h8
  · rw [hs]
    subst ej
    have hj4 : j < 4 := by omega
    have hix : gIdx (nI j) 4 j := gIdx.of rfl hj4 (by decide)
    have hfj := hfv j hj4
    have hvj := hvv j hj4
    refine j_if_eq (q := 11) (tgt := 19) dX6_alter_8 rfl (by decide) (fun h8 => ?_) (fun h8 => ?_)
    · exact absurd h8 (by decide)
    refine j_iload_n (q := 12) dX6_alter_11 rfl (by rfl) ?_
    refine j_iload_n (q := 13) dX6_alter_12 rfl (by rfl) ?_
    refine o_callSi (q := 16) dX6_alter_13 rfl lX6_153 mwX6_fitsVent msX6_fitsVent (by rfl) rfl (Nat.le_of_ble_eq_true (by rfl)) (by decide) (cX_fitsVent E σ m hi _ _) ?_
    refine j_if_ne (q := 19) (tgt := 21) dX6_alter_16 rfl (by decide) (fun h16 => ?_) (fun h16 => ?_)
    · obtain ⟨t, ht, et⟩ := sFit_in h16
      subst et
      refine j_aload_n (q := 22) dX6_alter_21 rfl (by rfl) ?_
      refine j_getr (q := 25) dX6_alter_22 rfl fX6_10 (by assumption) (by rfl) ?_
      refine j_getr (q := 28) dX6_alter_25 rfl fX6_132 (by assumption) (by rfl) ?_
      refine j_iload_n (q := 29) dX6_alter_28 rfl (by rfl) ?_
      refine j_aaload (q := 30) dX6_alter_29 rfl (by assumption) (by decide) (by assumption) (by assumption) ?_
      refine j_iload_n (q := 31) dX6_alter_30 rfl (by rfl) ?_
      refine o_callVi (q := 34) dX6_alter_31 rfl lX6_141 mwX5_part mvX5_part cn5 (by assumption) (by rfl) rfl (Nat.le_of_ble_eq_true (by rfl)) (by decide) (cV_part E σ m hi (x + 1 + 4 + j) t (by omega) hvj) ?_
      refine j_istore (q := 36) dX6_alter_34 rfl (by decide) ?_
      refine j_aload_n (q := 37) dX6_alter_36 rfl (by rfl) ?_
      refine j_getr (q := 40) dX6_alter_37 rfl fX6_10 (by assumption) (by rfl) ?_
      refine j_getr (q := 43) dX6_alter_40 rfl fX6_132 (by assumption) (by rfl) ?_
      refine j_iload_n (q := 44) dX6_alter_43 rfl (by rfl) ?_
      refine j_aaload (q := 45) dX6_alter_44 rfl (by assumption) (by decide) (by assumption) (by assumption) ?_
      refine j_iload_n (q := 46) dX6_alter_45 rfl (by rfl) ?_
      refine j_iload_n (q := 47) dX6_alter_46 rfl (by rfl) ?_
      refine o_callVv (q := 50) dX6_alter_47 rfl lX6_157 mwX5_change mvX5_change cn5 (by assumption) (by rfl) rfl (Nat.le_of_ble_eq_true (by rfl)) (by decide) (cV_change E σ m hi (x + 1 + 4 + j) t z ht hvj) ?_
      refine j_iload (q := 52) dX6_alter_50 rfl (by rfl) ?_
      refine o_iret hF rfl dX6_alter_52 ?_
      unfold xAlter
      rw [hv]
      dsimp only
      rw [if_neg h16, swN_in (by omega) (by decide)]
      exact ⟨by rw [pg_v m (x + 1) hj4 (by omega)], by rw [gW_pg (gIxP_v (x + 1) hj4 (by omega))]⟩
    · refine j_iconst (q := 20) (v := (-1)) dX6_alter_19 rfl (by decide) ?_
      refine o_iret hF rfl dX6_alter_20 ?_
      unfold xAlter
      rw [hv]
      dsimp only
      rw [if_pos h16]
      exact ⟨rfl, bad _ rfl⟩
def xTell (g : Nat → Int32) (k v : Int32) : xP := if k = 0 ∧ 0 ≤ v ∧ v ≤ 40 then (g 50, upd g 50 v) else if k = 1 ∧ 0 ≤ v ∧ v ≤ 20 then (g 51, upd g 51 v) else (-1, g)
theorem cX_tell (E : gEv) (σ : gSg) (m : gMem) (hi x : Nat) (k v : Int32) (hN : gN σ x) : gCo E yX6_tell cX6_tell 4 (some .int) 1 [.ref x, .int k, .int v] σ m hi (gX (some (.int (xTell (pgC m (x + 1)) k v).1)) (gP m (x + 1) (xTell (pgC m (x + 1)) k v).2)) := by
  refine gCo.of mwX6_tell (Nat.le_of_ble_eq_true rfl) ?_
  intro F hF
  have hx := hN.1
  have h0 := hN.2.1.1
  have bad : ∀ g : Nat → Int32, g = pgC m (x + 1) → m = gP m (x + 1) g := fun g e => by rw [e, gP_pgC]
  refine j_iconst (q := 1) (v := (-1)) dX6_tell_0 rfl (by decide) ?_
  refine j_istore_n (q := 2) dX6_tell_1 rfl (by decide) ?_
  refine j_iload_n (q := 3) dX6_tell_2 rfl (by rfl) ?_
  refine j_if_ne (q := 6) (tgt := 35) dX6_tell_3 rfl (by decide) (fun h3 => ?_) (fun h3 => ?_)
  · refine j_iload_n (q := 36) dX6_tell_35 rfl (by rfl) ?_
    refine j_iconst (q := 37) (v := 1) dX6_tell_36 rfl (by decide) ?_
    refine j_icmp_ne (q := 40) (tgt := 66) dX6_tell_37 rfl (by decide) (fun h37 => ?_) (fun h37 => ?_)
    · refine j_iload_n (q := 67) dX6_tell_66 rfl (by rfl) ?_
      refine o_iret hF rfl dX6_tell_67 ?_
      unfold xTell
      rw [if_neg (fun h => h3 h.1), if_neg (fun h => h37 h.1)]
      exact ⟨rfl, bad _ rfl⟩
    refine j_iload_n (q := 41) dX6_tell_40 rfl (by rfl) ?_
    refine j_iconst (q := 42) (v := 0) dX6_tell_41 rfl (by decide) ?_
    refine j_bipush (q := 44) (v := 20) dX6_tell_42 rfl (by decide) ?_
    refine o_callSi (q := 47) dX6_tell_44 rfl lX6_66 mwX6_within msX6_within (by rfl) rfl (Nat.le_of_ble_eq_true (by rfl)) (by decide) (cX_within E σ m hi _ _ _) ?_
    refine j_if_eq (q := 50) (tgt := 66) dX6_tell_47 rfl (by decide) (fun h47 => ?_) (fun h47 => ?_)
    · refine j_iload_n (q := 67) dX6_tell_66 rfl (by rfl) ?_
      refine o_iret hF rfl dX6_tell_67 ?_
      unfold xTell
      rw [if_neg (fun h => h3 h.1), if_neg (fun h => sWi_0 h47 h.2)]
      exact ⟨rfl, bad _ rfl⟩
    · refine j_aload_n (q := 51) dX6_tell_50 rfl (by rfl) ?_
      refine j_getr (q := 54) dX6_tell_51 rfl fX6_10 (by assumption) (by rfl) ?_
      refine j_geti (q := 57) dX6_tell_54 rfl fX6_112 (by assumption) (by rfl) ?_
      refine j_istore_n (q := 58) dX6_tell_57 rfl (by decide) ?_
      refine j_aload_n (q := 59) dX6_tell_58 rfl (by rfl) ?_
      refine j_getr (q := 62) dX6_tell_59 rfl fX6_10 (by assumption) (by rfl) ?_
      refine j_iload_n (q := 63) dX6_tell_62 rfl (by rfl) ?_
      refine j_puti (q := 66) dX6_tell_63 rfl fX6_112 p0_7 (by assumption) (by rfl) ?_
      refine j_iload_n (q := 67) dX6_tell_66 rfl (by rfl) ?_
      refine o_iret hF rfl dX6_tell_67 ?_
      unfold xTell
      rw [if_neg (fun h => h3 h.1), if_pos ⟨by first | exact h37 | exact Decidable.not_not.mp h37, sWi_1 h47⟩]
      exact ⟨by rw [pg_7], by rw [gW_pg (gIxP_n7 (x + 1))]⟩
  · refine j_iload_n (q := 7) dX6_tell_6 rfl (by rfl) ?_
    refine j_iconst (q := 8) (v := 0) dX6_tell_7 rfl (by decide) ?_
    refine j_bipush (q := 10) (v := 40) dX6_tell_8 rfl (by decide) ?_
    refine o_callSi (q := 13) dX6_tell_10 rfl lX6_66 mwX6_within msX6_within (by rfl) rfl (Nat.le_of_ble_eq_true (by rfl)) (by decide) (cX_within E σ m hi _ _ _) ?_
    have hk : k = 0 := by first | exact h3 | exact Decidable.not_not.mp h3
    refine j_if_eq (q := 16) (tgt := 35) dX6_tell_13 rfl (by decide) (fun h13 => ?_) (fun h13 => ?_)
    · refine j_iload_n (q := 36) dX6_tell_35 rfl (by rfl) ?_
      refine j_iconst (q := 37) (v := 1) dX6_tell_36 rfl (by decide) ?_
      refine j_icmp_ne (q := 40) (tgt := 66) dX6_tell_37 rfl (by decide) (fun h37 => ?_) (fun h37 => ?_)
      · refine j_iload_n (q := 67) dX6_tell_66 rfl (by rfl) ?_
        refine o_iret hF rfl dX6_tell_67 ?_
        unfold xTell
        rw [if_neg (fun h => sWi_0 h13 h.2), if_neg (fun h => h37 h.1)]
        exact ⟨rfl, bad _ rfl⟩
      · exact absurd ((by first | exact h37 | exact Decidable.not_not.mp h37 : k = 1)) (by rw [hk]; decide)
    · refine j_aload_n (q := 17) dX6_tell_16 rfl (by rfl) ?_
      refine j_getr (q := 20) dX6_tell_17 rfl fX6_10 (by assumption) (by rfl) ?_
      refine j_geti (q := 23) dX6_tell_20 rfl fX6_109 (by assumption) (by rfl) ?_
      refine j_istore_n (q := 24) dX6_tell_23 rfl (by decide) ?_
      refine j_aload_n (q := 25) dX6_tell_24 rfl (by rfl) ?_
      refine j_getr (q := 28) dX6_tell_25 rfl fX6_10 (by assumption) (by rfl) ?_
      refine j_iload_n (q := 29) dX6_tell_28 rfl (by rfl) ?_
      refine j_puti (q := 32) dX6_tell_29 rfl fX6_109 p0_6 (by assumption) (by rfl) ?_
      refine j_goto (tgt := 66) dX6_tell_32 (by decide) ?_
      refine j_iload_n (q := 67) dX6_tell_66 rfl (by rfl) ?_
      refine o_iret hF rfl dX6_tell_67 ?_
      unfold xTell
      rw [if_pos ⟨hk, sWi_1 h13⟩]
      exact ⟨by rw [pg_6], by rw [gW_pg (gIxP_n6 (x + 1))]⟩
def xSet (g : Nat → Int32) (i k v : Int32) : xP := match ixV (g 49) i with
  | none => (-1, g)
  | some j => if k = 0 ∧ 0 ≤ v ∧ v ≤ 9 then (g (25 + j), upd g (25 + j) v) else if k = 1 ∧ 0 ≤ v ∧ v ≤ 4 then (g (37 + j), upd g (37 + j) v) else (-1, g)
theorem cX_set (E : gEv) (σ : gSg) (m : gMem) (hi x : Nat) (i k v : Int32) (hN : gN σ x) (ho : okN m x) : gCo E yX6_set cX6_set 5 (some .int) 1 [.ref x, .int i, .int k, .int v] σ m hi (gX (some (.int (xSet (pgC m (x + 1)) i k v).1)) (gP m (x + 1) (xSet (pgC m (x + 1)) i k v).2)) := by
  refine gCo.of mwX6_set (Nat.le_of_ble_eq_true rfl) ?_
  intro F hF
  have hx := hN.1
  obtain ⟨h0, ⟨fv, h1, hfv⟩, h2, h3, hvv⟩ := hN.2.1
  obtain ⟨r, h, e1, e2, -, -⟩ := ho.2
  have bad : ∀ g : Nat → Int32, g = pgC m (x + 1) → m = gP m (x + 1) g := fun g e => by rw [e, gP_pgC]
  refine j_iconst (q := 1) (v := (-1)) dX6_set_0 rfl (by decide) ?_
  refine j_istore (q := 3) dX6_set_1 rfl (by decide) ?_
  refine j_aload_n (q := 4) dX6_set_3 rfl (by rfl) ?_
  refine j_getr (q := 7) dX6_set_4 rfl fX6_10 (by assumption) (by rfl) ?_
  refine j_iload_n (q := 8) dX6_set_7 rfl (by rfl) ?_
  refine o_callVi (q := 11) dX6_set_8 rfl lX6_144 mwX0_hasRow mvX0_hasRow cn0 (by assumption) (by rfl) rfl (Nat.le_of_ble_eq_true (by rfl)) (by decide) (cG_hasRow E σ m hi (x + 1) i hN.2.1) ?_
  rcases ixV_or i e1 (by omega) with ⟨hs, hv⟩ | ⟨j, hj, ej, hs, hv⟩
  · rw [hs]
    refine j_if_ne (q := 14) (tgt := 16) dX6_set_11 rfl (by decide) (fun h11 => ?_) (fun h11 => ?_)
    · exact absurd rfl h11
    · refine j_iconst (q := 15) (v := (-1)) dX6_set_14 rfl (by decide) ?_
      refine o_iret hF rfl dX6_set_15 ?_
      unfold xSet
      rw [hv]
      exact ⟨rfl, bad _ rfl⟩
  · rw [hs]
    subst ej
    have hix : gIdx (nI j) 12 j := gIdx.of rfl (by omega) (by decide)
    refine j_if_ne (q := 14) (tgt := 16) dX6_set_11 rfl (by decide) (fun h11 => ?_) (fun h11 => ?_)
    · unfold xSet at hF
      rw [hv] at hF
      dsimp only at hF
      refine j_iload_n (q := 17) dX6_set_16 rfl (by rfl) ?_
      refine j_if_ne (q := 20) (tgt := 54) dX6_set_17 rfl (by decide) (fun h17 => ?_) (fun h17 => ?_)
      · refine j_iload_n (q := 55) dX6_set_54 rfl (by rfl) ?_
        refine j_iconst (q := 56) (v := 1) dX6_set_55 rfl (by decide) ?_
        refine j_icmp_ne (q := 59) (tgt := 89) dX6_set_56 rfl (by decide) (fun h56 => ?_) (fun h56 => ?_)
        · refine j_iload (q := 91) dX6_set_89 rfl (by rfl) ?_
          refine o_iret hF rfl dX6_set_91 ?_
          rw [if_neg (fun h => h17 h.1), if_neg (fun h => h56 h.1)]
          exact ⟨rfl, bad _ rfl⟩
        refine j_iload_n (q := 60) dX6_set_59 rfl (by rfl) ?_
        refine j_iconst (q := 61) (v := 0) dX6_set_60 rfl (by decide) ?_
        refine j_iconst (q := 62) (v := 4) dX6_set_61 rfl (by decide) ?_
        refine o_callSi (q := 65) dX6_set_62 rfl lX6_66 mwX6_within msX6_within (by rfl) rfl (Nat.le_of_ble_eq_true (by rfl)) (by decide) (cX_within E σ m hi _ _ _) ?_
        refine j_if_eq (q := 68) (tgt := 89) dX6_set_65 rfl (by decide) (fun h65 => ?_) (fun h65 => ?_)
        · refine j_iload (q := 91) dX6_set_89 rfl (by rfl) ?_
          refine o_iret hF rfl dX6_set_91 ?_
          rw [if_neg (fun h => h17 h.1), if_neg (fun h => sWi_0 h65 h.2)]
          exact ⟨rfl, bad _ rfl⟩
        · refine j_aload_n (q := 69) dX6_set_68 rfl (by rfl) ?_
          refine j_getr (q := 72) dX6_set_69 rfl fX6_10 (by assumption) (by rfl) ?_
          refine j_getr (q := 75) dX6_set_72 rfl fX6_150 (by assumption) (by rfl) ?_
          refine j_iload_n (q := 76) dX6_set_75 rfl (by rfl) ?_
          refine j_iaload (q := 77) dX6_set_76 rfl (by assumption) (by assumption) ?_
          refine j_istore (q := 79) dX6_set_77 rfl (by decide) ?_
          refine j_aload_n (q := 80) dX6_set_79 rfl (by rfl) ?_
          refine j_getr (q := 83) dX6_set_80 rfl fX6_10 (by assumption) (by rfl) ?_
          refine j_getr (q := 86) dX6_set_83 rfl fX6_150 (by assumption) (by rfl) ?_
          refine j_iload_n (q := 87) dX6_set_86 rfl (by rfl) ?_
          refine j_iload_n (q := 88) dX6_set_87 rfl (by rfl) ?_
          refine j_iastore (q := 89) dX6_set_88 rfl (by assumption) (by assumption) ?_
          refine j_iload (q := 91) dX6_set_89 rfl (by rfl) ?_
          refine o_iret hF rfl dX6_set_91 ?_
          rw [if_neg (fun h => h17 h.1), if_pos ⟨by first | exact h56 | exact Decidable.not_not.mp h56, sWi_1 h65⟩]
          exact ⟨by rw [pg_c _ _ (by omega)], by rw [gW_pg (gIxP_c (x + 1) (by omega))]⟩
      · have hk : k = 0 := by first | exact h17 | exact Decidable.not_not.mp h17
        refine j_iload_n (q := 21) dX6_set_20 rfl (by rfl) ?_
        refine j_iconst (q := 22) (v := 0) dX6_set_21 rfl (by decide) ?_
        refine j_bipush (q := 24) (v := 9) dX6_set_22 rfl (by decide) ?_
        refine o_callSi (q := 27) dX6_set_24 rfl lX6_66 mwX6_within msX6_within (by rfl) rfl (Nat.le_of_ble_eq_true (by rfl)) (by decide) (cX_within E σ m hi _ _ _) ?_
        refine j_if_eq (q := 30) (tgt := 54) dX6_set_27 rfl (by decide) (fun h27 => ?_) (fun h27 => ?_)
        · refine j_iload_n (q := 55) dX6_set_54 rfl (by rfl) ?_
          refine j_iconst (q := 56) (v := 1) dX6_set_55 rfl (by decide) ?_
          refine j_icmp_ne (q := 59) (tgt := 89) dX6_set_56 rfl (by decide) (fun h56 => ?_) (fun h56 => ?_)
          · refine j_iload (q := 91) dX6_set_89 rfl (by rfl) ?_
            refine o_iret hF rfl dX6_set_91 ?_
            rw [if_neg (fun h => sWi_0 h27 h.2), if_neg (fun h => h56 h.1)]
            exact ⟨rfl, bad _ rfl⟩
          · exact absurd ((by first | exact h56 | exact Decidable.not_not.mp h56 : k = 1)) (by rw [hk]; decide)
        · refine j_aload_n (q := 31) dX6_set_30 rfl (by rfl) ?_
          refine j_getr (q := 34) dX6_set_31 rfl fX6_10 (by assumption) (by rfl) ?_
          refine j_getr (q := 37) dX6_set_34 rfl fX6_147 (by assumption) (by rfl) ?_
          refine j_iload_n (q := 38) dX6_set_37 rfl (by rfl) ?_
          refine j_iaload (q := 39) dX6_set_38 rfl (by assumption) (by assumption) ?_
          refine j_istore (q := 41) dX6_set_39 rfl (by decide) ?_
          refine j_aload_n (q := 42) dX6_set_41 rfl (by rfl) ?_
          refine j_getr (q := 45) dX6_set_42 rfl fX6_10 (by assumption) (by rfl) ?_
          refine j_getr (q := 48) dX6_set_45 rfl fX6_147 (by assumption) (by rfl) ?_
          refine j_iload_n (q := 49) dX6_set_48 rfl (by rfl) ?_
          refine j_iload_n (q := 50) dX6_set_49 rfl (by rfl) ?_
          refine j_iastore (q := 51) dX6_set_50 rfl (by assumption) (by assumption) ?_
          refine j_goto (tgt := 89) dX6_set_51 (by decide) ?_
          refine j_iload (q := 91) dX6_set_89 rfl (by rfl) ?_
          refine o_iret hF rfl dX6_set_91 ?_
          rw [if_pos ⟨hk, sWi_1 h27⟩]
          exact ⟨by rw [pg_w _ _ (by omega)], by rw [gW_pg (gIxP_w (x + 1) (by omega))]⟩
    · exact absurd h11 (by decide)
def xCut (g : Nat → Int32) (n : Int32) : xP := if 0 ≤ n ∧ n ≤ g 24 then (g 24, upd g 24 n) else (-1, g)
theorem cX_cut (E : gEv) (σ : gSg) (m : gMem) (hi x : Nat) (n : Int32) (hN : gN σ x) : gCo E yX6_cut cX6_cut 3 (some .int) 1 [.ref x, .int n] σ m hi (gX (some (.int (xCut (pgC m (x + 1)) n).1)) (gP m (x + 1) (xCut (pgC m (x + 1)) n).2)) := by
  refine gCo.of mwX6_cut (Nat.le_of_ble_eq_true rfl) ?_
  intro F hF
  have hx := hN.1
  have h0 := hN.2.1.1
  refine j_iload_n (q := 1) dX6_cut_0 rfl (by rfl) ?_
  refine j_iconst (q := 2) (v := 0) dX6_cut_1 rfl (by decide) ?_
  refine j_aload_n (q := 3) dX6_cut_2 rfl (by rfl) ?_
  refine j_getr (q := 6) dX6_cut_3 rfl fX6_10 (by assumption) (by rfl) ?_
  refine j_geti (q := 9) dX6_cut_6 rfl fX6_100 (by assumption) (by rfl) ?_
  refine o_callSi (q := 12) dX6_cut_9 rfl lX6_66 mwX6_within msX6_within (by rfl) rfl (Nat.le_of_ble_eq_true (by rfl)) (by decide) (cX_within E σ m hi _ _ _) ?_
  refine j_if_ne (q := 15) (tgt := 17) dX6_cut_12 rfl (by decide) (fun h12 => ?_) (fun h12 => ?_)
  · refine j_aload_n (q := 18) dX6_cut_17 rfl (by rfl) ?_
    refine j_getr (q := 21) dX6_cut_18 rfl fX6_10 (by assumption) (by rfl) ?_
    refine j_geti (q := 24) dX6_cut_21 rfl fX6_100 (by assumption) (by rfl) ?_
    refine j_istore_n (q := 25) dX6_cut_24 rfl (by decide) ?_
    refine j_aload_n (q := 26) dX6_cut_25 rfl (by rfl) ?_
    refine j_getr (q := 29) dX6_cut_26 rfl fX6_10 (by assumption) (by rfl) ?_
    refine j_iload_n (q := 30) dX6_cut_29 rfl (by rfl) ?_
    refine j_puti (q := 33) dX6_cut_30 rfl fX6_100 p0_3 (by assumption) (by rfl) ?_
    refine j_iload_n (q := 34) dX6_cut_33 rfl (by rfl) ?_
    refine o_iret hF rfl dX6_cut_34 ?_
    have h13 := sWi_1 h12
    rw [pg_3] at h13
    unfold xCut
    rw [if_pos h13]
    exact ⟨by rw [pg_3], by rw [gW_pg (gIxP_n3 (x + 1))]⟩
  · refine j_iconst (q := 16) (v := (-1)) dX6_cut_15 rfl (by decide) ?_
    refine o_iret hF rfl dX6_cut_16 ?_
    rw [pg_3] at h12
    unfold xCut
    rw [if_neg (sWi_0 h12)]
    exact ⟨rfl, (gP_pgC m (x + 1)).symm⟩
def xDrop (g : Nat → Int32) (n : Int32) : xP := if 0 ≤ n ∧ n ≤ g 49 then (g 49, upd g 49 n) else (-1, g)
theorem cX_drop (E : gEv) (σ : gSg) (m : gMem) (hi x : Nat) (n : Int32) (hN : gN σ x) : gCo E yX6_drop cX6_drop 3 (some .int) 1 [.ref x, .int n] σ m hi (gX (some (.int (xDrop (pgC m (x + 1)) n).1)) (gP m (x + 1) (xDrop (pgC m (x + 1)) n).2)) := by
  refine gCo.of mwX6_drop (Nat.le_of_ble_eq_true rfl) ?_
  intro F hF
  have hx := hN.1
  have h0 := hN.2.1.1
  refine j_iload_n (q := 1) dX6_drop_0 rfl (by rfl) ?_
  refine j_iconst (q := 2) (v := 0) dX6_drop_1 rfl (by decide) ?_
  refine j_aload_n (q := 3) dX6_drop_2 rfl (by rfl) ?_
  refine j_getr (q := 6) dX6_drop_3 rfl fX6_10 (by assumption) (by rfl) ?_
  refine j_geti (q := 9) dX6_drop_6 rfl fX6_103 (by assumption) (by rfl) ?_
  refine o_callSi (q := 12) dX6_drop_9 rfl lX6_66 mwX6_within msX6_within (by rfl) rfl (Nat.le_of_ble_eq_true (by rfl)) (by decide) (cX_within E σ m hi _ _ _) ?_
  refine j_if_ne (q := 15) (tgt := 17) dX6_drop_12 rfl (by decide) (fun h12 => ?_) (fun h12 => ?_)
  · refine j_aload_n (q := 18) dX6_drop_17 rfl (by rfl) ?_
    refine j_getr (q := 21) dX6_drop_18 rfl fX6_10 (by assumption) (by rfl) ?_
    refine j_geti (q := 24) dX6_drop_21 rfl fX6_103 (by assumption) (by rfl) ?_
    refine j_istore_n (q := 25) dX6_drop_24 rfl (by decide) ?_
    refine j_aload_n (q := 26) dX6_drop_25 rfl (by rfl) ?_
    refine j_getr (q := 29) dX6_drop_26 rfl fX6_10 (by assumption) (by rfl) ?_
    refine j_iload_n (q := 30) dX6_drop_29 rfl (by rfl) ?_
    refine j_puti (q := 33) dX6_drop_30 rfl fX6_103 p0_4 (by assumption) (by rfl) ?_
    refine j_iload_n (q := 34) dX6_drop_33 rfl (by rfl) ?_
    refine o_iret hF rfl dX6_drop_34 ?_
    have h13 := sWi_1 h12
    rw [pg_4] at h13
    unfold xDrop
    rw [if_pos h13]
    exact ⟨by rw [pg_4], by rw [gW_pg (gIxP_n4 (x + 1))]⟩
  · refine j_iconst (q := 16) (v := (-1)) dX6_drop_15 rfl (by decide) ?_
    refine o_iret hF rfl dX6_drop_16 ?_
    rw [pg_4] at h12
    unfold xDrop
    rw [if_neg (sWi_0 h12)]
    exact ⟨rfl, (gP_pgC m (x + 1)).symm⟩
theorem sFit_0 (v : Int32) : sFit 0 v = sWi v 0 3 := by unfold sFit; rw [show swN 0 4 = some 0 from swN_in (k := 0) (n := 4) (by decide) (by decide)]; rfl
theorem sFit_1 (v : Int32) : sFit 1 v = sWi v 1 60 := by unfold sFit; rw [show swN 1 4 = some 1 from swN_in (k := 1) (n := 4) (by decide) (by decide)]; rfl
theorem sFit_2 (v : Int32) : sFit 2 v = sWi v 0 9 := by unfold sFit; rw [show swN 2 4 = some 2 from swN_in (k := 2) (n := 4) (by decide) (by decide)]; rfl
def xOpen (g : Nat → Int32) (a b c : Int32) : xP := if (0 ≤ a ∧ a ≤ 3) ∧ (1 ≤ b ∧ b ≤ 60) ∧ (0 ≤ c ∧ c ≤ 9) then (if cnt g < 4 then (g 24 + 1, opn g (cnt g) a b c) else (-3, g)) else (-1, g)
theorem opn_24 (g : Nat → Int32) (c : Nat) (a b d : Int32) : opn g c a b d 24 = g 24 + 1 := by unfold opn; rw [pk_us]
theorem cX_open (E : gEv) (σ : gSg) (m : gMem) (hi x : Nat) (a b c : Int32) (hN : gN σ x) (ho : okN m x) : gCo E yX6_open cX6_open 4 (some .int) 2 [.ref x, .int a, .int b, .int c] σ m hi (gX (some (.int (xOpen (pgC m (x + 1)) a b c).1)) (gP m (x + 1) (xOpen (pgC m (x + 1)) a b c).2)) := by
  refine gCo.of mwX6_open (Nat.le_of_ble_eq_true rfl) ?_
  intro F hF
  have hx := hN.1
  have h0 := hN.2.1.1
  obtain ⟨n, hc, hc4⟩ := ho.1
  have hcn : cnt (pgC m (x + 1)) = n := by unfold cnt; rw [hc]; exact nI_clamp (by omega)
  have K26 : (0 ≤ a ∧ a ≤ 3) ∧ (1 ≤ b ∧ b ≤ 60) ∧ (0 ≤ c ∧ c ≤ 9) → (gJ E yX6_open cX6_open 4 (some .int) (gRm 2 0 0) F 26 ([some (.ref x), some (.int a), some (.int b), some (.int c)]) ([]) 0 0 σ (m) hi) := by
    intro hgood
    unfold xOpen at hF
    rw [if_pos hgood, hcn] at hF
    refine j_aload_n (q := 27) dX6_open_26 rfl (by rfl) ?_
    refine j_getr (q := 30) dX6_open_27 rfl fX6_10 (by assumption) (by rfl) ?_
    refine j_iload_n (q := 31) dX6_open_30 rfl (by rfl) ?_
    refine j_iload_n (q := 32) dX6_open_31 rfl (by rfl) ?_
    refine j_iload_n (q := 33) dX6_open_32 rfl (by rfl) ?_
    refine o_callVi (q := 36) dX6_open_33 rfl lX6_161 mwX0_moreVents mvX0_moreVents cn0 (by assumption) (by rfl) rfl (Nat.le_of_ble_eq_true (by rfl)) (by decide) (cG_moreVents E σ m hi (x + 1) n a b c hN.2.1 hc hc4) ?_
    by_cases hlt : n < 4
    · rw [if_pos hlt, if_pos hlt]
      rw [if_pos hlt] at hF
      refine j_if_eq (q := 39) (tgt := 49) dX6_open_36 rfl (by decide) (fun h36 => ?_) (fun h36 => ?_)
      · exact absurd h36 (by decide)
      · refine j_aload_n (q := 40) dX6_open_39 rfl (by rfl) ?_
        refine j_getr (q := 43) dX6_open_40 rfl fX6_10 (by assumption) (by rfl) ?_
        refine j_geti (q := 46) dX6_open_43 rfl fX6_100 (by assumption) (by rfl) ?_
        refine j_goto (tgt := 51) dX6_open_46 (by decide) ?_
        refine o_iret hF rfl dX6_open_51 ?_
        exact ⟨by rw [gP_some (gIxP_n3 (x + 1)), opn_24], rfl⟩
    · rw [if_neg hlt, if_neg hlt]
      rw [if_neg hlt] at hF
      refine j_if_eq (q := 39) (tgt := 49) dX6_open_36 rfl (by decide) (fun h36 => ?_) (fun h36 => ?_)
      · refine j_bipush (q := 51) (v := (-3)) dX6_open_49 rfl (by decide) ?_
        refine o_iret hF rfl dX6_open_51 ?_
        exact ⟨rfl, (gP_pgC m (x + 1)).symm⟩
      · exact absurd rfl h36
  refine j_iconst (q := 1) (v := 0) dX6_open_0 rfl (by decide) ?_
  refine j_iload_n (q := 2) dX6_open_1 rfl (by rfl) ?_
  refine o_callSi (q := 5) dX6_open_2 rfl lX6_153 mwX6_fitsVent msX6_fitsVent (by rfl) rfl (Nat.le_of_ble_eq_true (by rfl)) (by decide) (cX_fitsVent E σ m hi _ _) ?_
  rw [sFit_0]
  refine j_if_eq (q := 8) (tgt := 24) dX6_open_5 rfl (by decide) (fun h5 => ?_) (fun h5 => ?_)
  · refine j_iconst (q := 25) (v := (-1)) dX6_open_24 rfl (by decide) ?_
    refine o_iret hF rfl dX6_open_25 ?_
    unfold xOpen
    rw [if_neg (fun h => by first | exact sWi_0 h5 h.1 | exact sWi_0 h13 h.2.1 | exact sWi_0 h21 h.2.2)]
    exact ⟨rfl, (gP_pgC m (x + 1)).symm⟩
  · refine j_iconst (q := 9) (v := 1) dX6_open_8 rfl (by decide) ?_
    refine j_iload_n (q := 10) dX6_open_9 rfl (by rfl) ?_
    refine o_callSi (q := 13) dX6_open_10 rfl lX6_153 mwX6_fitsVent msX6_fitsVent (by rfl) rfl (Nat.le_of_ble_eq_true (by rfl)) (by decide) (cX_fitsVent E σ m hi _ _) ?_
    rw [sFit_1]
    refine j_if_eq (q := 16) (tgt := 24) dX6_open_13 rfl (by decide) (fun h13 => ?_) (fun h13 => ?_)
    · refine j_iconst (q := 25) (v := (-1)) dX6_open_24 rfl (by decide) ?_
      refine o_iret hF rfl dX6_open_25 ?_
      unfold xOpen
      rw [if_neg (fun h => by first | exact sWi_0 h5 h.1 | exact sWi_0 h13 h.2.1 | exact sWi_0 h21 h.2.2)]
      exact ⟨rfl, (gP_pgC m (x + 1)).symm⟩
    · refine j_iconst (q := 17) (v := 2) dX6_open_16 rfl (by decide) ?_
      refine j_iload_n (q := 18) dX6_open_17 rfl (by rfl) ?_
      refine o_callSi (q := 21) dX6_open_18 rfl lX6_153 mwX6_fitsVent msX6_fitsVent (by rfl) rfl (Nat.le_of_ble_eq_true (by rfl)) (by decide) (cX_fitsVent E σ m hi _ _) ?_
      rw [sFit_2]
      refine j_if_ne (q := 24) (tgt := 26) dX6_open_21 rfl (by decide) (fun h21 => ?_) (fun h21 => ?_)
      · exact K26 ⟨sWi_1 h5, sWi_1 h13, sWi_1 h21⟩
      · refine j_iconst (q := 25) (v := (-1)) dX6_open_24 rfl (by decide) ?_
        refine o_iret hF rfl dX6_open_25 ?_
        unfold xOpen
        rw [if_neg (fun h => by first | exact sWi_0 h5 h.1 | exact sWi_0 h13 h.2.1 | exact sWi_0 h21 h.2.2)]
        exact ⟨rfl, (gP_pgC m (x + 1)).symm⟩
def xAdd (g : Nat → Int32) (w c : Int32) : xP := if (0 ≤ w ∧ w ≤ 9) ∧ (0 ≤ c ∧ c ≤ 4) then (if rws g < 12 then (g 49 + 1, addR g (rws g) w c) else (-3, g)) else (-1, g)
theorem addR_49 (g : Nat → Int32) (r : Nat) (a b : Int32) : addR g r a b 49 = g 49 + 1 := by unfold addR; rw [pk_us]
theorem cX_addTo (E : gEv) (σ : gSg) (m : gMem) (hi a r : Nat) (w c : Int32) (hG : gG σ a) (hr : pgC m a 49 = nI r) (hr12 : r ≤ 12) : gCo E yX6_addTo cX6_addTo 3 (some .int) 1 [.ref a, .int w, .int c] σ m hi (gX (some (.int (xAdd (pgC m a) w c).1)) (gP m a (xAdd (pgC m a) w c).2)) := by
  refine gCo.of mwX6_addTo (Nat.le_of_ble_eq_true rfl) ?_
  intro F hF
  have h0 := hG.1
  have hrn : rws (pgC m a) = r := by unfold rws; rw [hr]; exact nI_clamp (by omega)
  have K21 : (0 ≤ w ∧ w ≤ 9) ∧ (0 ≤ c ∧ c ≤ 4) → (gJ E yX6_addTo cX6_addTo 3 (some .int) (gRm 1 0 0) F 21 ([some (.ref a), some (.int w), some (.int c)]) ([]) 0 0 σ (m) hi) := by
    intro hgood
    unfold xAdd at hF
    rw [if_pos hgood, hrn] at hF
    refine j_aload_n (q := 22) dX6_addTo_21 rfl (by rfl) ?_
    refine j_iload_n (q := 23) dX6_addTo_22 rfl (by rfl) ?_
    refine j_iload_n (q := 24) dX6_addTo_23 rfl (by rfl) ?_
    refine o_callVi (q := 27) dX6_addTo_24 rfl lX6_168 mwX0_moreRows mvX0_moreRows cn0 (by assumption) (by rfl) rfl (Nat.le_of_ble_eq_true (by rfl)) (by decide) (cG_moreRows E σ m hi a r w c hG hr hr12) ?_
    by_cases hlt : r < 12
    · rw [if_pos hlt, if_pos hlt]
      rw [if_pos hlt] at hF
      refine j_if_eq (q := 30) (tgt := 37) dX6_addTo_27 rfl (by decide) (fun h27 => ?_) (fun h27 => ?_)
      · exact absurd h27 (by decide)
      · refine j_aload_n (q := 31) dX6_addTo_30 rfl (by rfl) ?_
        refine j_geti (q := 34) dX6_addTo_31 rfl fX6_103 (by assumption) (by rfl) ?_
        refine j_goto (tgt := 39) dX6_addTo_34 (by decide) ?_
        refine o_iret hF rfl dX6_addTo_39 ?_
        exact ⟨by rw [gP_some (gIxP_n4 a), addR_49], rfl⟩
    · rw [if_neg hlt, if_neg hlt]
      rw [if_neg hlt] at hF
      refine j_if_eq (q := 30) (tgt := 37) dX6_addTo_27 rfl (by decide) (fun h27 => ?_) (fun h27 => ?_)
      · refine j_bipush (q := 39) (v := (-3)) dX6_addTo_37 rfl (by decide) ?_
        refine o_iret hF rfl dX6_addTo_39 ?_
        exact ⟨rfl, (gP_pgC m a).symm⟩
      · exact absurd rfl h27
  refine j_iload_n (q := 1) dX6_addTo_0 rfl (by rfl) ?_
  refine j_iconst (q := 2) (v := 0) dX6_addTo_1 rfl (by decide) ?_
  refine j_bipush (q := 4) (v := 9) dX6_addTo_2 rfl (by decide) ?_
  refine o_callSi (q := 7) dX6_addTo_4 rfl lX6_66 mwX6_within msX6_within (by rfl) rfl (Nat.le_of_ble_eq_true (by rfl)) (by decide) (cX_within E σ m hi _ _ _) ?_
  refine j_if_eq (q := 10) (tgt := 19) dX6_addTo_7 rfl (by decide) (fun h7 => ?_) (fun h7 => ?_)
  · refine j_iconst (q := 20) (v := (-1)) dX6_addTo_19 rfl (by decide) ?_
    refine o_iret hF rfl dX6_addTo_20 ?_
    unfold xAdd
    rw [if_neg (fun h => by first | exact sWi_0 h7 h.1 | exact sWi_0 h16 h.2)]
    exact ⟨rfl, (gP_pgC m a).symm⟩
  · refine j_iload_n (q := 11) dX6_addTo_10 rfl (by rfl) ?_
    refine j_iconst (q := 12) (v := 0) dX6_addTo_11 rfl (by decide) ?_
    refine j_iconst (q := 13) (v := 4) dX6_addTo_12 rfl (by decide) ?_
    refine o_callSi (q := 16) dX6_addTo_13 rfl lX6_66 mwX6_within msX6_within (by rfl) rfl (Nat.le_of_ble_eq_true (by rfl)) (by decide) (cX_within E σ m hi _ _ _) ?_
    refine j_if_ne (q := 19) (tgt := 21) dX6_addTo_16 rfl (by decide) (fun h16 => ?_) (fun h16 => ?_)
    · exact K21 ⟨sWi_1 h7, sWi_1 h16⟩
    · refine j_iconst (q := 20) (v := (-1)) dX6_addTo_19 rfl (by decide) ?_
      refine o_iret hF rfl dX6_addTo_20 ?_
      unfold xAdd
      rw [if_neg (fun h => by first | exact sWi_0 h7 h.1 | exact sWi_0 h16 h.2)]
      exact ⟨rfl, (gP_pgC m a).symm⟩
theorem cX_add (E : gEv) (σ : gSg) (m : gMem) (hi x : Nat) (w c : Int32) (hN : gN σ x) (ho : okN m x) : gCo E yX6_add cX6_add 3 (some .int) 2 [.ref x, .int w, .int c] σ m hi (gX (some (.int (xAdd (pgC m (x + 1)) w c).1)) (gP m (x + 1) (xAdd (pgC m (x + 1)) w c).2)) := by
  refine gCo.of mwX6_add (Nat.le_of_ble_eq_true rfl) ?_
  intro F hF
  have hx := hN.1
  obtain ⟨r, h, e1, e2, -, -⟩ := ho.2
  refine j_aload_n (q := 1) dX6_add_0 rfl (by rfl) ?_
  refine j_getr (q := 4) dX6_add_1 rfl fX6_10 (by assumption) (by rfl) ?_
  refine j_iload_n (q := 5) dX6_add_4 rfl (by rfl) ?_
  refine j_iload_n (q := 6) dX6_add_5 rfl (by rfl) ?_
  refine o_callSi (q := 9) dX6_add_6 rfl lX6_164 mwX6_addTo msX6_addTo (by rfl) rfl (Nat.le_of_ble_eq_true (by rfl)) (by decide) (cX_addTo E σ m hi (x + 1) r w c hN.2.1 e1 e2) ?_
  refine o_iret hF rfl dX6_add_9 ?_
  exact ⟨rfl, rfl⟩
def xGeyser (g : Nat → Int32) (v k : Int32) : Int32 := match ixV (g 24) v with
  | none => -1
  | some j => match swN k 7 with
    | none => -1
    | some 6 => sShr g j
    | some 7 => sMinds (g (4 * 0 + j)) (g (4 * 2 + j)) (sWat g)
    | some t => g (4 * t + j)
theorem cX_geyser (E : gEv) (σ : gSg) (m : gMem) (hi x : Nat) (v k : Int32) (hN : gN σ x) (ho : okN m x) : gCo E yX6_geyser cX6_geyser 3 (some .int) 2 [.ref x, .int v, .int k] σ m hi (gX (some (.int (xGeyser (pgC m (x + 1)) v k))) m) := by
  refine gCo.of mwX6_geyser (Nat.le_of_ble_eq_true rfl) ?_
  intro F hF
  have hx := hN.1
  have hb := ho.2.r (by decide)
  obtain ⟨h0, ⟨fv, h1, hfv⟩, h2, h3, hvv⟩ := hN.2.1
  obtain ⟨c, hc, hc4⟩ := ho.1
  refine j_aload_n (q := 1) dX6_geyser_0 rfl (by rfl) ?_
  refine j_getr (q := 4) dX6_geyser_1 rfl fX6_10 (by assumption) (by rfl) ?_
  refine j_iload_n (q := 5) dX6_geyser_4 rfl (by rfl) ?_
  refine o_callVi (q := 8) dX6_geyser_5 rfl lX6_126 mwX0_hasVent mvX0_hasVent cn0 (by assumption) (by rfl) rfl (Nat.le_of_ble_eq_true (by rfl)) (by decide) (cG_hasVent E σ m hi (x + 1) v hN.2.1) ?_
  unfold xGeyser at hF
  rcases ixV_or v hc (by omega) with ⟨hs, hv⟩ | ⟨j, hj, ej, hs, hv⟩
  · rw [hs]
    rw [hv] at hF
    refine j_if_ne (q := 11) (tgt := 13) dX6_geyser_8 rfl (by decide) (fun h8 => ?_) (fun h8 => ?_)
    · exact absurd rfl h8
    · refine j_iconst (q := 12) (v := (-1)) dX6_geyser_11 rfl (by decide) ?_
      refine o_iret hF rfl dX6_geyser_12 ?_
      exact ⟨rfl, rfl⟩
  · rw [hs]
    rw [hv] at hF
    subst ej
    have hj4 : j < 4 := by omega
    have hix : gIdx (nI j) 4 j := gIdx.of rfl hj4 (by decide)
    have hfj := hfv j hj4
    have hvj := hvv j hj4
    refine j_if_ne (q := 11) (tgt := 13) dX6_geyser_8 rfl (by decide) (fun h8 => ?_) (fun h8 => ?_)
    · have K69 : ∀ P : Option Value → gMem → Prop, F = gFn E (gQo σ hi P) 0 0 → (∀ t : Nat, t < 6 → k = nI t → P (some (.int (pgC m (x + 1) (4 * t + j)))) m) → ((∀ t : Nat, t < 6 → ¬ k = nI t) → P (some (.int (-1))) m) → (gJ E yX6_geyser cX6_geyser 3 (some .int) (gRm 2 0 0) F 69 ([some (.ref x), some (.int (nI j)), some (.int k)]) ([]) 0 0 σ (m) hi) := by
        clear hF
        intro P hF hin hout
        refine j_iload_n (q := 70) dX6_geyser_69 rfl (by rfl) ?_
        refine j_iconst (q := 71) (v := 0) dX6_geyser_70 rfl (by decide) ?_
        refine j_iconst (q := 72) (v := 5) dX6_geyser_71 rfl (by decide) ?_
        refine o_callSi (q := 75) dX6_geyser_72 rfl lX6_66 mwX6_within msX6_within (by rfl) rfl (Nat.le_of_ble_eq_true (by rfl)) (by decide) (cX_within E σ m hi _ _ _) ?_
        refine j_if_eq (q := 78) (tgt := 94) dX6_geyser_75 rfl (by decide) (fun h75 => ?_) (fun h75 => ?_)
        · refine j_iconst (q := 95) (v := (-1)) dX6_geyser_94 rfl (by decide) ?_
          refine o_iret hF rfl dX6_geyser_95 ?_
          refine hout (fun t ht e => sWi_0 h75 ⟨by rw [e]; exact nI_pos' (by omega), by rw [e]; exact nI_le (b := 5) (by omega) (by decide)⟩)
        · obtain ⟨t, ht, et⟩ := swN_wi (n := 5) (by decide) h75
          subst et
          refine j_aload_n (q := 79) dX6_geyser_78 rfl (by rfl) ?_
          refine j_getr (q := 82) dX6_geyser_79 rfl fX6_10 (by assumption) (by rfl) ?_
          refine j_getr (q := 85) dX6_geyser_82 rfl fX6_132 (by assumption) (by rfl) ?_
          refine j_iload_n (q := 86) dX6_geyser_85 rfl (by rfl) ?_
          refine j_aaload (q := 87) dX6_geyser_86 rfl (by assumption) (by decide) (by assumption) (by assumption) ?_
          refine j_iload_n (q := 88) dX6_geyser_87 rfl (by rfl) ?_
          refine o_callVi (q := 91) dX6_geyser_88 rfl lX6_141 mwX5_part mvX5_part cn5 (by assumption) (by rfl) rfl (Nat.le_of_ble_eq_true (by rfl)) (by decide) (cV_part E σ m hi (x + 1 + 4 + j) t (by omega) hvj) ?_
          refine j_goto (tgt := 95) dX6_geyser_91 (by decide) ?_
          refine o_iret hF rfl dX6_geyser_95 ?_
          rw [pg_v m (x + 1) hj4 (by omega)]
          exact hin t (by omega) rfl
      refine j_iload_n (q := 14) dX6_geyser_13 rfl (by rfl) ?_
      rcases gSw k 7 (by decide) with hsw | ⟨t, ht, et⟩
      · rw [swN_out hsw] at hF
        refine j_lookup (off := 55) (tgt := 69) dX6_geyser_14 (by decide) ?_ (by decide) ?_
        · rw [lv_osw (k := 6) (by intro e; subst e; revert hsw; decide) (by decide), lv_osw (k := 7) (by intro e; subst e; revert hsw; decide) (by decide)]
          rfl
        · refine K69 _ hF (fun t ht e => ?_) (fun _ => ⟨rfl, rfl⟩)
          exact absurd hsw (by rw [e, nI_toInt (by omega)]; omega)
      · subst et
        rw [swN_in ht (by decide)] at hF
        match t, ht with
        | 6, _ =>
          refine j_lookup (off := 26) (tgt := 40) dX6_geyser_14 (by decide) (by decide) (by decide) ?_
          refine j_aload_n (q := 41) dX6_geyser_40 rfl (by rfl) ?_
          refine j_getr (q := 44) dX6_geyser_41 rfl fX6_10 (by assumption) (by rfl) ?_
          refine j_iload_n (q := 45) dX6_geyser_44 rfl (by rfl) ?_
          refine o_callVi (q := 48) dX6_geyser_45 rfl lX6_129 mwX0_shareOf mvX0_shareOf cn0 (by assumption) (by rfl) rfl (Nat.le_of_ble_eq_true (by rfl)) (by decide) (cG_shareOf E σ m hi (x + 1) j hN.2.1 (by rw [hc]; exact nI_nle (by omega) (by omega))) ?_
          refine o_iret hF rfl dX6_geyser_48 ?_
          exact ⟨rfl, rfl⟩
        | 7, _ =>
          refine j_lookup (off := 35) (tgt := 49) dX6_geyser_14 (by decide) (by decide) (by decide) ?_
          refine j_aload_n (q := 50) dX6_geyser_49 rfl (by rfl) ?_
          refine j_getr (q := 53) dX6_geyser_50 rfl fX6_10 (by assumption) (by rfl) ?_
          refine j_getr (q := 56) dX6_geyser_53 rfl fX6_132 (by assumption) (by rfl) ?_
          refine j_iload_n (q := 57) dX6_geyser_56 rfl (by rfl) ?_
          refine j_aaload (q := 58) dX6_geyser_57 rfl (by assumption) (by decide) (by assumption) (by assumption) ?_
          refine j_aload_n (q := 59) dX6_geyser_58 rfl (by rfl) ?_
          refine j_getr (q := 62) dX6_geyser_59 rfl fX6_10 (by assumption) (by rfl) ?_
          refine o_callVi (q := 65) dX6_geyser_62 rfl lX6_119 mwX0_watchersNow mvX0_watchersNow cn0 (by assumption) (by rfl) rfl (Nat.le_of_ble_eq_true (by rfl)) (by decide) (cG_watchersNow E σ m hi (x + 1) hN.2.1 hb) ?_
          refine o_callVi (q := 68) dX6_geyser_65 rfl lX6_136 mwX5_minds mvX5_minds cn5 (by assumption) (by rfl) rfl (Nat.le_of_ble_eq_true (by rfl)) (by decide) (cV_minds E σ m hi (x + 1 + 4 + j) (sWat (pgC m (x + 1))) hvj) ?_
          refine o_iret hF rfl dX6_geyser_68 ?_
          exact ⟨by rw [pg_v m (x + 1) hj4 (by decide), pg_v m (x + 1) hj4 (by decide)]; rfl, rfl⟩
        | 0, _ =>
          refine j_lookup (off := 55) (tgt := 69) dX6_geyser_14 (by decide) (by decide) (by decide) ?_
          exact K69 _ hF (fun u hu e => by rw [← (nI_eq (by omega) (by omega)).mp e]; exact ⟨rfl, rfl⟩) (fun h => absurd rfl (h 0 (by decide)))
        | 1, _ =>
          refine j_lookup (off := 55) (tgt := 69) dX6_geyser_14 (by decide) (by decide) (by decide) ?_
          exact K69 _ hF (fun u hu e => by rw [← (nI_eq (by omega) (by omega)).mp e]; exact ⟨rfl, rfl⟩) (fun h => absurd rfl (h 1 (by decide)))
        | 2, _ =>
          refine j_lookup (off := 55) (tgt := 69) dX6_geyser_14 (by decide) (by decide) (by decide) ?_
          exact K69 _ hF (fun u hu e => by rw [← (nI_eq (by omega) (by omega)).mp e]; exact ⟨rfl, rfl⟩) (fun h => absurd rfl (h 2 (by decide)))
        | 3, _ =>
          refine j_lookup (off := 55) (tgt := 69) dX6_geyser_14 (by decide) (by decide) (by decide) ?_
          exact K69 _ hF (fun u hu e => by rw [← (nI_eq (by omega) (by omega)).mp e]; exact ⟨rfl, rfl⟩) (fun h => absurd rfl (h 3 (by decide)))
        | 4, _ =>
          refine j_lookup (off := 55) (tgt := 69) dX6_geyser_14 (by decide) (by decide) (by decide) ?_
          exact K69 _ hF (fun u hu e => by rw [← (nI_eq (by omega) (by omega)).mp e]; exact ⟨rfl, rfl⟩) (fun h => absurd rfl (h 4 (by decide)))
        | 5, _ =>
          refine j_lookup (off := 55) (tgt := 69) dX6_geyser_14 (by decide) (by decide) (by decide) ?_
          exact K69 _ hF (fun u hu e => by rw [← (nI_eq (by omega) (by omega)).mp e]; exact ⟨rfl, rfl⟩) (fun h => absurd rfl (h 5 (by decide)))
        | t + 8, h => exact absurd h (by omega)
    · exact absurd h8 (by decide)
