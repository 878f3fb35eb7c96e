abbrev gVt : gSh := .inl (5, [none, none, none, none, none, none])
theorem cV_fades (E : gEv) (σ : gSg) (m : gMem) (hi v : Nat) (hv : σ v = some gVt) : gCo E yX5_fades cX5_fades 1 (some .int) 0 [.ref v] σ m hi (gX (some (.int (sFades (m.1 v 0)))) m) := by
  refine gCo.of mwX5_fades (Nat.le_of_ble_eq_true rfl) ?_
  intro F hF
  refine j_aload_n (q := 1) dX5_fades_0 rfl (by rfl) ?_
  refine j_geti (q := 4) dX5_fades_1 rfl fX5_9 (by assumption) (by rfl) ?_
  refine j_if_ne (q := 7) (tgt := 11) dX5_fades_4 rfl (by decide) (fun h4 => ?_) (fun h4 => ?_)
  · refine j_aload_n (q := 12) dX5_fades_11 rfl (by rfl) ?_
    refine j_geti (q := 15) dX5_fades_12 rfl fX5_9 (by assumption) (by rfl) ?_
    refine j_iconst (q := 16) (v := 1) dX5_fades_15 rfl (by decide) ?_
    refine j_icmp_ne (q := 19) (tgt := 23) dX5_fades_16 rfl (by decide) (fun h16 => ?_) (fun h16 => ?_)
    · refine j_iconst (q := 24) (v := 0) dX5_fades_23 rfl (by decide) ?_
      refine o_iret hF rfl dX5_fades_24 ?_
      exact ⟨by simp [sFades, *], rfl⟩
    · refine j_iconst (q := 20) (v := 1) dX5_fades_19 rfl (by decide) ?_
      refine j_goto (tgt := 24) dX5_fades_20 (by decide) ?_
      refine o_iret hF rfl dX5_fades_24 ?_
      exact ⟨by simp [sFades, *], rfl⟩
  · refine j_iconst (q := 8) (v := 2) dX5_fades_7 rfl (by decide) ?_
    refine j_goto (tgt := 24) dX5_fades_8 (by decide) ?_
    refine o_iret hF rfl dX5_fades_24 ?_
    exact ⟨by simp [sFades, *], rfl⟩
theorem cV_minds (E : gEv) (σ : gSg) (m : gMem) (hi v : Nat) (w : Int32) (hv : σ v = some gVt) : gCo E yX5_minds cX5_minds 4 (some .int) 0 [.ref v, .int w] σ m hi (gX (some (.int (sMinds (m.1 v 0) (m.1 v 2) w))) m) := by
  refine gCo.of mwX5_minds (Nat.le_of_ble_eq_true rfl) ?_
  intro F hF
  have K66 : ∀ x3 x2 : Int32, x3 = sMinds (m.1 v 0) (m.1 v 2) w → (gJ E yX5_minds cX5_minds 4 (some .int) (gRm 0 0 0) F 66 ([some (.ref v), some (.int w), some (.int x2), some (.int x3)]) ([]) 0 0 σ (m) hi) := by
    intro x3 x2 e3
    refine j_iload_n (q := 67) dX5_minds_66 rfl (by rfl) ?_
    refine o_iret hF rfl dX5_minds_67 ?_
    exact ⟨by rw [e3], rfl⟩
  have K49 : ∀ x3 x2 : Int32, x3 = (if m.1 v 0 = 0 then sMore (m.1 v 2) w else 2 * sMore (m.1 v 2) w) + (if 1 < m.1 v 0 ∧ 0 < w then 1 else 0) → (gJ E yX5_minds cX5_minds 4 (some .int) (gRm 0 0 0) F 49 ([some (.ref v), some (.int w), some (.int x2), some (.int x3)]) ([]) 0 0 σ (m) hi) := by
    intro x3 x2 e3
    refine j_aload_n (q := 50) dX5_minds_49 rfl (by rfl) ?_
    refine j_geti (q := 53) dX5_minds_50 rfl fX5_9 (by assumption) (by rfl) ?_
    refine j_iconst (q := 54) (v := 3) dX5_minds_53 rfl (by decide) ?_
    refine j_icmp_ne (q := 57) (tgt := 66) dX5_minds_54 rfl (by decide) (fun h54 => ?_) (fun h54 => ?_)
    · exact K66 _ _ (by simp [sMinds, e3, *])
    · refine j_iload_n (q := 58) dX5_minds_57 rfl (by rfl) ?_
      refine j_bipush (q := 60) (v := 9) dX5_minds_58 rfl (by decide) ?_
      refine j_icmp_ne (q := 63) (tgt := 66) dX5_minds_60 rfl (by decide) (fun h60 => ?_) (fun h60 => ?_)
      · exact K66 _ _ (by simp [sMinds, e3, *])
      · refine j_iinc (q := 66) dX5_minds_63 rfl (by rfl) (by rfl) (by decide) ?_
        exact K66 _ _ (by simp [sMinds, e3, *])
  have K33 : ∀ x3 x2 : Int32, x3 = (if m.1 v 0 = 0 then sMore (m.1 v 2) w else 2 * sMore (m.1 v 2) w) → (gJ E yX5_minds cX5_minds 4 (some .int) (gRm 0 0 0) F 33 ([some (.ref v), some (.int w), some (.int x2), none]) ([.int x3]) 0 0 σ (m) hi) := by
    intro x3 x2 e3
    refine j_istore_n (q := 34) dX5_minds_33 rfl (by decide) ?_
    refine j_aload_n (q := 35) dX5_minds_34 rfl (by rfl) ?_
    refine j_geti (q := 38) dX5_minds_35 rfl fX5_9 (by assumption) (by rfl) ?_
    refine j_iconst (q := 39) (v := 2) dX5_minds_38 rfl (by decide) ?_
    refine j_icmp_lt (q := 42) (tgt := 49) dX5_minds_39 rfl (by decide) (fun h39 => ?_) (fun h39 => ?_)
    · exact K49 _ _ (by simp [e3, k_lt2, *])
    · refine j_iload_n (q := 43) dX5_minds_42 rfl (by rfl) ?_
      refine j_if_le (q := 46) (tgt := 49) dX5_minds_43 rfl (by decide) (fun h43 => ?_) (fun h43 => ?_)
      · exact K49 _ _ (by simp [e3, k_lt2, *])
      · refine j_iinc (q := 49) dX5_minds_46 rfl (by rfl) (by rfl) (by decide) ?_
        exact K49 _ _ (by simp [e3, k_lt2, *])
  have K18 : ∀ x2 : Int32, x2 = sMore (m.1 v 2) w → (gJ E yX5_minds cX5_minds 4 (some .int) (gRm 0 0 0) F 18 ([some (.ref v), some (.int w), none, none]) ([.int x2]) 0 0 σ (m) hi) := by
    intro x2 e2
    refine j_istore_n (q := 19) dX5_minds_18 rfl (by decide) ?_
    refine j_aload_n (q := 20) dX5_minds_19 rfl (by rfl) ?_
    refine j_geti (q := 23) dX5_minds_20 rfl fX5_9 (by assumption) (by rfl) ?_
    refine j_if_ne (q := 26) (tgt := 30) dX5_minds_23 rfl (by decide) (fun h23 => ?_) (fun h23 => ?_)
    · refine j_iconst (q := 31) (v := 2) dX5_minds_30 rfl (by decide) ?_
      refine j_iload_n (q := 32) dX5_minds_31 rfl (by rfl) ?_
      refine j_imul (q := 33) dX5_minds_32 rfl ?_
      exact K33 _ _ (by simp [e2, *])
    · refine j_iload_n (q := 27) dX5_minds_26 rfl (by rfl) ?_
      refine j_goto (tgt := 33) dX5_minds_27 (by decide) ?_
      exact K33 _ _ (by simp [e2, *])
  refine j_iload_n (q := 1) dX5_minds_0 rfl (by rfl) ?_
  refine j_aload_n (q := 2) dX5_minds_1 rfl (by rfl) ?_
  refine j_geti (q := 5) dX5_minds_2 rfl fX5_18 (by assumption) (by rfl) ?_
  refine j_icmp_le (q := 8) (tgt := 17) dX5_minds_5 rfl (by decide) (fun h5 => ?_) (fun h5 => ?_)
  · refine j_iconst (q := 18) (v := 0) dX5_minds_17 rfl (by decide) ?_
    exact K18 _ (by unfold sMore; first | rw [if_neg (Int32.not_lt.mpr h5)] | rw [if_pos (Int32.not_le.mp h5)])
  · refine j_iload_n (q := 9) dX5_minds_8 rfl (by rfl) ?_
    refine j_aload_n (q := 10) dX5_minds_9 rfl (by rfl) ?_
    refine j_geti (q := 13) dX5_minds_10 rfl fX5_18 (by assumption) (by rfl) ?_
    refine j_isub (q := 14) dX5_minds_13 rfl ?_
    refine j_goto (tgt := 18) dX5_minds_14 (by decide) ?_
    exact K18 _ (by unfold sMore; first | rw [if_neg (Int32.not_lt.mpr h5)] | rw [if_pos (Int32.not_le.mp h5)])

theorem cV_part (E : gEv) (σ : gSg) (m : gMem) (hi v k : Nat) (hk : k < 6) (hv : σ v = some gVt) : gCo E yX5_part cX5_part 2 (some .int) 0 [.ref v, .int (nI k)] σ m hi (gX (some (.int (m.1 v k))) m) := by
  refine gCo.of mwX5_part (Nat.le_of_ble_eq_true rfl) ?_
  intro F hF
  refine j_iload_n (q := 1) dX5_part_0 rfl (by rfl) ?_
  have hT := nI_toInt (n := k) (by omega)
  match k, hk with
  | 0, _ =>
    refine j_tableIn (off := 35) (tgt := 36) dX5_part_1 (by decide) (by decide) (by rfl) (by decide) ?_
    refine j_aload_n (q := 37) dX5_part_36 rfl (by rfl) ?_
    refine j_geti (q := 40) dX5_part_37 rfl fX5_9 (by assumption) (by rfl) ?_
    refine o_iret hF rfl dX5_part_40 ?_
    exact ⟨rfl, rfl⟩
  | 1, _ =>
    refine j_tableIn (off := 40) (tgt := 41) dX5_part_1 (by decide) (by decide) (by rfl) (by decide) ?_
    refine j_aload_n (q := 42) dX5_part_41 rfl (by rfl) ?_
    refine j_geti (q := 45) dX5_part_42 rfl fX5_15 (by assumption) (by rfl) ?_
    refine o_iret hF rfl dX5_part_45 ?_
    exact ⟨rfl, rfl⟩
  | 2, _ =>
    refine j_tableIn (off := 45) (tgt := 46) dX5_part_1 (by decide) (by decide) (by rfl) (by decide) ?_
    refine j_aload_n (q := 47) dX5_part_46 rfl (by rfl) ?_
    refine j_geti (q := 50) dX5_part_47 rfl fX5_18 (by assumption) (by rfl) ?_
    refine o_iret hF rfl dX5_part_50 ?_
    exact ⟨rfl, rfl⟩
  | 3, _ =>
    refine j_tableIn (off := 50) (tgt := 51) dX5_part_1 (by decide) (by decide) (by rfl) (by decide) ?_
    refine j_aload_n (q := 52) dX5_part_51 rfl (by rfl) ?_
    refine j_geti (q := 55) dX5_part_52 rfl fX5_21 (by assumption) (by rfl) ?_
    refine o_iret hF rfl dX5_part_55 ?_
    exact ⟨rfl, rfl⟩
  | 4, _ =>
    refine j_tableIn (off := 55) (tgt := 56) dX5_part_1 (by decide) (by decide) (by rfl) (by decide) ?_
    refine j_aload_n (q := 57) dX5_part_56 rfl (by rfl) ?_
    refine j_geti (q := 60) dX5_part_57 rfl fX5_24 (by assumption) (by rfl) ?_
    refine o_iret hF rfl dX5_part_60 ?_
    exact ⟨rfl, rfl⟩
  | 5, _ =>
    refine j_tableOut (tgt := 61) dX5_part_1 (by decide) (by decide) ?_
    refine j_aload_n (q := 62) dX5_part_61 rfl (by rfl) ?_
    refine j_geti (q := 65) dX5_part_62 rfl fX5_27 (by assumption) (by rfl) ?_
    refine o_iret hF rfl dX5_part_65 ?_
    exact ⟨rfl, rfl⟩
  | k + 6, h => exact absurd h (by omega)
theorem cV_change (E : gEv) (σ : gSg) (m : gMem) (hi v k : Nat) (x : Int32) (hk : k < 5) (hv : σ v = some gVt) : gCo E yX5_change cX5_change 3 (none) 0 [.ref v, .int (nI k), .int x] σ m hi (gX none (gW m v k x)) := by
  refine gCo.of mwX5_change (Nat.le_of_ble_eq_true rfl) ?_
  intro F hF
  refine j_iload_n (q := 1) dX5_change_0 rfl (by rfl) ?_
  match k, hk with
  | 0, _ =>
    refine j_tableIn (off := 35) (tgt := 36) dX5_change_1 (by decide) (by decide) (by rfl) (by decide) ?_
    refine j_aload_n (q := 37) dX5_change_36 rfl (by rfl) ?_
    refine j_iload_n (q := 38) dX5_change_37 rfl (by rfl) ?_
    refine j_puti (q := 41) dX5_change_38 rfl fX5_9 p5_0 (by assumption) (by rfl) ?_
    refine j_goto (tgt := 76) dX5_change_41 (by decide) ?_
    refine o_vret hF rfl dX5_change_76 ?_
    exact ⟨rfl, rfl⟩
  | 1, _ =>
    refine j_tableIn (off := 43) (tgt := 44) dX5_change_1 (by decide) (by decide) (by rfl) (by decide) ?_
    refine j_aload_n (q := 45) dX5_change_44 rfl (by rfl) ?_
    refine j_iload_n (q := 46) dX5_change_45 rfl (by rfl) ?_
    refine j_puti (q := 49) dX5_change_46 rfl fX5_15 p5_1 (by assumption) (by rfl) ?_
    refine j_goto (tgt := 76) dX5_change_49 (by decide) ?_
    refine o_vret hF rfl dX5_change_76 ?_
    exact ⟨rfl, rfl⟩
  | 2, _ =>
    refine j_tableIn (off := 51) (tgt := 52) dX5_change_1 (by decide) (by decide) (by rfl) (by decide) ?_
    refine j_aload_n (q := 53) dX5_change_52 rfl (by rfl) ?_
    refine j_iload_n (q := 54) dX5_change_53 rfl (by rfl) ?_
    refine j_puti (q := 57) dX5_change_54 rfl fX5_18 p5_2 (by assumption) (by rfl) ?_
    refine j_goto (tgt := 76) dX5_change_57 (by decide) ?_
    refine o_vret hF rfl dX5_change_76 ?_
    exact ⟨rfl, rfl⟩
  | 3, _ =>
    refine j_tableIn (off := 59) (tgt := 60) dX5_change_1 (by decide) (by decide) (by rfl) (by decide) ?_
    refine j_aload_n (q := 61) dX5_change_60 rfl (by rfl) ?_
    refine j_iload_n (q := 62) dX5_change_61 rfl (by rfl) ?_
    refine j_puti (q := 65) dX5_change_62 rfl fX5_21 p5_3 (by assumption) (by rfl) ?_
    refine j_goto (tgt := 76) dX5_change_65 (by decide) ?_
    refine o_vret hF rfl dX5_change_76 ?_
    exact ⟨rfl, rfl⟩
  | 4, _ =>
    refine j_tableIn (off := 67) (tgt := 68) dX5_change_1 (by decide) (by decide) (by rfl) (by decide) ?_
    refine j_aload_n (q := 69) dX5_change_68 rfl (by rfl) ?_
    refine j_iload_n (q := 70) dX5_change_69 rfl (by rfl) ?_
    refine j_puti (q := 73) dX5_change_70 rfl fX5_24 p5_4 (by assumption) (by rfl) ?_
    refine j_goto (tgt := 76) dX5_change_73 (by decide) ?_
    refine o_vret hF rfl dX5_change_76 ?_
    exact ⟨rfl, rfl⟩
  | k + 5, h => exact absurd h (by omega)
theorem cV_begin (E : gEv) (σ : gSg) (m : gMem) (hi v : Nat) (a b c : Int32) (hv : σ v = some gVt) : gCo E yX5_begin cX5_begin 4 (none) 0 [.ref v, .int a, .int b, .int c] σ m hi (gX none (gW (gW (gW (gW (gW (gW m v 0 a) v 1 b) v 2 c) v 3 0) v 4 0) v 5 0)) := by
  refine gCo.of mwX5_begin (Nat.le_of_ble_eq_true rfl) ?_
  intro F hF
  refine j_aload_n (q := 1) dX5_begin_0 rfl (by rfl) ?_
  refine j_iload_n (q := 2) dX5_begin_1 rfl (by rfl) ?_
  refine j_puti (q := 5) dX5_begin_2 rfl fX5_9 p5_0 (by assumption) (by rfl) ?_
  refine j_aload_n (q := 6) dX5_begin_5 rfl (by rfl) ?_
  refine j_iload_n (q := 7) dX5_begin_6 rfl (by rfl) ?_
  refine j_puti (q := 10) dX5_begin_7 rfl fX5_15 p5_1 (by assumption) (by rfl) ?_
  refine j_aload_n (q := 11) dX5_begin_10 rfl (by rfl) ?_
  refine j_iload_n (q := 12) dX5_begin_11 rfl (by rfl) ?_
  refine j_puti (q := 15) dX5_begin_12 rfl fX5_18 p5_2 (by assumption) (by rfl) ?_
  refine j_aload_n (q := 16) dX5_begin_15 rfl (by rfl) ?_
  refine j_iconst (q := 17) (v := 0) dX5_begin_16 rfl (by decide) ?_
  refine j_puti (q := 20) dX5_begin_17 rfl fX5_21 p5_3 (by assumption) (by rfl) ?_
  refine j_aload_n (q := 21) dX5_begin_20 rfl (by rfl) ?_
  refine j_iconst (q := 22) (v := 0) dX5_begin_21 rfl (by decide) ?_
  refine j_puti (q := 25) dX5_begin_22 rfl fX5_24 p5_4 (by assumption) (by rfl) ?_
  refine j_aload_n (q := 26) dX5_begin_25 rfl (by rfl) ?_
  refine j_iconst (q := 27) (v := 0) dX5_begin_26 rfl (by decide) ?_
  refine j_puti (q := 30) dX5_begin_27 rfl fX5_27 p5_5 (by assumption) (by rfl) ?_
  refine o_vret hF rfl dX5_begin_30 ?_
  exact ⟨rfl, rfl⟩
theorem cV_takeMood (E : gEv) (σ : gSg) (m : gMem) (hi v u : Nat) (hv : σ v = some gVt) (hu : σ u = some gVt) (hne : v ≠ u) : gCo E yX5_takeMood cX5_takeMood 2 (none) 0 [.ref v, .ref u] σ m hi (gX none (gW (gW (gW m v 3 (m.1 u 3)) v 4 (m.1 u 4)) v 5 (m.1 u 5))) := by
  refine gCo.of mwX5_takeMood (Nat.le_of_ble_eq_true rfl) ?_
  intro F hF
  refine j_aload_n (q := 1) dX5_takeMood_0 rfl (by rfl) ?_
  refine j_aload_n (q := 2) dX5_takeMood_1 rfl (by rfl) ?_
  refine j_geti (q := 5) dX5_takeMood_2 rfl fX5_21 (by assumption) (by rfl) ?_
  refine j_puti (q := 8) dX5_takeMood_5 rfl fX5_21 p5_3 (by assumption) (by rfl) ?_
  refine j_aload_n (q := 9) dX5_takeMood_8 rfl (by rfl) ?_
  refine j_aload_n (q := 10) dX5_takeMood_9 rfl (by rfl) ?_
  refine j_geti (q := 13) dX5_takeMood_10 rfl fX5_24 (by assumption) (by rfl) ?_
  refine j_puti (q := 16) dX5_takeMood_13 rfl fX5_24 p5_4 (by assumption) (by rfl) ?_
  refine j_aload_n (q := 17) dX5_takeMood_16 rfl (by rfl) ?_
  refine j_aload_n (q := 18) dX5_takeMood_17 rfl (by rfl) ?_
  refine j_geti (q := 21) dX5_takeMood_18 rfl fX5_27 (by assumption) (by rfl) ?_
  refine j_puti (q := 24) dX5_takeMood_21 rfl fX5_27 p5_5 (by assumption) (by rfl) ?_
  refine o_vret hF rfl dX5_takeMood_24 ?_
  exact ⟨rfl, by simp only [gW_n (show ¬ (u = v ∧ 4 = 3) by omega), gW_n (show ¬ (u = v ∧ 5 = 4) by omega), gW_n (show ¬ (u = v ∧ 5 = 3) by omega)]⟩
theorem cV_become (E : gEv) (σ : gSg) (m : gMem) (hi v u : Nat) (hv : σ v = some gVt) (hu : σ u = some gVt) (hne : v ≠ u) : gCo E yX5_become cX5_become 2 (none) 1 [.ref v, .ref u] σ m hi (gX none (gW (gW (gW (gW (gW (gW m v 0 (m.1 u 0)) v 1 (m.1 u 1)) v 2 (m.1 u 2)) v 3 (m.1 u 3)) v 4 (m.1 u 4)) v 5 (m.1 u 5))) := by
  refine gCo.of mwX5_become (Nat.le_of_ble_eq_true rfl) ?_
  intro F hF
  have hN : ∀ (j k : Nat), ¬ (u = v ∧ j = k) := fun j k h => hne h.1.symm
  refine j_aload_n (q := 1) dX5_become_0 rfl (by rfl) ?_
  refine j_aload_n (q := 2) dX5_become_1 rfl (by rfl) ?_
  refine j_geti (q := 5) dX5_become_2 rfl fX5_9 (by assumption) (by rfl) ?_
  refine j_puti (q := 8) dX5_become_5 rfl fX5_9 p5_0 (by assumption) (by rfl) ?_
  refine j_aload_n (q := 9) dX5_become_8 rfl (by rfl) ?_
  refine j_aload_n (q := 10) dX5_become_9 rfl (by rfl) ?_
  refine j_geti (q := 13) dX5_become_10 rfl fX5_15 (by assumption) (by rfl) ?_
  refine j_puti (q := 16) dX5_become_13 rfl fX5_15 p5_1 (by assumption) (by rfl) ?_
  refine j_aload_n (q := 17) dX5_become_16 rfl (by rfl) ?_
  refine j_aload_n (q := 18) dX5_become_17 rfl (by rfl) ?_
  refine j_geti (q := 21) dX5_become_18 rfl fX5_18 (by assumption) (by rfl) ?_
  refine j_puti (q := 24) dX5_become_21 rfl fX5_18 p5_2 (by assumption) (by rfl) ?_
  refine j_aload_n (q := 25) dX5_become_24 rfl (by rfl) ?_
  refine j_aload_n (q := 26) dX5_become_25 rfl (by rfl) ?_
  refine o_callVv (q := 29) dX5_become_26 rfl lX5_30 mwX5_takeMood mvX5_takeMood cn5 (by assumption) (by rfl) rfl (Nat.le_of_ble_eq_true (by rfl)) (by decide) (cV_takeMood E σ _ hi v u hv hu hne) ?_
  refine o_vret hF rfl dX5_become_29 ?_
  exact ⟨rfl, by simp only [gW_n (hN _ _)]⟩
/-- one hour of a geyser: its heat, fret, went -/
def gVp (m : gMem) (v : Nat) (h f n : Int32) : gMem := gW (gW (gW m v 3 h) v 4 f) v 5 n
theorem cV_pass (E : gEv) (σ : gSg) (m : gMem) (hi v : Nat) (sh w cal : Int32) (hv : σ v = some gVt) : gCo E yX5_pass cX5_pass 4 (some .boolean) 1 [.ref v, .int sh, .int w, .int cal] σ m hi (gX (some (.int (if m.1 v 1 + sFret (m.1 v 0) (m.1 v 2) (m.1 v 4) w cal ≤ sHeat (m.1 v 3) sh then 1 else 0))) (if m.1 v 1 + sFret (m.1 v 0) (m.1 v 2) (m.1 v 4) w cal ≤ sHeat (m.1 v 3) sh then gVp m v 0 0 (m.1 v 5 + 1) else gVp m v (sHeat (m.1 v 3) sh) (sFret (m.1 v 0) (m.1 v 2) (m.1 v 4) w cal) (m.1 v 5))) := by
  refine gCo.of mwX5_pass (Nat.le_of_ble_eq_true rfl) ?_
  intro F hF
  have hN : ∀ {mm : gMem} {x : Int32} (j k : Nat), ¬ j = k → (gW mm v k x).1 v j = mm.1 v j := fun j k h => gW_n (fun z => h z.2)
  have K70 : ∀ f : Int32, f = sFret (m.1 v 0) (m.1 v 2) (m.1 v 4) w cal → (gJ E yX5_pass cX5_pass 4 (some .boolean) (gRm 1 0 0) F 70 ([some (.ref v), some (.int sh), some (.int w), some (.int cal)]) ([]) 0 0 σ (gW (gW m v 3 (sHeat (m.1 v 3) sh)) v 4 f) hi) := by
    intro f hf
    refine j_aload_n (q := 71) dX5_pass_70 rfl (by rfl) ?_
    refine j_geti (q := 74) dX5_pass_71 rfl fX5_21 (by assumption) (by rfl) ?_
    refine j_aload_n (q := 75) dX5_pass_74 rfl (by rfl) ?_
    refine j_geti (q := 78) dX5_pass_75 rfl fX5_15 (by assumption) (by rfl) ?_
    refine j_aload_n (q := 79) dX5_pass_78 rfl (by rfl) ?_
    refine j_geti (q := 82) dX5_pass_79 rfl fX5_24 (by assumption) (by rfl) ?_
    refine j_iadd (q := 83) dX5_pass_82 rfl ?_
    refine j_icmp_ge (q := 86) (tgt := 88) dX5_pass_83 rfl (by decide) (fun h83 => ?_) (fun h83 => ?_)
    · refine j_aload_n (q := 89) dX5_pass_88 rfl (by rfl) ?_
      refine j_dup (q := 90) dX5_pass_89 rfl rfl ?_
      refine j_geti (q := 93) dX5_pass_90 rfl fX5_27 (by assumption) (by rfl) ?_
      refine j_iconst (q := 94) (v := 1) dX5_pass_93 rfl (by decide) ?_
      refine j_iadd (q := 95) dX5_pass_94 rfl ?_
      refine j_puti (q := 98) dX5_pass_95 rfl fX5_27 p5_5 (by assumption) (by rfl) ?_
      refine j_aload_n (q := 99) dX5_pass_98 rfl (by rfl) ?_
      refine j_iconst (q := 100) (v := 0) dX5_pass_99 rfl (by decide) ?_
      refine j_puti (q := 103) dX5_pass_100 rfl fX5_21 p5_3 (by assumption) (by rfl) ?_
      refine j_aload_n (q := 104) dX5_pass_103 rfl (by rfl) ?_
      refine j_iconst (q := 105) (v := 0) dX5_pass_104 rfl (by decide) ?_
      refine j_puti (q := 108) dX5_pass_105 rfl fX5_24 p5_4 (by assumption) (by rfl) ?_
      refine j_iconst (q := 109) (v := 1) dX5_pass_108 rfl (by decide) ?_
      refine o_zret hF rfl dX5_pass_109 (by first | assumption | exact Or.inl rfl | exact Or.inr rfl) ?_
      rw [hN 3 4 (by decide), hN 1 4 (by decide), hN 1 3 (by decide), gW_s, gW_s, hf] at h83
      rw [if_pos h83, if_pos h83]
      refine ⟨rfl, ?_⟩
      rw [hN 5 4 (by decide), hN 5 3 (by decide)]
      unfold gVp
      rw [gW_swap (k := 4) (k' := 5) (by omega), gW_swap (k := 3) (k' := 5) (by omega), gW_swap (k := 4) (k' := 3) (by omega), gW_swap (k := 5) (k' := 3) (by omega), gW_W, gW_swap (k := 3) (k' := 5) (by omega), gW_W, gW_swap (k := 5) (k' := 3) (by omega), gW_swap (k := 5) (k' := 4) (by omega)]
    · refine j_iconst (q := 87) (v := 0) dX5_pass_86 rfl (by decide) ?_
      refine o_zret hF rfl dX5_pass_87 (by first | assumption | exact Or.inl rfl | exact Or.inr rfl) ?_
      rw [hN 3 4 (by decide), hN 1 4 (by decide), hN 1 3 (by decide), gW_s, gW_s, hf] at h83
      rw [if_neg h83, if_neg h83]
      exact ⟨rfl, by rw [hf]; unfold gVp; exact (gW_selfs (by rw [hN 5 4 (by decide), hN 5 3 (by decide)])).symm⟩
  refine j_aload_n (q := 1) dX5_pass_0 rfl (by rfl) ?_
  refine j_sipush (q := 4) (v := 199) dX5_pass_1 rfl (by decide) ?_
  refine j_aload_n (q := 5) dX5_pass_4 rfl (by rfl) ?_
  refine j_geti (q := 8) dX5_pass_5 rfl fX5_21 (by assumption) (by rfl) ?_
  refine j_iload_n (q := 9) dX5_pass_8 rfl (by rfl) ?_
  refine j_iadd (q := 10) dX5_pass_9 rfl ?_
  refine j_mmin (q := 13) dX5_pass_10 rfl lX5_34 ⟨⟨by decide, Nat.le_of_ble_eq_true (by rfl)⟩, by decide, by decide⟩ ?_
  refine j_puti (q := 16) dX5_pass_13 rfl fX5_21 p5_3 (by assumption) (by rfl) ?_
  refine j_aload_n (q := 17) dX5_pass_16 rfl (by rfl) ?_
  refine j_bipush (q := 19) (v := 20) dX5_pass_17 rfl (by decide) ?_
  refine j_aload_n (q := 20) dX5_pass_19 rfl (by rfl) ?_
  refine j_geti (q := 23) dX5_pass_20 rfl fX5_24 (by assumption) (by rfl) ?_
  refine j_aload_n (q := 24) dX5_pass_23 rfl (by rfl) ?_
  refine j_iload_n (q := 25) dX5_pass_24 rfl (by rfl) ?_
  refine o_callVi (q := 28) dX5_pass_25 rfl lX5_40 mwX5_minds mvX5_minds cn5 (by assumption) (by rfl) rfl (Nat.le_of_ble_eq_true (by rfl)) (by decide) (cV_minds E σ _ hi v w hv) ?_
  refine j_iadd (q := 29) dX5_pass_28 rfl ?_
  refine j_mmin (q := 32) dX5_pass_29 rfl lX5_34 ⟨⟨by decide, Nat.le_of_ble_eq_true (by rfl)⟩, by decide, by decide⟩ ?_
  refine j_puti (q := 35) dX5_pass_32 rfl fX5_24 p5_4 (by assumption) (by rfl) ?_
  refine j_aload_n (q := 36) dX5_pass_35 rfl (by rfl) ?_
  refine j_iconst (q := 37) (v := 0) dX5_pass_36 rfl (by decide) ?_
  refine j_aload_n (q := 38) dX5_pass_37 rfl (by rfl) ?_
  refine j_geti (q := 41) dX5_pass_38 rfl fX5_24 (by assumption) (by rfl) ?_
  refine j_iload_n (q := 42) dX5_pass_41 rfl (by rfl) ?_
  refine j_isub (q := 43) dX5_pass_42 rfl ?_
  refine j_mmax (q := 46) dX5_pass_43 rfl lX5_44 ⟨⟨by decide, Nat.le_of_ble_eq_true (by rfl)⟩, by decide, by decide⟩ ?_
  refine j_puti (q := 49) dX5_pass_46 rfl fX5_24 p5_4 (by assumption) (by rfl) ?_
  refine j_iload_n (q := 50) dX5_pass_49 rfl (by rfl) ?_
  refine j_if_ne (q := 53) (tgt := 70) dX5_pass_50 rfl (by decide) (fun h50 => ?_) (fun h50 => ?_)
  · first | (refine gJ.mm ?_ (K70 _ (by unfold sFret; rw [if_neg h50]))) | (refine gJ.mm ?_ (K70 _ (by unfold sFret; rw [if_pos h50])))
    first | (simp only [gW_W, gW_s, hN 4 3 (by decide), hN 0 4 (by decide), hN 0 3 (by decide), hN 2 3 (by decide), sHeat, sMin, sMax]; done) | (simp only [gW_W, gW_s, hN 4 3 (by decide), hN 0 4 (by decide), hN 0 3 (by decide), hN 2 3 (by decide), sHeat, sMin, sMax]; rfl)
  · refine j_aload_n (q := 54) dX5_pass_53 rfl (by rfl) ?_
    refine j_iconst (q := 55) (v := 0) dX5_pass_54 rfl (by decide) ?_
    refine j_aload_n (q := 56) dX5_pass_55 rfl (by rfl) ?_
    refine j_geti (q := 59) dX5_pass_56 rfl fX5_24 (by assumption) (by rfl) ?_
    refine j_aload_n (q := 60) dX5_pass_59 rfl (by rfl) ?_
    refine o_callVi (q := 63) dX5_pass_60 rfl lX5_47 mwX5_fades mvX5_fades cn5 (by assumption) (by rfl) rfl (Nat.le_of_ble_eq_true (by rfl)) (by decide) (cV_fades E σ _ hi v hv) ?_
    refine j_isub (q := 64) dX5_pass_63 rfl ?_
    refine j_mmax (q := 67) dX5_pass_64 rfl lX5_44 ⟨⟨by decide, Nat.le_of_ble_eq_true (by rfl)⟩, by decide, by decide⟩ ?_
    refine j_puti (q := 70) dX5_pass_67 rfl fX5_24 p5_4 (by assumption) (by rfl) ?_
    first | (refine gJ.mm ?_ (K70 _ (by unfold sFret; rw [if_neg h50]))) | (refine gJ.mm ?_ (K70 _ (by unfold sFret; rw [if_pos h50])))
    first | (simp only [gW_W, gW_s, hN 4 3 (by decide), hN 0 4 (by decide), hN 0 3 (by decide), hN 2 3 (by decide), sHeat, sMin, sMax]; done) | (simp only [gW_W, gW_s, hN 4 3 (by decide), hN 0 4 (by decide), hN 0 3 (by decide), hN 2 3 (by decide), sHeat, sMin, sMax]; rfl)
