/-! the reference: again; what is best -/
theorem plN_24 (g : Nat → Int32) : ∀ n, plN g n 24 = g 24
  | 0 => rfl
  | n + 1 => by rw [plN]; unfold pl; rw [hr_24, plN_24 g n]
theorem plN_49 (g : Nat → Int32) : ∀ n, plN g n 49 = g 49
  | 0 => rfl
  | n + 1 => by rw [plN]; unfold pl; rw [hr_49, plN_49 g n]
theorem plN_52 {g : Nat → Int32} {h : Nat} (e : g 52 = nI h) : ∀ n, plN g n 52 = nI (h + n)
  | 0 => e
  | n + 1 => by rw [plN]; unfold pl; rw [hr_52, plN_52 e n, nI_1, Nat.add_assoc]
theorem turn_again {g : Nat → Int32} {r h : Nat} (e49 : g 49 = nI r) (hr : r ≤ 12) (e52 : g 52 = nI h) (hh : h ≤ 9999) {n : Nat} (hn : n ≤ 300) : sTurn (plN g n) = sTurn g ↔ (r = 0 ∨ n % r = 0) := by
  by_cases h0 : r = 0
  · subst h0
    rw [sTurn_zero e49, sTurn_zero (by rw [plN_49]; exact e49)]
    exact ⟨fun _ => Or.inl rfl, fun _ => rfl⟩
  · rw [sTurn_pos e49 hr e52 (by omega) (by omega), sTurn_pos (by rw [plN_49]; exact e49) hr (plN_52 e52 n) (by omega) (by omega)]
    have l1 := Nat.mod_lt (h + n) (show 0 < r by omega)
    have l2 := Nat.mod_lt h (show 0 < r by omega)
    rw [nI_eq (by omega) (by omega)]
    constructor
    · intro q
      refine Or.inr ?_
      have := Nat.sub_mod_eq_zero_of_mod_eq q
      rw [show h + n - h = n by omega] at this
      exact this
    · rintro (q | q)
      · exact absurd q h0
      · rw [Nat.add_mod, q, Nat.add_zero, Nat.mod_mod]
theorem cM_again (E : gEv) (σ : gSg) (m : gMem) (hi t : Nat) (hR : gR σ t) (ho : okM m t) : gCo E yX7_again cX7_again 5 (some .int) 4 [.ref t] σ m hi (fun v' m' => v' = some (.int (agJ (pgR m t 0) 200 1)) ∧ rsc t m m') := by
  refine gCo.of mwX7_again (Nat.le_of_ble_eq_true rfl) ?_
  intro F hF
  have h0 := hR.1
  have h1 := hR.2.1
  obtain ⟨c, hc, hc4⟩ := ho.1
  have hcn : cnt (pgR m t 0) = c := by unfold cnt; rw [hc]; exact nI_clamp (by omega)
  obtain ⟨r, hh, e49, hr12, e52, hh9⟩ := ho.2
  have i49 : gIdx 49 318 49 := gIdx.of rfl (by decide) (by decide)
  have i24 : gIdx 24 318 24 := gIdx.of rfl (by decide) (by decide)
  generalize hG : pgR m t 0 = g at *
  have hg0 : pg0 g := by rw [← hG]; exact pgR_0 m t 0
  have e0 : ∀ n, pgR (gQ m t 212 (plN g n)) t 0 = g := fun n => by rw [pgR_ne (by omega)]; exact hG
  have K18 : ∀ (w b : Nat) (o3 o4 : Option Value), b + w = 200 → agJ g 200 1 = agJ g w (b + 1) → (gJ E yX7_again cX7_again 5 (some .int) (gRm 4 0 0) F 18 ([some (.ref t), some (.int (nI r)), some (.int (nI (b + 1))), o3, o4]) ([]) 0 0 σ (gQ m t 212 (plN g b)) hi) := by
    intro w
    induction w with
    | zero =>
      intro b o3 o4 hb he
      have : b = 200 := by omega
      subst this
      refine j_iload_n (q := 19) dX7_again_18 rfl (by rfl) ?_
      refine j_sipush (q := 22) (v := 200) dX7_again_19 rfl (by decide) ?_
      refine j_icmp_gt (q := 25) (tgt := 140) dX7_again_22 rfl (by decide) (fun h22 => ?_) (fun h22 => ?_)
      · refine j_bipush (q := 142) (v := (-4)) dX7_again_140 rfl (by decide) ?_
        refine o_iret hF rfl dX7_again_142 ?_
        rw [he]
        exact ⟨rfl, (rsc.rf t m).q (by decide) _⟩
      · exact absurd (show (200 : Int32) < nI 201 by decide) h22
    | succ w ih =>
      intro b o3 o4 hb he
      have hT := turn_again e49 hr12 e52 hh9 (n := b + 1) (by omega)
      have K128 : ∀ (s : Int32) (o4 : Option Value), s = (if asNow (plN g (b + 1)) g then 1 else 0) → (gJ E yX7_again cX7_again 5 (some .int) (gRm 4 0 0) F 128 ([some (.ref t), some (.int (nI r)), some (.int (nI (b + 1))), some (.int s), o4]) ([]) 0 0 σ (gQ m t 212 (plN g (b + 1))) hi) := by
        intro s o4 hs
        refine j_iload_n (q := 129) dX7_again_128 rfl (by rfl) ?_
        by_cases hA : asNow (plN g (b + 1)) g
        · rw [if_pos hA] at hs
          subst hs
          refine j_if_eq (q := 132) (tgt := 134) dX7_again_129 rfl (by decide) (fun h129 => ?_) (fun h129 => ?_)
          · exact absurd h129 (by decide)
          refine j_iload_n (q := 133) dX7_again_132 rfl (by rfl) ?_
          refine o_iret hF rfl dX7_again_133 ?_
          rw [he, agJ, if_pos hA]
          exact ⟨rfl, (rsc.rf t m).q (by decide) _⟩
        · rw [if_neg hA] at hs
          subst hs
          refine j_if_eq (q := 132) (tgt := 134) dX7_again_129 rfl (by decide) (fun h129 => ?_) (fun h129 => ?_)
          · refine j_iinc (q := 137) dX7_again_134 rfl (by rfl) (by first | exact nI_inc _ | rfl) (by decide) ?_
            refine j_goto (tgt := 18) dX7_again_137 (by decide) ?_
            refine ih (b + 1) _ _ (by omega) ?_
            rw [he, agJ, if_neg hA]
          · exact absurd rfl h129
      have K52 : ∀ (n j : Nat) (s : Int32), j + n = c → s = (if (r = 0 ∨ (b + 1) % r = 0) ∧ ∀ v, v < j → plN g (b + 1) (12 + v) = g (12 + v) ∧ plN g (b + 1) (16 + v) = g (16 + v) then 1 else 0) → (gJ E yX7_again cX7_again 5 (some .int) (gRm 4 0 0) F 52 ([some (.ref t), some (.int (nI r)), some (.int (nI (b + 1))), some (.int s), some (.int (nI j))]) ([]) 0 0 σ (gQ m t 212 (plN g (b + 1))) hi) := by
        intro n
        induction n with
        | zero =>
          intro j s hj hs
          have : j = c := by omega
          subst this
          refine j_iload (q := 54) dX7_again_52 rfl (by rfl) ?_
          refine j_aload_n (q := 55) dX7_again_54 rfl (by rfl) ?_
          refine j_getr (q := 58) dX7_again_55 rfl fX7_7 (by first | with_reducible assumption | assumption) (by rfl) ?_
          refine j_bipush (q := 60) (v := 24) dX7_again_58 rfl (by decide) ?_
          refine j_iaload (q := 61) dX7_again_60 rfl (by first | with_reducible assumption | assumption) (by first | with_reducible assumption | assumption) ?_
          rw [r0_j _ t (by omega), e0, hc]
          refine j_icmp_ge (q := 64) (tgt := 128) dX7_again_61 rfl (by decide) (fun h61 => ?_) (fun h61 => ?_)
          · refine K128 s _ ?_
            rw [hs]
            have hiff : ((r = 0 ∨ (b + 1) % r = 0) ∧ ∀ v, v < j → plN g (b + 1) (12 + v) = g (12 + v) ∧ plN g (b + 1) (16 + v) = g (16 + v)) ↔ asNow (plN g (b + 1)) g := by
              unfold asNow
              rw [hT, plN_24, plN_cnt, hcn]
              exact ⟨fun q => ⟨q.1, rfl, q.2⟩, fun q => ⟨q.1, q.2.2⟩⟩
            by_cases hA : asNow (plN g (b + 1)) g
            · rw [if_pos hA, if_pos (hiff.mpr hA)]
            · rw [if_neg hA, if_neg (fun q => hA (hiff.mp q))]
          · exact absurd (Int32.le_refl _) h61
        | succ n ihn =>
          intro j s hj hs
          have a12 : gIdx (224 + nI j) 318 (212 + (12 + j)) := gIdx.of (by rw [show (224 : Int32) = nI 224 from rfl, nI_add]; congr 1; omega) (by omega) (by decide)
          have a16 : gIdx (228 + nI j) 318 (212 + (16 + j)) := gIdx.of (by rw [show (228 : Int32) = nI 228 from rfl, nI_add]; congr 1; omega) (by omega) (by decide)
          have b12 : gIdx (12 + nI j) 318 (12 + j) := gIdx.of (nI_add 12 j) (by omega) (by decide)
          have b16 : gIdx (16 + nI j) 318 (16 + j) := gIdx.of (nI_add 16 j) (by omega) (by decide)
          have hnext : ∀ s', s' = (if (r = 0 ∨ (b + 1) % r = 0) ∧ ∀ v, v < j + 1 → plN g (b + 1) (12 + v) = g (12 + v) ∧ plN g (b + 1) (16 + v) = g (16 + v) then (1 : Int32) else 0) → (gJ E yX7_again cX7_again 5 (some .int) (gRm 4 0 0) F 121 ([some (.ref t), some (.int (nI r)), some (.int (nI (b + 1))), some (.int s), some (.int (nI j))]) ([.int s']) 0 0 σ (gQ m t 212 (plN g (b + 1))) hi) := by
            intro s' hs'
            refine j_istore_n (q := 122) dX7_again_121 rfl (by decide) ?_
            refine j_iinc (q := 125) dX7_again_122 rfl (by rfl) (by first | exact nI_inc _ | rfl) (by decide) ?_
            refine j_goto (tgt := 52) dX7_again_125 (by decide) ?_
            exact ihn (j + 1) s' (by omega) hs'
          refine j_iload (q := 54) dX7_again_52 rfl (by rfl) ?_
          refine j_aload_n (q := 55) dX7_again_54 rfl (by rfl) ?_
          refine j_getr (q := 58) dX7_again_55 rfl fX7_7 (by first | with_reducible assumption | assumption) (by rfl) ?_
          refine j_bipush (q := 60) (v := 24) dX7_again_58 rfl (by decide) ?_
          refine j_iaload (q := 61) dX7_again_60 rfl (by first | with_reducible assumption | assumption) (by first | with_reducible assumption | assumption) ?_
          rw [r0_j _ t (by omega), e0, hc]
          refine j_icmp_ge (q := 64) (tgt := 128) dX7_again_61 rfl (by decide) (fun h61 => ?_) (fun h61 => ?_)
          · exact absurd h61 (nI_ge (by omega) (by omega))
          refine j_iload_n (q := 65) dX7_again_64 rfl (by rfl) ?_
          by_cases hP : (r = 0 ∨ (b + 1) % r = 0) ∧ ∀ v, v < j → plN g (b + 1) (12 + v) = g (12 + v) ∧ plN g (b + 1) (16 + v) = g (16 + v)
          · rw [if_pos hP] at hs
            subst hs
            refine j_if_eq (q := 68) (tgt := 120) dX7_again_65 rfl (by decide) (fun h65 => ?_) (fun h65 => ?_)
            · exact absurd h65 (by decide)
            refine j_aload_n (q := 69) dX7_again_68 rfl (by rfl) ?_
            refine j_getr (q := 72) dX7_again_69 rfl fX7_7 (by first | with_reducible assumption | assumption) (by rfl) ?_
            refine j_sipush (q := 75) (v := 224) dX7_again_72 rfl (by decide) ?_
            refine j_iload (q := 77) dX7_again_75 rfl (by rfl) ?_
            refine j_iadd (q := 78) dX7_again_77 rfl ?_
            refine j_iaload (q := 79) dX7_again_78 rfl (by first | with_reducible assumption | assumption) (by first | with_reducible assumption | assumption) ?_
            refine j_aload_n (q := 80) dX7_again_79 rfl (by rfl) ?_
            refine j_getr (q := 83) dX7_again_80 rfl fX7_7 (by first | with_reducible assumption | assumption) (by rfl) ?_
            refine j_bipush (q := 85) (v := 12) dX7_again_83 rfl (by decide) ?_
            refine j_iload (q := 87) dX7_again_85 rfl (by rfl) ?_
            refine j_iadd (q := 88) dX7_again_87 rfl ?_
            refine j_iaload (q := 89) dX7_again_88 rfl (by first | with_reducible assumption | assumption) (by first | with_reducible assumption | assumption) ?_
            rw [gQ_i (by omega), r0_j _ t (by omega), e0]
            refine j_icmp_ne (q := 92) (tgt := 120) dX7_again_89 rfl (by decide) (fun h89 => ?_) (fun h89 => ?_)
            · refine j_iconst (q := 121) (v := 0) dX7_again_120 rfl (by decide) ?_
              exact hnext 0 (by rw [if_neg (fun q => h89 (q.2 j (by omega)).1)])
            refine j_aload_n (q := 93) dX7_again_92 rfl (by rfl) ?_
            refine j_getr (q := 96) dX7_again_93 rfl fX7_7 (by first | with_reducible assumption | assumption) (by rfl) ?_
            refine j_sipush (q := 99) (v := 228) dX7_again_96 rfl (by decide) ?_
            refine j_iload (q := 101) dX7_again_99 rfl (by rfl) ?_
            refine j_iadd (q := 102) dX7_again_101 rfl ?_
            refine j_iaload (q := 103) dX7_again_102 rfl (by first | with_reducible assumption | assumption) (by first | with_reducible assumption | assumption) ?_
            refine j_aload_n (q := 104) dX7_again_103 rfl (by rfl) ?_
            refine j_getr (q := 107) dX7_again_104 rfl fX7_7 (by first | with_reducible assumption | assumption) (by rfl) ?_
            refine j_bipush (q := 109) (v := 16) dX7_again_107 rfl (by decide) ?_
            refine j_iload (q := 111) dX7_again_109 rfl (by rfl) ?_
            refine j_iadd (q := 112) dX7_again_111 rfl ?_
            refine j_iaload (q := 113) dX7_again_112 rfl (by first | with_reducible assumption | assumption) (by first | with_reducible assumption | assumption) ?_
            rw [gQ_i (by omega), r0_j _ t (by omega), e0]
            refine j_icmp_ne (q := 116) (tgt := 120) dX7_again_113 rfl (by decide) (fun h113 => ?_) (fun h113 => ?_)
            · refine j_iconst (q := 121) (v := 0) dX7_again_120 rfl (by decide) ?_
              exact hnext 0 (by rw [if_neg (fun q => h113 (q.2 j (by omega)).2)])
            · refine j_iconst (q := 117) (v := 1) dX7_again_116 rfl (by decide) ?_
              refine j_goto (tgt := 121) dX7_again_117 (by decide) ?_
              refine hnext 1 ?_
              rw [if_pos]
              refine ⟨hP.1, fun v hv => ?_⟩
              by_cases hvj : v = j
              · subst hvj
                exact ⟨by first | exact h89 | exact Decidable.not_not.mp h89, by first | exact h113 | exact Decidable.not_not.mp h113⟩
              · exact hP.2 v (by omega)
          · rw [if_neg hP] at hs
            subst hs
            refine j_if_eq (q := 68) (tgt := 120) dX7_again_65 rfl (by decide) (fun h65 => ?_) (fun h65 => ?_)
            · refine j_iconst (q := 121) (v := 0) dX7_again_120 rfl (by decide) ?_
              refine hnext 0 ?_
              rw [if_neg]
              exact fun q => hP ⟨q.1, fun v hv => q.2 v (by omega)⟩
            · exact absurd rfl h65
      have K48 : ∀ s : Int32, s = (if r = 0 ∨ (b + 1) % r = 0 then 1 else 0) → (gJ E yX7_again cX7_again 5 (some .int) (gRm 4 0 0) F 48 ([some (.ref t), some (.int (nI r)), some (.int (nI (b + 1))), o3, o4]) ([.int s]) 0 0 σ (gQ m t 212 (plN g (b + 1))) hi) := by
        intro s hs
        refine j_istore_n (q := 49) dX7_again_48 rfl (by decide) ?_
        refine j_iconst (q := 50) (v := 0) dX7_again_49 rfl (by decide) ?_
        refine j_istore (q := 52) dX7_again_50 rfl (by decide) ?_
        refine K52 c 0 s (by omega) ?_
        rw [hs]
        by_cases hA : r = 0 ∨ (b + 1) % r = 0
        · rw [if_pos hA, if_pos ⟨hA, fun v hv => absurd hv (by omega)⟩]
        · rw [if_neg hA, if_neg (fun q => hA q.1)]
      refine j_iload_n (q := 19) dX7_again_18 rfl (by rfl) ?_
      refine j_sipush (q := 22) (v := 200) dX7_again_19 rfl (by decide) ?_
      refine j_icmp_gt (q := 25) (tgt := 140) dX7_again_22 rfl (by decide) (fun h22 => ?_) (fun h22 => ?_)
      · exact absurd h22 (nI_nlt (a := 200) (b := b + 1) (by omega) (by omega))
      refine j_aload_n (q := 26) dX7_again_25 rfl (by rfl) ?_
      refine j_sipush (q := 29) (v := 212) dX7_again_26 rfl (by decide) ?_
      refine o_callVi (q := 32) dX7_again_29 rfl lX7_196 mwX7_planOn mvX7_planOn cn7 (by assumption) (by rfl) rfl (Nat.le_of_ble_eq_true (by rfl)) (by first | decide | omega) (cM_plan E σ m hi t 212 b 9999 g hR (by decide) hg0 ⟨c, hc, hc4⟩ ⟨r, hh, e49, hr12, e52, hh9⟩ (by omega)) ?_
      refine j_pop (q := 33) dX7_again_32 rfl rfl ?_
      refine j_iload_n (q := 34) dX7_again_33 rfl (by rfl) ?_
      refine j_if_eq (q := 37) (tgt := 43) dX7_again_34 rfl (by decide) (fun h34 => ?_) (fun h34 => ?_)
      · have hr0 : r = 0 := nI_inj (b := 0) (by omega) (by omega) h34
        refine j_iconst (q := 44) (v := 1) dX7_again_43 rfl (by decide) ?_
        refine j_goto (tgt := 48) dX7_again_44 (by decide) ?_
        exact K48 1 (by rw [if_pos (Or.inl hr0)])
      · have hr0 : r ≠ 0 := fun q => h34 (by rw [q]; rfl)
        refine j_iload_n (q := 38) dX7_again_37 rfl (by rfl) ?_
        refine j_iload_n (q := 39) dX7_again_38 rfl (by rfl) ?_
        refine j_irem (q := 40) dX7_again_39 rfl (by first | with_reducible assumption | assumption) ?_
        rw [pk_rem (by omega) (by omega) (by omega)]
        have hml := Nat.mod_lt (b + 1) (show 0 < r by omega)
        by_cases hmd : (b + 1) % r = 0
        · rw [hmd]
          refine j_if_ne (q := 43) (tgt := 47) dX7_again_40 rfl (by decide) (fun h40 => ?_) (fun h40 => ?_)
          · exact absurd rfl h40
          · refine j_iconst (q := 44) (v := 1) dX7_again_43 rfl (by decide) ?_
            refine j_goto (tgt := 48) dX7_again_44 (by decide) ?_
            exact K48 1 (by rw [if_pos (Or.inr hmd)])
        · refine j_if_ne (q := 43) (tgt := 47) dX7_again_40 rfl (by decide) (fun h40 => ?_) (fun h40 => ?_)
          · refine j_iconst (q := 48) (v := 0) dX7_again_47 rfl (by decide) ?_
            exact K48 0 (by rw [if_neg (fun q => q.elim hr0 hmd)])
          · exact absurd (nI_inj (b := 0) (by omega) (by omega) (by first | exact h40 | exact Decidable.not_not.mp h40)) hmd
  have hCp := cM_copies E σ m hi t 0 212 hR (by decide) (by decide) (by decide)
  rw [hG] at hCp
  refine j_aload_n (q := 1) dX7_again_0 rfl (by rfl) ?_
  refine j_getr (q := 4) dX7_again_1 rfl fX7_7 (by first | with_reducible assumption | assumption) (by rfl) ?_
  refine j_bipush (q := 6) (v := 49) dX7_again_4 rfl (by decide) ?_
  refine j_iaload (q := 7) dX7_again_6 rfl (by first | with_reducible assumption | assumption) (by first | with_reducible assumption | assumption) ?_
  rw [r0_j m t (by omega), hG, e49]
  refine j_istore_n (q := 8) dX7_again_7 rfl (by decide) ?_
  refine j_aload_n (q := 9) dX7_again_8 rfl (by rfl) ?_
  refine j_iconst (q := 10) (v := 0) dX7_again_9 rfl (by decide) ?_
  refine j_sipush (q := 13) (v := 212) dX7_again_10 rfl (by decide) ?_
  refine o_callVv (q := 16) dX7_again_13 rfl lX7_205 mwX7_copies mvX7_copies cn7 (by assumption) (by rfl) rfl (Nat.le_of_ble_eq_true (by rfl)) (by first | decide | omega) (hCp) ?_
  refine j_iconst (q := 17) (v := 1) dX7_again_16 rfl (by decide) ?_
  refine j_istore_n (q := 18) dX7_again_17 rfl (by decide) ?_
  exact K18 200 0 _ _ (by omega) rfl
theorem upsN_n {g : Nat → Int32} (hc : okC g) : ∀ n, ∃ k, k ≤ 4 * n ∧ upsN g n = nI k
  | 0 => ⟨0, by omega, rfl⟩
  | n + 1 => by
    obtain ⟨k, h1, h2⟩ := upsN_n hc n
    obtain ⟨u, hu, eu⟩ := plU_n (plN_C hc n)
    rw [upsN, h2, eu, sBc_n u hu, nI_add]
    exact ⟨_, by omega, rfl⟩
theorem upsN_m1 {g : Nat → Int32} (hc : okC g) {n : Nat} (hn : n ≤ 200) : (-1 : Int32) < upsN g n := by
  obtain ⟨k, h1, h2⟩ := upsN_n hc n
  rw [h2]
  exact Int32.lt_of_lt_of_le (show (-1 : Int32) < 0 by decide) (nI_pos' (by omega))
theorem bst_b0 {f lab : Nat → Int32} {m0 : Int32} (h : m0 < f 0) (b0 b0' : Int32) : ∀ k, bst f lab b0 m0 (k + 1) = bst f lab b0' m0 (k + 1)
  | 0 => by
    rw [bst, bst]
    show (if m0 < f 0 then (lab 0, f 0) else (b0, m0)) = if m0 < f 0 then (lab 0, f 0) else (b0', m0)
    rw [if_pos h, if_pos h]
  | k + 1 => by
    show (if (bst f lab b0 m0 (k + 1)).2 < f (k + 1) then (lab (k + 1), f (k + 1)) else bst f lab b0 m0 (k + 1)) = if (bst f lab b0' m0 (k + 1)).2 < f (k + 1) then (lab (k + 1), f (k + 1)) else bst f lab b0' m0 (k + 1)
    rw [bst_b0 h b0 b0' k]
theorem upd_self (g : Nat → Int32) (k : Nat) : upd g k (g k) = g := by
  funext i
  by_cases h : i = k
  · subst h; rw [pk_us]
  · rw [pk_un h]
theorem upd_upd (g : Nat → Int32) (k : Nat) (a b : Int32) : upd (upd g k a) k b = upd g k b := by
  funext i
  by_cases h : i = k
  · subst h; rw [pk_us, pk_us]
  · rw [pk_un h, pk_un h, pk_un h]
/-- one number on the other page, then hours -/
theorem oth_w {m mi : gMem} {t k : Nat} {g : Nat → Int32} {z : Int32} (hk : k < 50 ∨ k = 52) (hs : rsc t m mi) (he : pgR mi t 265 = upd g k z) (v : Int32) : rsc t m (gW mi (t + 1) (265 + k) v) ∧ pgR (gW mi (t + 1) (265 + k) v) t 265 = upd g k v := by
  have h0 : pg0 (upd g k v) := by
    intro i hi
    rw [pk_un (by omega)]
    have := pgR_0 mi t 265 i hi
    rw [he, pk_un (by omega)] at this
    exact this
  rw [gW_rgi hk, he, upd_upd]
  exact ⟨hs.q (by decide) _, pgR_gQ h0 _ _ _⟩
theorem cM_whom (E : gEv) (σ : gSg) (m : gMem) (hi t : Nat) (i n k : Int32) (hR : gR σ t) (ho : okM m t) : gCo E yX7_whom cX7_whom 8 (some .int) 5 [.ref t, .int i, .int n, .int k] σ m hi (fun v' m' => v' = some (.int (xWhom (pgR m t 0) i n k)) ∧ rsc t m m') := by
  refine gCo.of mwX7_whom (Nat.le_of_ble_eq_true rfl) ?_
  intro F hF
  have h0 := hR.1
  have h1 := hR.2.1
  obtain ⟨c, hc, hc4⟩ := id ho.1
  have hcn : cnt (pgR m t 0) = c := by unfold cnt; rw [hc]; exact nI_clamp (by omega)
  obtain ⟨r, hh, e1, e2, -, -⟩ := id ho.2
  unfold xWhom at hF
  refine j_aload_n (q := 1) dX7_whom_0 rfl (by rfl) ?_
  refine j_iload_n (q := 2) dX7_whom_1 rfl (by rfl) ?_
  refine o_callVi (q := 5) dX7_whom_2 rfl lX7_166 mwX7_isRow mvX7_isRow cn7 (by assumption) (by rfl) rfl (Nat.le_of_ble_eq_true (by rfl)) (by first | decide | omega) (cM_isRow E σ m hi t r i hR e1 e2) ?_
  rcases ixV_or i e1 (by omega) with ⟨hs, hv2⟩ | ⟨j, hj, ej, hs, hv2⟩
  · rw [← e1, hs]
    rw [hv2] at hF
    refine j_if_eq (q := 8) (tgt := 25) dX7_whom_5 rfl (by decide) (fun h5 => ?_) (fun h5 => ?_)
    · refine j_iconst (q := 26) (v := (-1)) dX7_whom_25 rfl (by decide) ?_
      refine o_iret hF rfl dX7_whom_26 ?_
      exact ⟨rfl, rsc.rf t m⟩
    · exact absurd rfl h5
  rw [← e1, hs]
  rw [hv2] at hF
  dsimp only at hF
  subst ej
  refine j_if_eq (q := 8) (tgt := 25) dX7_whom_5 rfl (by decide) (fun h5 => ?_) (fun h5 => ?_)
  · exact absurd h5 (by decide)
  refine j_iload_n (q := 9) dX7_whom_8 rfl (by rfl) ?_
  refine o_callSi (q := 12) dX7_whom_9 rfl lX7_218 mwX7_isLong msX7_isLong (by rfl) rfl (Nat.le_of_ble_eq_true (by rfl)) (by first | decide | omega) (cM_isLong E σ m hi _) ?_
  refine j_if_eq (q := 15) (tgt := 25) dX7_whom_12 rfl (by decide) (fun h12 => ?_) (fun h12 => ?_)
  · refine j_iconst (q := 26) (v := (-1)) dX7_whom_25 rfl (by decide) ?_
    refine o_iret hF rfl dX7_whom_26 ?_
    rw [if_neg (fun h => sWi_0 h12 h.1)]
    exact ⟨rfl, rsc.rf t m⟩
  refine j_iload_n (q := 16) dX7_whom_15 rfl (by rfl) ?_
  refine j_i2l (q := 17) dX7_whom_16 rfl ?_
  refine j_lconst (q := 18) (v := 0) dX7_whom_17 rfl (by decide) ?_
  refine j_lconst (q := 19) (v := 1) dX7_whom_18 rfl (by decide) ?_
  refine o_callSi (q := 22) dX7_whom_19 rfl lX7_55 mwX7_in msX7_in (by rfl) rfl (Nat.le_of_ble_eq_true (by rfl)) (by first | decide | omega) (cM_inI E σ m hi k 0 1 (by decide) (by decide)) ?_
  refine j_if_ne (q := 25) (tgt := 27) dX7_whom_22 rfl (by decide) (fun h22 => ?_) (fun h22 => ?_)
  · rw [if_pos ⟨sWi_1 h12, sWi_1 h22⟩] at hF
    obtain ⟨u, hu, eu⟩ := swN_wi (n := 200) (by decide) h12
    subst eu
    rw [nI_clamp (by omega), hcn] at hF
    have hoC : okC (pgR m t 0) := ho.1
    have hoB : okB (pgR m t 0) 9999 := ho.2
    generalize hG : pgR m t 0 = g at *
    have hm1 : (-1 : Int32) < whF g j u 0 := upsN_m1 (hoC.up (by omega) _) hu
    have K44 : ∀ (w b : Nat) (mi : gMem) (z : Int32) (o7 : Option Value), b + w = c + 1 → rsc t m mi → pgR mi t 265 = upd g (37 + j) z → (gJ E yX7_whom cX7_whom 8 (some .int) (gRm 5 0 0) F 44 ([some (.ref t), some (.int (nI j)), some (.int (nI u)), some (.int k), some (.int (bst (whF g j u) (fun c => sCho g (nI c)) 0 (-1) b).2), some (.int (bst (whF g j u) (fun c => sCho g (nI c)) 0 (-1) b).1), some (.int (nI b)), o7]) ([]) 0 0 σ (mi) hi) := by
      intro w
      induction w with
      | zero =>
        intro b mi z o7 hb hsc h265
        have hbc : b = c + 1 := by omega
        subst hbc
        rw [bst_b0 hm1 4 0 c] at hF
        have i24 : gIdx 24 318 24 := gIdx.of rfl (by decide) (by decide)
        refine j_iload (q := 46) dX7_whom_44 rfl (by rfl) ?_
        refine j_aload_n (q := 47) dX7_whom_46 rfl (by rfl) ?_
        refine j_getr (q := 50) dX7_whom_47 rfl fX7_7 (by first | with_reducible assumption | assumption) (by rfl) ?_
        refine j_bipush (q := 52) (v := 24) dX7_whom_50 rfl (by decide) ?_
        refine j_iaload (q := 53) dX7_whom_52 rfl (by first | with_reducible assumption | assumption) (by first | with_reducible assumption | assumption) ?_
        rw [r0_j _ t (by omega), hsc.n, hG, hc]
        refine j_icmp_gt (q := 56) (tgt := 124) dX7_whom_53 rfl (by decide) (fun h53 => ?_) (fun h53 => ?_)
        · refine j_iload_n (q := 125) dX7_whom_124 rfl (by rfl) ?_
          refine j_if_ne (q := 128) (tgt := 133) dX7_whom_125 rfl (by decide) (fun h125 => ?_) (fun h125 => ?_)
          · refine j_iload (q := 135) dX7_whom_133 rfl (by rfl) ?_
            refine o_iret hF rfl dX7_whom_135 ?_
            rw [if_neg h125]
            exact ⟨rfl, hsc⟩
          · refine j_iload (q := 130) dX7_whom_128 rfl (by rfl) ?_
            refine j_goto (tgt := 135) dX7_whom_130 (by decide) ?_
            refine o_iret hF rfl dX7_whom_135 ?_
            rw [if_pos (by first | exact h125 | exact Decidable.not_not.mp h125)]
            exact ⟨rfl, hsc⟩
        · exact absurd (nI_lt (by omega) (by omega)) h53
      | succ w ih =>
        intro b mi z o7 hb hsc h265
        have i24 : gIdx 24 318 24 := gIdx.of rfl (by decide) (by decide)
        have ix : gIdx (302 + nI j) 318 (265 + (37 + j)) := gIdx.of (by rw [show (302 : Int32) = nI 302 from rfl, nI_add]; congr 1; omega) (by omega) (by decide)
        have hch := cM_whomBy E σ mi hi t (nI b) hR
        rw [hsc.n, hG] at hch
        obtain ⟨hs1, hp1⟩ := oth_w (k := 37 + j) (by omega) hsc h265 (sCho g (nI b))
        have hok : okC (upd g (37 + j) (sCho g (nI b))) ∧ okB (upd g (37 + j) (sCho g (nI b))) 9999 := ⟨hoC.up (by omega) _, hoB.up (by omega) (by omega) _⟩
        have hH := cM_hoursGo E σ (gW mi (t + 1) (265 + (37 + j)) (sCho g (nI b))) hi t 265 u _ hp1 hR (Or.inr rfl) hok.1 hok.2 hu
        have hs2 := hs1.hg (upd g (37 + j) (sCho g (nI b))) u
        have hp2 := (hgM_265 (gW mi (t + 1) (265 + (37 + j)) (sCho g (nI b))) t (upd g (37 + j) (sCho g (nI b))) u).trans hp1
        have hch2 := cM_whomBy E σ (hgM (gW mi (t + 1) (265 + (37 + j)) (sCho g (nI b))) t (upd g (37 + j) (sCho g (nI b))) u) hi t (nI b) hR
        rw [hs2.n, hG] at hch2
        refine j_iload (q := 46) dX7_whom_44 rfl (by rfl) ?_
        refine j_aload_n (q := 47) dX7_whom_46 rfl (by rfl) ?_
        refine j_getr (q := 50) dX7_whom_47 rfl fX7_7 (by first | with_reducible assumption | assumption) (by rfl) ?_
        refine j_bipush (q := 52) (v := 24) dX7_whom_50 rfl (by decide) ?_
        refine j_iaload (q := 53) dX7_whom_52 rfl (by first | with_reducible assumption | assumption) (by first | with_reducible assumption | assumption) ?_
        rw [r0_j _ t (by omega), hsc.n, hG, hc]
        refine j_icmp_gt (q := 56) (tgt := 124) dX7_whom_53 rfl (by decide) (fun h53 => ?_) (fun h53 => ?_)
        · exact absurd h53 (nI_nlt (by omega) (by omega))
        refine j_aload_n (q := 57) dX7_whom_56 rfl (by rfl) ?_
        refine j_getr (q := 60) dX7_whom_57 rfl fX7_7 (by first | with_reducible assumption | assumption) (by rfl) ?_
        refine j_sipush (q := 63) (v := 302) dX7_whom_60 rfl (by decide) ?_
        refine j_iload_n (q := 64) dX7_whom_63 rfl (by rfl) ?_
        refine j_iadd (q := 65) dX7_whom_64 rfl ?_
        refine j_aload_n (q := 66) dX7_whom_65 rfl (by rfl) ?_
        refine j_iload (q := 68) dX7_whom_66 rfl (by rfl) ?_
        refine o_callVi (q := 71) dX7_whom_68 rfl lX7_229 mwX7_whomBy mvX7_whomBy cn7 (by assumption) (by rfl) rfl (Nat.le_of_ble_eq_true (by rfl)) (by first | decide | omega) (hch) ?_
        refine j_iastore (q := 72) dX7_whom_71 rfl (by first | with_reducible assumption | assumption) (by first | with_reducible assumption | assumption) ?_
        refine j_aload_n (q := 73) dX7_whom_72 rfl (by rfl) ?_
        refine j_sipush (q := 76) (v := 265) dX7_whom_73 rfl (by decide) ?_
        refine j_iload_n (q := 77) dX7_whom_76 rfl (by rfl) ?_
        refine o_callVi (q := 80) dX7_whom_77 rfl lX7_221 mwX7_hoursGo mvX7_hoursGo cn7 (by assumption) (by rfl) rfl (Nat.le_of_ble_eq_true (by rfl)) (by first | decide | omega) (hH) ?_
        refine j_istore (q := 82) dX7_whom_80 rfl (by decide) ?_
        refine j_iload (q := 84) dX7_whom_82 rfl (by rfl) ?_
        refine j_iload (q := 86) dX7_whom_84 rfl (by rfl) ?_
        have := ih (b + 1) _ _ (some (.int (upsN (upd g (37 + j) (sCho g (nI b))) u))) (by omega) hs2 hp2
        refine j_icmp_le (q := 89) (tgt := 98) dX7_whom_86 rfl (by decide) (fun h86 => ?_) (fun h86 => ?_)
        · rw [bst, if_neg (Int32.not_lt.mpr (show whF g j u b ≤ _ from h86))] at this
          refine j_iload (q := 100) dX7_whom_98 rfl (by rfl) ?_
          refine j_istore (q := 102) dX7_whom_100 rfl (by decide) ?_
          refine j_iload (q := 104) dX7_whom_102 rfl (by rfl) ?_
          refine j_iload (q := 106) dX7_whom_104 rfl (by rfl) ?_
          refine j_icmp_le (q := 109) (tgt := 114) dX7_whom_106 rfl (by decide) (fun h106 => ?_) (fun h106 => ?_)
          · refine j_iload (q := 116) dX7_whom_114 rfl (by rfl) ?_
            refine j_istore (q := 118) dX7_whom_116 rfl (by decide) ?_
            refine j_iinc (q := 121) dX7_whom_118 rfl (by rfl) (by first | exact nI_inc _ | rfl) (by decide) ?_
            refine j_goto (tgt := 44) dX7_whom_121 (by decide) ?_
            exact this
          · exact absurd h86 h106
        · rw [bst, if_pos (Int32.not_le.mp (show ¬ whF g j u b ≤ _ from h86))] at this
          refine j_aload_n (q := 90) dX7_whom_89 rfl (by rfl) ?_
          refine j_iload (q := 92) dX7_whom_90 rfl (by rfl) ?_
          refine o_callVi (q := 95) dX7_whom_92 rfl lX7_229 mwX7_whomBy mvX7_whomBy cn7 (by assumption) (by rfl) rfl (Nat.le_of_ble_eq_true (by rfl)) (by first | decide | omega) (hch2) ?_
          refine j_goto (tgt := 100) dX7_whom_95 (by decide) ?_
          refine j_istore (q := 102) dX7_whom_100 rfl (by decide) ?_
          refine j_iload (q := 104) dX7_whom_102 rfl (by rfl) ?_
          refine j_iload (q := 106) dX7_whom_104 rfl (by rfl) ?_
          refine j_icmp_le (q := 109) (tgt := 114) dX7_whom_106 rfl (by decide) (fun h106 => ?_) (fun h106 => ?_)
          · exact absurd h106 h86
          · refine j_iload (q := 111) dX7_whom_109 rfl (by rfl) ?_
            refine j_goto (tgt := 116) dX7_whom_111 (by decide) ?_
            refine j_istore (q := 118) dX7_whom_116 rfl (by decide) ?_
            refine j_iinc (q := 121) dX7_whom_118 rfl (by rfl) (by first | exact nI_inc _ | rfl) (by decide) ?_
            refine j_goto (tgt := 44) dX7_whom_121 (by decide) ?_
            exact this
    have hCp := cM_copies E σ m hi t 0 265 hR (by decide) (by decide) (by decide)
    rw [hG] at hCp
    refine j_iconst (q := 28) (v := (-1)) dX7_whom_27 rfl (by decide) ?_
    refine j_istore (q := 30) dX7_whom_28 rfl (by decide) ?_
    refine j_iconst (q := 31) (v := 0) dX7_whom_30 rfl (by decide) ?_
    refine j_istore (q := 33) dX7_whom_31 rfl (by decide) ?_
    refine j_aload_n (q := 34) dX7_whom_33 rfl (by rfl) ?_
    refine j_iconst (q := 35) (v := 0) dX7_whom_34 rfl (by decide) ?_
    refine j_sipush (q := 38) (v := 265) dX7_whom_35 rfl (by decide) ?_
    refine o_callVv (q := 41) dX7_whom_38 rfl lX7_205 mwX7_copies mvX7_copies cn7 (by assumption) (by rfl) rfl (Nat.le_of_ble_eq_true (by rfl)) (by first | decide | omega) (hCp) ?_
    refine j_iconst (q := 42) (v := 0) dX7_whom_41 rfl (by decide) ?_
    refine j_istore (q := 44) dX7_whom_42 rfl (by decide) ?_
    refine K44 (c + 1) 0 _ (g (37 + j)) _ (by omega) ((rsc.rf t m).q (by decide) _) ?_
    rw [pgR_gQ (by rw [← hG]; exact pgR_0 m t 0), upd_self]
  · refine j_iconst (q := 26) (v := (-1)) dX7_whom_25 rfl (by decide) ?_
    refine o_iret hF rfl dX7_whom_26 ?_
    rw [if_neg (fun h => sWi_0 (by first | exact h22 | exact Decidable.not_not.mp h22) h.2)]
    exact ⟨rfl, rsc.rf t m⟩
