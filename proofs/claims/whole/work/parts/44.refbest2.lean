/-! the reference: flow, kind, bears, swap -/
theorem oth_f {m mi : gMem} {t : Nat} {g : Nat → Int32} {z : Int32} (hs : rsc t m mi) (he : pgR mi t 265 = upd g 50 z) (v : Int32) : rsc t m (gW mi (t + 1) 315 (v - 8)) ∧ pgR (gW mi (t + 1) 315 (v - 8)) t 265 = upd g 50 v := by
  have h0 : pg0 (upd g 50 v) := by
    intro i hi
    rw [pk_un (by omega)]
    have := pgR_0 mi t 265 i hi
    rw [he, pk_un (by omega)] at this
    exact this
  have e : gW mi (t + 1) 315 (v - 8) = gQ mi t 265 (upd (pgR mi t 265) 50 (v - 8 + aj 50)) := gW_rg (p := 265) (i := 50) (by decide) _
  rw [e, show v - 8 + aj 50 = v from Int32.sub_add_cancel v 8, he, upd_upd]
  exact ⟨hs.q (by decide) _, pgR_gQ h0 _ _ _⟩
theorem cM_went2 (E : gEv) (σ : gSg) (hi t j u : Nat) (m mi : gMem) (g g' : Nat → Int32) (hR : gR σ t) (hG : pgR m t 0 = g) (hs : rsc t m mi) (h0 : pg0 g') (hc : okC g') (hj : j < cnt g') (he : g (20 + j) = g' (20 + j)) : gCo E yX7_wentThen cX7_wentThen 2 (some .int) 0 [.ref t, .int (nI j)] σ (hgM mi t g' u) hi (gX (some (.int (upsV g' (nI j) u))) (hgM mi t g' u)) := by
  have h4 := cnt_le hc
  have h := cM_wentThen E σ (hgM mi t g' u) hi t j hR (by omega)
  rw [hgM_212 _ t h0, (hs.hg g' u).n, hG, went_d hc hj u he] at h
  exact h
theorem cM_flow (E : gEv) (σ : gSg) (m : gMem) (hi t : Nat) (v n q : Int32) (hR : gR σ t) (ho : okM m t) : gCo E yX7_flow cX7_flow 5 (some .int) 5 [.ref t, .int v, .int n, .int q] σ m hi (fun v' m' => v' = some (.int (xFlow (pgR m t 0) v n q)) ∧ rsc t m m') := by
  refine gCo.of mwX7_flow (Nat.le_of_ble_eq_true rfl) ?_
  intro F hF
  have h0 := hR.1
  have h1 := hR.2.1
  obtain ⟨c, hc, hc4⟩ := id ho.1
  have hcn : cnt (pgR m t 0) = c := by unfold cnt; rw [hc]; exact nI_clamp (by omega)
  unfold xFlow at hF
  refine j_aload_n (q := 1) dX7_flow_0 rfl (by rfl) ?_
  refine j_iload_n (q := 2) dX7_flow_1 rfl (by rfl) ?_
  refine o_callVi (q := 5) dX7_flow_2 rfl lX7_160 mwX7_isGeyser mvX7_isGeyser cn7 (by assumption) (by rfl) rfl (Nat.le_of_ble_eq_true (by rfl)) (by first | decide | omega) (cM_isGeyser E σ m hi t c v hR hc hc4) ?_
  rcases ixV_or v hc (by omega) with ⟨hs, hv2⟩ | ⟨j, hj, ej, hs, hv2⟩
  · rw [← hc, hs]
    rw [hv2] at hF
    refine j_if_eq (q := 8) (tgt := 27) dX7_flow_5 rfl (by decide) (fun h5 => ?_) (fun h5 => ?_)
    · refine j_iconst (q := 28) (v := (-1)) dX7_flow_27 rfl (by decide) ?_
      refine o_iret hF rfl dX7_flow_28 ?_
      exact ⟨rfl, rsc.rf t m⟩
    · exact absurd rfl h5
  rw [← hc, hs]
  rw [hv2] at hF
  dsimp only at hF
  subst ej
  refine j_if_eq (q := 8) (tgt := 27) dX7_flow_5 rfl (by decide) (fun h5 => ?_) (fun h5 => ?_)
  · exact absurd h5 (by decide)
  refine j_iload_n (q := 9) dX7_flow_8 rfl (by rfl) ?_
  refine o_callSi (q := 12) dX7_flow_9 rfl lX7_218 mwX7_isLong msX7_isLong (by rfl) rfl (Nat.le_of_ble_eq_true (by rfl)) (by first | decide | omega) (cM_isLong E σ m hi _) ?_
  refine j_if_eq (q := 15) (tgt := 27) dX7_flow_12 rfl (by decide) (fun h12 => ?_) (fun h12 => ?_)
  · refine j_iconst (q := 28) (v := (-1)) dX7_flow_27 rfl (by decide) ?_
    refine o_iret hF rfl dX7_flow_28 ?_
    rw [if_neg (fun h => sWi_0 h12 h.1)]
    exact ⟨rfl, rsc.rf t m⟩
  refine j_iload_n (q := 16) dX7_flow_15 rfl (by rfl) ?_
  refine j_i2l (q := 17) dX7_flow_16 rfl ?_
  refine j_lconst (q := 18) (v := 0) dX7_flow_17 rfl (by decide) ?_
  refine j_ldc2 (q := 21) dX7_flow_18 rfl kX7_177 ?_
  refine o_callSi (q := 24) dX7_flow_21 rfl lX7_55 mwX7_in msX7_in (by rfl) rfl (Nat.le_of_ble_eq_true (by rfl)) (by first | decide | omega) (cM_inI E σ m hi q 0 20 (by decide) (by decide)) ?_
  refine j_if_ne (q := 27) (tgt := 29) dX7_flow_24 rfl (by decide) (fun h24 => ?_) (fun h24 => ?_)
  · rw [if_pos ⟨sWi_1 h12, sWi_1 h24⟩] at hF
    obtain ⟨u, hu, eu⟩ := swN_wi (n := 200) (by decide) h12
    subst eu
    rw [nI_clamp (by omega)] at hF
    have hoC : okC (pgR m t 0) := ho.1
    have hoB : okB (pgR m t 0) 9999 := ho.2
    have i315 : gIdx 315 318 315 := gIdx.of rfl (by decide) (by decide)
    generalize hG : pgR m t 0 = g at *
    have hg0 : pg0 g := by rw [← hG]; exact pgR_0 m t 0
    have K40 : ∀ (w b : Nat) (mi : gMem) (z : Int32), b + w = 41 → rsc t m mi → pgR mi t 265 = upd g 50 z → flJ g (nI j) u q 41 0 = flJ g (nI j) u q w b → (gJ E yX7_flow cX7_flow 5 (some .int) (gRm 5 0 0) F 40 ([some (.ref t), some (.int (nI j)), some (.int (nI u)), some (.int q), some (.int (nI b))]) ([]) 0 0 σ (mi) hi) := by
      intro w
      induction w with
      | zero =>
        intro b mi z hb hsc h265 he
        have hb41 : b = 41 := by omega
        subst hb41
        refine j_iload (q := 42) dX7_flow_40 rfl (by rfl) ?_
        refine j_bipush (q := 44) (v := 40) dX7_flow_42 rfl (by decide) ?_
        refine j_icmp_gt (q := 47) (tgt := 87) dX7_flow_44 rfl (by decide) (fun h44 => ?_) (fun h44 => ?_)
        · refine j_bipush (q := 89) (v := (-4)) dX7_flow_87 rfl (by decide) ?_
          refine o_iret hF rfl dX7_flow_89 ?_
          rw [he]
          exact ⟨rfl, hsc⟩
        · exact absurd (show (40 : Int32) < nI 41 by decide) h44
      | succ w ih =>
        intro b mi z hb hsc h265 he
        obtain ⟨hs1, hp1⟩ := oth_f hsc h265 (nI b)
        have hH := cM_hoursGo E σ (gW mi (t + 1) 315 (nI b - 8)) hi t 265 u _ hp1 hR (Or.inr rfl) (hoC.up (by omega) _) (hoB.up (by omega) (by omega) _) hu
        have hs2 := hs1.hg (upd g 50 (nI b)) u
        have hp2 := (hgM_265 (gW mi (t + 1) 315 (nI b - 8)) t (upd g 50 (nI b)) u).trans hp1
        have hW := cM_went2 E σ hi t j u m (gW mi (t + 1) 315 (nI b - 8)) g (upd g 50 (nI b)) hR hG hs1 (upd_0 hg0 (by decide) _) (hoC.up (by omega) _) (by rw [cnt_upd g (by omega), hcn]; exact hj) (pk_un (by omega)).symm
        refine j_iload (q := 42) dX7_flow_40 rfl (by rfl) ?_
        refine j_bipush (q := 44) (v := 40) dX7_flow_42 rfl (by decide) ?_
        refine j_icmp_gt (q := 47) (tgt := 87) dX7_flow_44 rfl (by decide) (fun h44 => ?_) (fun h44 => ?_)
        · exact absurd h44 (nI_nlt (a := 40) (b := b) (by omega) (by omega))
        refine j_aload_n (q := 48) dX7_flow_47 rfl (by rfl) ?_
        refine j_getr (q := 51) dX7_flow_48 rfl fX7_7 (by first | with_reducible assumption | assumption) (by rfl) ?_
        refine j_sipush (q := 54) (v := 315) dX7_flow_51 rfl (by decide) ?_
        refine j_iload (q := 56) dX7_flow_54 rfl (by rfl) ?_
        refine j_bipush (q := 58) (v := 8) dX7_flow_56 rfl (by decide) ?_
        refine j_isub (q := 59) dX7_flow_58 rfl ?_
        refine j_iastore (q := 60) dX7_flow_59 rfl (by first | with_reducible assumption | assumption) (by first | with_reducible assumption | assumption) ?_
        refine j_aload_n (q := 61) dX7_flow_60 rfl (by rfl) ?_
        refine j_sipush (q := 64) (v := 265) dX7_flow_61 rfl (by decide) ?_
        refine j_iload_n (q := 65) dX7_flow_64 rfl (by rfl) ?_
        refine o_callVi (q := 68) dX7_flow_65 rfl lX7_221 mwX7_hoursGo mvX7_hoursGo cn7 (by assumption) (by rfl) rfl (Nat.le_of_ble_eq_true (by rfl)) (by first | decide | omega) (hH) ?_
        refine j_pop (q := 69) dX7_flow_68 rfl rfl ?_
        refine j_aload_n (q := 70) dX7_flow_69 rfl (by rfl) ?_
        refine j_iload_n (q := 71) dX7_flow_70 rfl (by rfl) ?_
        refine o_callVi (q := 74) dX7_flow_71 rfl lX7_226 mwX7_wentThen mvX7_wentThen cn7 (by assumption) (by rfl) rfl (Nat.le_of_ble_eq_true (by rfl)) (by first | decide | omega) (hW) ?_
        refine j_iload_n (q := 75) dX7_flow_74 rfl (by rfl) ?_
        refine j_icmp_lt (q := 78) (tgt := 81) dX7_flow_75 rfl (by decide) (fun h75 => ?_) (fun h75 => ?_)
        · refine j_iinc (q := 84) dX7_flow_81 rfl (by rfl) (by first | exact nI_inc _ | rfl) (by decide) ?_
          refine j_goto (tgt := 40) dX7_flow_84 (by decide) ?_
          refine ih (b + 1) _ _ (by omega) hs2 hp2 ?_
          rw [he, flJ, if_neg (Int32.not_le.mpr h75)]
        · refine j_iload (q := 80) dX7_flow_78 rfl (by rfl) ?_
          refine o_iret hF rfl dX7_flow_80 ?_
          rw [he, flJ, if_pos (Int32.not_lt.mp h75)]
          exact ⟨rfl, hs2⟩
    have hCp := cM_copies E σ m hi t 0 265 hR (by decide) (by decide) (by decide)
    rw [hG] at hCp
    refine j_aload_n (q := 30) dX7_flow_29 rfl (by rfl) ?_
    refine j_iconst (q := 31) (v := 0) dX7_flow_30 rfl (by decide) ?_
    refine j_sipush (q := 34) (v := 265) dX7_flow_31 rfl (by decide) ?_
    refine o_callVv (q := 37) dX7_flow_34 rfl lX7_205 mwX7_copies mvX7_copies cn7 (by assumption) (by rfl) rfl (Nat.le_of_ble_eq_true (by rfl)) (by first | decide | omega) (hCp) ?_
    refine j_iconst (q := 38) (v := 0) dX7_flow_37 rfl (by decide) ?_
    refine j_istore (q := 40) dX7_flow_38 rfl (by decide) ?_
    refine K40 41 0 _ (g 50) (by omega) ((rsc.rf t m).q (by decide) _) ?_ rfl
    rw [pgR_gQ hg0, upd_self]
  · refine j_iconst (q := 28) (v := (-1)) dX7_flow_27 rfl (by decide) ?_
    refine o_iret hF rfl dX7_flow_28 ?_
    rw [if_neg (fun h => sWi_0 (by first | exact h24 | exact Decidable.not_not.mp h24) h.2)]
    exact ⟨rfl, rsc.rf t m⟩
theorem cM_kind (E : gEv) (σ : gSg) (m : gMem) (hi t : Nat) (v n k : Int32) (hR : gR σ t) (ho : okM m t) : gCo E yX7_kind cX7_kind 7 (some .int) 5 [.ref t, .int v, .int n, .int k] σ m hi (fun v' m' => v' = some (.int (xKind (pgR m t 0) v n k)) ∧ rsc t m m') := by
  refine gCo.of mwX7_kind (Nat.le_of_ble_eq_true rfl) ?_
  intro F hF
  have h0 := hR.1
  have h1 := hR.2.1
  obtain ⟨c, hc, hc4⟩ := id ho.1
  have hcn : cnt (pgR m t 0) = c := by unfold cnt; rw [hc]; exact nI_clamp (by omega)
  unfold xKind at hF
  refine j_aload_n (q := 1) dX7_kind_0 rfl (by rfl) ?_
  refine j_iload_n (q := 2) dX7_kind_1 rfl (by rfl) ?_
  refine o_callVi (q := 5) dX7_kind_2 rfl lX7_160 mwX7_isGeyser mvX7_isGeyser cn7 (by assumption) (by rfl) rfl (Nat.le_of_ble_eq_true (by rfl)) (by first | decide | omega) (cM_isGeyser E σ m hi t c v hR hc hc4) ?_
  rcases ixV_or v hc (by omega) with ⟨hs, hv2⟩ | ⟨j, hj, ej, hs, hv2⟩
  · rw [← hc, hs]
    rw [hv2] at hF
    refine j_if_eq (q := 8) (tgt := 25) dX7_kind_5 rfl (by decide) (fun h5 => ?_) (fun h5 => ?_)
    · refine j_iconst (q := 26) (v := (-1)) dX7_kind_25 rfl (by decide) ?_
      refine o_iret hF rfl dX7_kind_26 ?_
      exact ⟨rfl, rsc.rf t m⟩
    · exact absurd rfl h5
  rw [← hc, hs]
  rw [hv2] at hF
  dsimp only at hF
  subst ej
  refine j_if_eq (q := 8) (tgt := 25) dX7_kind_5 rfl (by decide) (fun h5 => ?_) (fun h5 => ?_)
  · exact absurd h5 (by decide)
  refine j_iload_n (q := 9) dX7_kind_8 rfl (by rfl) ?_
  refine o_callSi (q := 12) dX7_kind_9 rfl lX7_218 mwX7_isLong msX7_isLong (by rfl) rfl (Nat.le_of_ble_eq_true (by rfl)) (by first | decide | omega) (cM_isLong E σ m hi _) ?_
  refine j_if_eq (q := 15) (tgt := 25) dX7_kind_12 rfl (by decide) (fun h12 => ?_) (fun h12 => ?_)
  · refine j_iconst (q := 26) (v := (-1)) dX7_kind_25 rfl (by decide) ?_
    refine o_iret hF rfl dX7_kind_26 ?_
    rw [if_neg (fun h => sWi_0 h12 h.1)]
    exact ⟨rfl, rsc.rf t m⟩
  refine j_iload_n (q := 16) dX7_kind_15 rfl (by rfl) ?_
  refine j_i2l (q := 17) dX7_kind_16 rfl ?_
  refine j_lconst (q := 18) (v := 0) dX7_kind_17 rfl (by decide) ?_
  refine j_lconst (q := 19) (v := 1) dX7_kind_18 rfl (by decide) ?_
  refine o_callSi (q := 22) dX7_kind_19 rfl lX7_55 mwX7_in msX7_in (by rfl) rfl (Nat.le_of_ble_eq_true (by rfl)) (by first | decide | omega) (cM_inI E σ m hi k 0 1 (by decide) (by decide)) ?_
  refine j_if_ne (q := 25) (tgt := 27) dX7_kind_22 rfl (by decide) (fun h22 => ?_) (fun h22 => ?_)
  · rw [if_pos ⟨sWi_1 h12, sWi_1 h22⟩] at hF
    obtain ⟨u, hu, eu⟩ := swN_wi (n := 200) (by decide) h12
    subst eu
    rw [nI_clamp (by omega)] at hF
    have hoC : okC (pgR m t 0) := ho.1
    have hoB : okB (pgR m t 0) 9999 := ho.2
    have ix : gIdx (265 + nI j) 318 (265 + j) := gIdx.of (nI_add 265 j) (by omega) (by decide)
    generalize hG : pgR m t 0 = g at *
    have hg0 : pg0 g := by rw [← hG]; exact pgR_0 m t 0
    have hkf : ∀ b, upsV (upd g j (nI b)) (nI j) u = kiF g (nI j) j u b := fun b => by unfold kiF; rw [show 4 * 0 + j = j by omega]
    have K44 : ∀ (w b : Nat) (mi : gMem) (z : Int32), b + w = 4 → rsc t m mi → pgR mi t 265 = upd g j z → (gJ E yX7_kind cX7_kind 7 (some .int) (gRm 5 0 0) F 44 ([some (.ref t), some (.int (nI j)), some (.int (nI u)), some (.int k), some (.int (bst (kiF g (nI j) j u) nI 0 (-1) b).2), some (.int (bst (kiF g (nI j) j u) nI 0 (-1) b).1), some (.int (nI b))]) ([]) 0 0 σ (mi) hi) := by
      intro w
      induction w with
      | zero =>
        intro b mi z hb hsc h265
        have hb4 : b = 4 := by omega
        subst hb4
        refine j_iload (q := 46) dX7_kind_44 rfl (by rfl) ?_
        refine j_iconst (q := 47) (v := 4) dX7_kind_46 rfl (by decide) ?_
        refine j_icmp_ge (q := 50) (tgt := 118) dX7_kind_47 rfl (by decide) (fun h47 => ?_) (fun h47 => ?_)
        · refine j_iload_n (q := 119) dX7_kind_118 rfl (by rfl) ?_
          refine j_if_ne (q := 122) (tgt := 127) dX7_kind_119 rfl (by decide) (fun h119 => ?_) (fun h119 => ?_)
          · refine j_iload (q := 129) dX7_kind_127 rfl (by rfl) ?_
            refine o_iret hF rfl dX7_kind_129 ?_
            rw [if_neg h119]
            exact ⟨rfl, hsc⟩
          · refine j_iload (q := 124) dX7_kind_122 rfl (by rfl) ?_
            refine j_goto (tgt := 129) dX7_kind_124 (by decide) ?_
            refine o_iret hF rfl dX7_kind_129 ?_
            rw [if_pos (by first | exact h119 | exact Decidable.not_not.mp h119)]
            exact ⟨rfl, hsc⟩
        · exact absurd (show (4 : Int32) ≤ nI 4 by decide) h47
      | succ w ih =>
        intro b mi z hb hsc h265
        obtain ⟨hs1, hp1⟩ := oth_w (k := j) (by omega) hsc h265 (nI b)
        have hH := cM_hoursGo E σ (gW mi (t + 1) (265 + j) (nI b)) hi t 265 u _ hp1 hR (Or.inr rfl) (hoC.up (by omega) _) (hoB.up (by omega) (by omega) _) hu
        have hs2 := hs1.hg (upd g j (nI b)) u
        have hp2 := (hgM_265 (gW mi (t + 1) (265 + j) (nI b)) t (upd g j (nI b)) u).trans hp1
        have hW := cM_went2 E σ hi t j u m (gW mi (t + 1) (265 + j) (nI b)) g (upd g j (nI b)) hR hG hs1 (upd_0 hg0 (by omega) _) (hoC.up (by omega) _) (by rw [cnt_upd g (by omega), hcn]; exact hj) (pk_un (by omega)).symm
        rw [hkf] at hW
        have := ih (b + 1) _ _ (by omega) hs2 hp2
        refine j_iload (q := 46) dX7_kind_44 rfl (by rfl) ?_
        refine j_iconst (q := 47) (v := 4) dX7_kind_46 rfl (by decide) ?_
        refine j_icmp_ge (q := 50) (tgt := 118) dX7_kind_47 rfl (by decide) (fun h47 => ?_) (fun h47 => ?_)
        · exact absurd h47 (nI_ge (a := b) (b := 4) (by omega) (by omega))
        refine j_aload_n (q := 51) dX7_kind_50 rfl (by rfl) ?_
        refine j_getr (q := 54) dX7_kind_51 rfl fX7_7 (by first | with_reducible assumption | assumption) (by rfl) ?_
        refine j_sipush (q := 57) (v := 265) dX7_kind_54 rfl (by decide) ?_
        refine j_iload_n (q := 58) dX7_kind_57 rfl (by rfl) ?_
        refine j_iadd (q := 59) dX7_kind_58 rfl ?_
        refine j_iload (q := 61) dX7_kind_59 rfl (by rfl) ?_
        refine j_iastore (q := 62) dX7_kind_61 rfl (by first | with_reducible assumption | assumption) (by first | with_reducible assumption | assumption) ?_
        refine j_aload_n (q := 63) dX7_kind_62 rfl (by rfl) ?_
        refine j_sipush (q := 66) (v := 265) dX7_kind_63 rfl (by decide) ?_
        refine j_iload_n (q := 67) dX7_kind_66 rfl (by rfl) ?_
        refine o_callVi (q := 70) dX7_kind_67 rfl lX7_221 mwX7_hoursGo mvX7_hoursGo cn7 (by assumption) (by rfl) rfl (Nat.le_of_ble_eq_true (by rfl)) (by first | decide | omega) (hH) ?_
        refine j_pop (q := 71) dX7_kind_70 rfl rfl ?_
        refine j_aload_n (q := 72) dX7_kind_71 rfl (by rfl) ?_
        refine j_iload_n (q := 73) dX7_kind_72 rfl (by rfl) ?_
        refine o_callVi (q := 76) dX7_kind_73 rfl lX7_226 mwX7_wentThen mvX7_wentThen cn7 (by assumption) (by rfl) rfl (Nat.le_of_ble_eq_true (by rfl)) (by first | decide | omega) (hW) ?_
        refine j_iload (q := 78) dX7_kind_76 rfl (by rfl) ?_
        refine j_icmp_le (q := 81) (tgt := 86) dX7_kind_78 rfl (by decide) (fun h78 => ?_) (fun h78 => ?_)
        · rw [bst, if_neg (Int32.not_lt.mpr h78)] at this
          refine j_iload (q := 88) dX7_kind_86 rfl (by rfl) ?_
          refine j_istore (q := 90) dX7_kind_88 rfl (by decide) ?_
          refine j_aload_n (q := 91) dX7_kind_90 rfl (by rfl) ?_
          refine j_iload_n (q := 92) dX7_kind_91 rfl (by rfl) ?_
          refine o_callVi (q := 95) dX7_kind_92 rfl lX7_226 mwX7_wentThen mvX7_wentThen cn7 (by assumption) (by rfl) rfl (Nat.le_of_ble_eq_true (by rfl)) (by first | decide | omega) (hW) ?_
          refine j_iload (q := 97) dX7_kind_95 rfl (by rfl) ?_
          refine j_icmp_le (q := 100) (tgt := 108) dX7_kind_97 rfl (by decide) (fun h97 => ?_) (fun h97 => ?_)
          · refine j_iload (q := 110) dX7_kind_108 rfl (by rfl) ?_
            refine j_istore (q := 112) dX7_kind_110 rfl (by decide) ?_
            refine j_iinc (q := 115) dX7_kind_112 rfl (by rfl) (by first | exact nI_inc _ | rfl) (by decide) ?_
            refine j_goto (tgt := 44) dX7_kind_115 (by decide) ?_
            exact this
          · exact absurd h78 h97
        · rw [bst, if_pos (Int32.not_le.mp h78)] at this
          refine j_iload (q := 83) dX7_kind_81 rfl (by rfl) ?_
          refine j_goto (tgt := 88) dX7_kind_83 (by decide) ?_
          refine j_istore (q := 90) dX7_kind_88 rfl (by decide) ?_
          refine j_aload_n (q := 91) dX7_kind_90 rfl (by rfl) ?_
          refine j_iload_n (q := 92) dX7_kind_91 rfl (by rfl) ?_
          refine o_callVi (q := 95) dX7_kind_92 rfl lX7_226 mwX7_wentThen mvX7_wentThen cn7 (by assumption) (by rfl) rfl (Nat.le_of_ble_eq_true (by rfl)) (by first | decide | omega) (hW) ?_
          refine j_iload (q := 97) dX7_kind_95 rfl (by rfl) ?_
          refine j_icmp_le (q := 100) (tgt := 108) dX7_kind_97 rfl (by decide) (fun h97 => ?_) (fun h97 => ?_)
          · exact absurd h97 h78
          · refine j_aload_n (q := 101) dX7_kind_100 rfl (by rfl) ?_
            refine j_iload_n (q := 102) dX7_kind_101 rfl (by rfl) ?_
            refine o_callVi (q := 105) dX7_kind_102 rfl lX7_226 mwX7_wentThen mvX7_wentThen cn7 (by assumption) (by rfl) rfl (Nat.le_of_ble_eq_true (by rfl)) (by first | decide | omega) (hW) ?_
            refine j_goto (tgt := 110) dX7_kind_105 (by decide) ?_
            refine j_istore (q := 112) dX7_kind_110 rfl (by decide) ?_
            refine j_iinc (q := 115) dX7_kind_112 rfl (by rfl) (by first | exact nI_inc _ | rfl) (by decide) ?_
            refine j_goto (tgt := 44) dX7_kind_115 (by decide) ?_
            exact this
    have hCp := cM_copies E σ m hi t 0 265 hR (by decide) (by decide) (by decide)
    rw [hG] at hCp
    refine j_iconst (q := 28) (v := (-1)) dX7_kind_27 rfl (by decide) ?_
    refine j_istore (q := 30) dX7_kind_28 rfl (by decide) ?_
    refine j_iconst (q := 31) (v := 0) dX7_kind_30 rfl (by decide) ?_
    refine j_istore (q := 33) dX7_kind_31 rfl (by decide) ?_
    refine j_aload_n (q := 34) dX7_kind_33 rfl (by rfl) ?_
    refine j_iconst (q := 35) (v := 0) dX7_kind_34 rfl (by decide) ?_
    refine j_sipush (q := 38) (v := 265) dX7_kind_35 rfl (by decide) ?_
    refine o_callVv (q := 41) dX7_kind_38 rfl lX7_205 mwX7_copies mvX7_copies cn7 (by assumption) (by rfl) rfl (Nat.le_of_ble_eq_true (by rfl)) (by first | decide | omega) (hCp) ?_
    refine j_iconst (q := 42) (v := 0) dX7_kind_41 rfl (by decide) ?_
    refine j_istore (q := 44) dX7_kind_42 rfl (by decide) ?_
    refine K44 4 0 _ (g j) (by omega) ((rsc.rf t m).q (by decide) _) ?_
    rw [pgR_gQ hg0, upd_self]
  · refine j_iconst (q := 26) (v := (-1)) dX7_kind_25 rfl (by decide) ?_
    refine o_iret hF rfl dX7_kind_26 ?_
    rw [if_neg (fun h => sWi_0 (by first | exact h22 | exact Decidable.not_not.mp h22) h.2)]
    exact ⟨rfl, rsc.rf t m⟩
theorem cM_bears (E : gEv) (σ : gSg) (m : gMem) (hi t : Nat) (i n : Int32) (hR : gR σ t) (ho : okM m t) : gCo E yX7_bears cX7_bears 6 (some .int) 5 [.ref t, .int i, .int n] σ m hi (fun v' m' => v' = some (.int (xBears (pgR m t 0) i n)) ∧ rsc t m m') := by
  refine gCo.of mwX7_bears (Nat.le_of_ble_eq_true rfl) ?_
  intro F hF
  have h0 := hR.1
  have h1 := hR.2.1
  obtain ⟨r, hh, e1, e2, -, -⟩ := id ho.2
  unfold xBears at hF
  refine j_aload_n (q := 1) dX7_bears_0 rfl (by rfl) ?_
  refine j_iload_n (q := 2) dX7_bears_1 rfl (by rfl) ?_
  refine o_callVi (q := 5) dX7_bears_2 rfl lX7_166 mwX7_isRow mvX7_isRow cn7 (by assumption) (by rfl) rfl (Nat.le_of_ble_eq_true (by rfl)) (by first | decide | omega) (cM_isRow E σ m hi t r i hR e1 e2) ?_
  rcases ixV_or i e1 (by omega) with ⟨hs, hv2⟩ | ⟨j, hj, ej, hs, hv2⟩
  · rw [← e1, hs]
    rw [hv2] at hF
    refine j_if_eq (q := 8) (tgt := 15) dX7_bears_5 rfl (by decide) (fun h5 => ?_) (fun h5 => ?_)
    · refine j_iconst (q := 16) (v := (-1)) dX7_bears_15 rfl (by decide) ?_
      refine o_iret hF rfl dX7_bears_16 ?_
      exact ⟨rfl, rsc.rf t m⟩
    · exact absurd rfl h5
  rw [← e1, hs]
  rw [hv2] at hF
  dsimp only at hF
  subst ej
  refine j_if_eq (q := 8) (tgt := 15) dX7_bears_5 rfl (by decide) (fun h5 => ?_) (fun h5 => ?_)
  · exact absurd h5 (by decide)
  refine j_iload_n (q := 9) dX7_bears_8 rfl (by rfl) ?_
  refine o_callSi (q := 12) dX7_bears_9 rfl lX7_218 mwX7_isLong msX7_isLong (by rfl) rfl (Nat.le_of_ble_eq_true (by rfl)) (by first | decide | omega) (cM_isLong E σ m hi _) ?_
  refine j_if_ne (q := 15) (tgt := 17) dX7_bears_12 rfl (by decide) (fun h12 => ?_) (fun h12 => ?_)
  · rw [if_pos (sWi_1 h12)] at hF
    obtain ⟨u, hu, eu⟩ := swN_wi (n := 200) (by decide) h12
    subst eu
    rw [nI_clamp (by omega)] at hF
    have hoC : okC (pgR m t 0) := ho.1
    have hoB : okB (pgR m t 0) 9999 := ho.2
    have ix : gIdx (290 + nI j) 318 (265 + (25 + j)) := gIdx.of (by rw [show (290 : Int32) = nI 290 from rfl, nI_add]; congr 1; omega) (by omega) (by decide)
    generalize hG : pgR m t 0 = g at *
    have hg0 : pg0 g := by rw [← hG]; exact pgR_0 m t 0
    have hHb : ∀ (mi : gMem) (z w : Int32), rsc t m mi → pgR mi t 265 = upd g (25 + j) z → gCo E yX7_hoursGo cX7_hoursGo 7 (some .int) 4 [.ref t, .int (nI 265), .int (nI u)] σ (gW mi (t + 1) (265 + (25 + j)) w) hi (gX (some (.int (upW g j u w))) (hgM (gW mi (t + 1) (265 + (25 + j)) w) t (upd g (25 + j) w) u)) ∧ rsc t m (hgM (gW mi (t + 1) (265 + (25 + j)) w) t (upd g (25 + j) w) u) ∧ pgR (hgM (gW mi (t + 1) (265 + (25 + j)) w) t (upd g (25 + j) w) u) t 265 = upd g (25 + j) w := by
      intro mi z w hsc h265
      obtain ⟨hs1, hp1⟩ := oth_w (k := 25 + j) (by omega) hsc h265 w
      exact ⟨cM_hoursGo E σ (gW mi (t + 1) (265 + (25 + j)) w) hi t 265 u _ hp1 hR (Or.inr rfl) (hoC.up (by omega) _) (hoB.up (by omega) (by omega) _) hu, hs1.hg _ u, (hgM_265 _ t _ u).trans hp1⟩
    have K51 : ∀ (w b : Nat) (mi : gMem) (z : Int32), b + w = 9 → rsc t m mi → pgR mi t 265 = upd g (25 + j) z → (gJ E yX7_bears cX7_bears 6 (some .int) (gRm 5 0 0) F 51 ([some (.ref t), some (.int (nI j)), some (.int (nI u)), some (.int (upW g j u 0)), some (.int (beJ g j u b)), some (.int (nI (b + 1)))]) ([]) 0 0 σ (mi) hi) := by
      intro w
      induction w with
      | zero =>
        intro b mi z hb hsc h265
        have hb4 : b = 9 := by omega
        subst hb4
        refine j_iload (q := 53) dX7_bears_51 rfl (by rfl) ?_
        refine j_bipush (q := 55) (v := 9) dX7_bears_53 rfl (by decide) ?_
        refine j_icmp_gt (q := 58) (tgt := 97) dX7_bears_55 rfl (by decide) (fun h55 => ?_) (fun h55 => ?_)
        · refine j_iload (q := 99) dX7_bears_97 rfl (by rfl) ?_
          refine o_iret hF rfl dX7_bears_99 ?_
          exact ⟨rfl, hsc⟩
        · exact absurd (show (9 : Int32) < nI (9 + 1) by decide) h55
      | succ w ih =>
        intro b mi z hb hsc h265
        obtain ⟨hH, hs2, hp2⟩ := hHb mi z (nI (b + 1)) hsc h265
        have := ih (b + 1) _ _ (by omega) hs2 hp2
        refine j_iload (q := 53) dX7_bears_51 rfl (by rfl) ?_
        refine j_bipush (q := 55) (v := 9) dX7_bears_53 rfl (by decide) ?_
        refine j_icmp_gt (q := 58) (tgt := 97) dX7_bears_55 rfl (by decide) (fun h55 => ?_) (fun h55 => ?_)
        · exact absurd h55 (nI_nlt (a := 9) (b := b + 1) (by omega) (by omega))
        refine j_aload_n (q := 59) dX7_bears_58 rfl (by rfl) ?_
        refine j_getr (q := 62) dX7_bears_59 rfl fX7_7 (by first | with_reducible assumption | assumption) (by rfl) ?_
        refine j_sipush (q := 65) (v := 290) dX7_bears_62 rfl (by decide) ?_
        refine j_iload_n (q := 66) dX7_bears_65 rfl (by rfl) ?_
        refine j_iadd (q := 67) dX7_bears_66 rfl ?_
        refine j_iload (q := 69) dX7_bears_67 rfl (by rfl) ?_
        refine j_iastore (q := 70) dX7_bears_69 rfl (by first | with_reducible assumption | assumption) (by first | with_reducible assumption | assumption) ?_
        refine j_aload_n (q := 71) dX7_bears_70 rfl (by rfl) ?_
        refine j_sipush (q := 74) (v := 265) dX7_bears_71 rfl (by decide) ?_
        refine j_iload_n (q := 75) dX7_bears_74 rfl (by rfl) ?_
        refine o_callVi (q := 78) dX7_bears_75 rfl lX7_221 mwX7_hoursGo mvX7_hoursGo cn7 (by assumption) (by rfl) rfl (Nat.le_of_ble_eq_true (by rfl)) (by first | decide | omega) (hH) ?_
        refine j_iload_n (q := 79) dX7_bears_78 rfl (by rfl) ?_
        refine j_icmp_lt (q := 82) (tgt := 87) dX7_bears_79 rfl (by decide) (fun h79 => ?_) (fun h79 => ?_)
        · rw [beJ, if_neg (Int32.not_le.mpr h79)] at this
          refine j_iload (q := 89) dX7_bears_87 rfl (by rfl) ?_
          refine j_istore (q := 91) dX7_bears_89 rfl (by decide) ?_
          refine j_iinc (q := 94) dX7_bears_91 rfl (by rfl) (by first | exact nI_inc _ | rfl) (by decide) ?_
          refine j_goto (tgt := 51) dX7_bears_94 (by decide) ?_
          exact this
        · rw [beJ, if_pos (Int32.not_lt.mp h79)] at this
          refine j_iload (q := 84) dX7_bears_82 rfl (by rfl) ?_
          refine j_goto (tgt := 89) dX7_bears_84 (by decide) ?_
          refine j_istore (q := 91) dX7_bears_89 rfl (by decide) ?_
          refine j_iinc (q := 94) dX7_bears_91 rfl (by rfl) (by first | exact nI_inc _ | rfl) (by decide) ?_
          refine j_goto (tgt := 51) dX7_bears_94 (by decide) ?_
          exact this
    have hCp := cM_copies E σ m hi t 0 265 hR (by decide) (by decide) (by decide)
    rw [hG] at hCp
    have hs0 : rsc t m (gQ m t 265 g) := (rsc.rf t m).q (by decide) _
    obtain ⟨hH, hs2, hp2⟩ := hHb (gQ m t 265 g) (g (25 + j)) 0 hs0 (by rw [pgR_gQ hg0, upd_self])
    refine j_aload_n (q := 18) dX7_bears_17 rfl (by rfl) ?_
    refine j_iconst (q := 19) (v := 0) dX7_bears_18 rfl (by decide) ?_
    refine j_sipush (q := 22) (v := 265) dX7_bears_19 rfl (by decide) ?_
    refine o_callVv (q := 25) dX7_bears_22 rfl lX7_205 mwX7_copies mvX7_copies cn7 (by assumption) (by rfl) rfl (Nat.le_of_ble_eq_true (by rfl)) (by first | decide | omega) (hCp) ?_
    refine j_aload_n (q := 26) dX7_bears_25 rfl (by rfl) ?_
    refine j_getr (q := 29) dX7_bears_26 rfl fX7_7 (by first | with_reducible assumption | assumption) (by rfl) ?_
    refine j_sipush (q := 32) (v := 290) dX7_bears_29 rfl (by decide) ?_
    refine j_iload_n (q := 33) dX7_bears_32 rfl (by rfl) ?_
    refine j_iadd (q := 34) dX7_bears_33 rfl ?_
    refine j_iconst (q := 35) (v := 0) dX7_bears_34 rfl (by decide) ?_
    refine j_iastore (q := 36) dX7_bears_35 rfl (by first | with_reducible assumption | assumption) (by first | with_reducible assumption | assumption) ?_
    refine j_aload_n (q := 37) dX7_bears_36 rfl (by rfl) ?_
    refine j_sipush (q := 40) (v := 265) dX7_bears_37 rfl (by decide) ?_
    refine j_iload_n (q := 41) dX7_bears_40 rfl (by rfl) ?_
    refine o_callVi (q := 44) dX7_bears_41 rfl lX7_221 mwX7_hoursGo mvX7_hoursGo cn7 (by assumption) (by rfl) rfl (Nat.le_of_ble_eq_true (by rfl)) (by first | decide | omega) (hH) ?_
    refine j_istore_n (q := 45) dX7_bears_44 rfl (by decide) ?_
    refine j_iconst (q := 46) (v := 0) dX7_bears_45 rfl (by decide) ?_
    refine j_istore (q := 48) dX7_bears_46 rfl (by decide) ?_
    refine j_iconst (q := 49) (v := 1) dX7_bears_48 rfl (by decide) ?_
    refine j_istore (q := 51) dX7_bears_49 rfl (by decide) ?_
    exact K51 9 0 _ _ (by omega) hs2 hp2
  · refine j_iconst (q := 16) (v := (-1)) dX7_bears_15 rfl (by decide) ?_
    refine o_iret hF rfl dX7_bears_16 ?_
    rw [if_neg (sWi_0 (by first | exact h12 | exact Decidable.not_not.mp h12))]
    exact ⟨rfl, rsc.rf t m⟩
theorem upd_comm (g : Nat → Int32) {i j : Nat} (h : i ≠ j) (a b : Int32) : upd (upd g i a) j b = upd (upd g j b) i a := by
  funext k
  by_cases h1 : k = j
  · subst h1; rw [pk_us, pk_un (fun e => h e.symm), pk_us]
  · rw [pk_un h1]
    by_cases h2 : k = i
    · subst h2; rw [pk_us, pk_us]
    · rw [pk_un h2, pk_un h2, pk_un h1]
theorem swp_e (g : Nat → Int32) {i j : Nat} (hi : i < 12) (hj : j < 12) : upd (upd (upd (upd g (25 + i) (g (25 + j))) (25 + j) (g (25 + i))) (37 + i) (g (37 + j))) (37 + j) (g (37 + i)) = swp g i j := by
  unfold swp
  rw [upd_comm (upd g (25 + i) (g (25 + j))) (i := 25 + j) (j := 37 + i) (by omega)]
theorem cM_swap (E : gEv) (σ : gSg) (m : gMem) (hi t : Nat) (n k : Int32) (hR : gR σ t) (ho : okM m t) : gCo E yX7_swap cX7_swap 7 (some .int) 5 [.ref t, .int n, .int k] σ m hi (fun v' m' => v' = some (.int (xSwap (pgR m t 0) n k)) ∧ rsc t m m') := by
  refine gCo.of mwX7_swap (Nat.le_of_ble_eq_true rfl) ?_
  intro F hF
  have h0 := hR.1
  have h1 := hR.2.1
  obtain ⟨r, hh, e1, e2, -, -⟩ := id ho.2
  have hrn : rws (pgR m t 0) = r := by unfold rws; rw [e1]; exact nI_clamp (by omega)
  have i49 : gIdx 49 318 49 := gIdx.of rfl (by decide) (by decide)
  unfold xSwap at hF
  refine j_iload_n (q := 1) dX7_swap_0 rfl (by rfl) ?_
  refine o_callSi (q := 4) dX7_swap_1 rfl lX7_218 mwX7_isLong msX7_isLong (by rfl) rfl (Nat.le_of_ble_eq_true (by rfl)) (by first | decide | omega) (cM_isLong E σ m hi _) ?_
  refine j_if_eq (q := 7) (tgt := 17) dX7_swap_4 rfl (by decide) (fun h4 => ?_) (fun h4 => ?_)
  · refine j_iconst (q := 18) (v := (-1)) dX7_swap_17 rfl (by decide) ?_
    refine o_iret hF rfl dX7_swap_18 ?_
    rw [if_neg (fun h => sWi_0 h4 h.1)]
    exact ⟨rfl, rsc.rf t m⟩
  refine j_iload_n (q := 8) dX7_swap_7 rfl (by rfl) ?_
  refine j_i2l (q := 9) dX7_swap_8 rfl ?_
  refine j_lconst (q := 10) (v := 0) dX7_swap_9 rfl (by decide) ?_
  refine j_lconst (q := 11) (v := 1) dX7_swap_10 rfl (by decide) ?_
  refine o_callSi (q := 14) dX7_swap_11 rfl lX7_55 mwX7_in msX7_in (by rfl) rfl (Nat.le_of_ble_eq_true (by rfl)) (by first | decide | omega) (cM_inI E σ m hi k 0 1 (by decide) (by decide)) ?_
  refine j_if_ne (q := 17) (tgt := 19) dX7_swap_14 rfl (by decide) (fun h14 => ?_) (fun h14 => ?_)
  · rw [if_pos ⟨sWi_1 h4, sWi_1 h14⟩] at hF
    obtain ⟨u, hu, eu⟩ := swN_wi (n := 200) (by decide) h4
    subst eu
    rw [nI_clamp (by omega), hrn] at hF
    have hoC : okC (pgR m t 0) := ho.1
    have hoB : okB (pgR m t 0) 9999 := ho.2
    generalize hG : pgR m t 0 = g at *
    have hg0 : pg0 g := by rw [← hG]; exact pgR_0 m t 0
    have K38 : ∀ (w i : Nat) (mi : gMem) (o6 : Option Value), i + w = r → rsc t m mi → (gJ E yX7_swap cX7_swap 7 (some .int) (gRm 5 0 0) F 38 ([some (.ref t), some (.int (nI u)), some (.int k), some (.int (swO g u r i).2), some (.int (swO g u r i).1), some (.int (nI i)), o6]) ([]) 0 0 σ (mi) hi) := by
      intro w
      induction w with
      | zero =>
        intro i mi o6 hw hsc
        have hir : i = r := by omega
        subst hir
        refine j_iload (q := 40) dX7_swap_38 rfl (by rfl) ?_
        refine j_aload_n (q := 41) dX7_swap_40 rfl (by rfl) ?_
        refine j_getr (q := 44) dX7_swap_41 rfl fX7_7 (by first | with_reducible assumption | assumption) (by rfl) ?_
        refine j_bipush (q := 46) (v := 49) dX7_swap_44 rfl (by decide) ?_
        refine j_iaload (q := 47) dX7_swap_46 rfl (by first | with_reducible assumption | assumption) (by first | with_reducible assumption | assumption) ?_
        rw [r0_j _ t (by omega), hsc.n, hG, e1]
        refine j_icmp_ge (q := 50) (tgt := 221) dX7_swap_47 rfl (by decide) (fun h47 => ?_) (fun h47 => ?_)
        · refine j_iload (q := 223) dX7_swap_221 rfl (by rfl) ?_
          refine j_bipush (q := 225) (v := (-4)) dX7_swap_223 rfl (by decide) ?_
          refine j_icmp_eq (q := 228) (tgt := 232) dX7_swap_225 rfl (by decide) (fun h225 => ?_) (fun h225 => ?_)
          · refine j_iload (q := 234) dX7_swap_232 rfl (by rfl) ?_
            refine j_goto (tgt := 238) dX7_swap_234 (by decide) ?_
            refine o_iret hF rfl dX7_swap_238 ?_
            rw [if_pos (Or.inl (by first | exact h225 | exact Decidable.not_not.mp h225))]
            exact ⟨rfl, hsc⟩
          · refine j_iload_n (q := 229) dX7_swap_228 rfl (by rfl) ?_
            refine j_if_ne (q := 232) (tgt := 237) dX7_swap_229 rfl (by decide) (fun h229 => ?_) (fun h229 => ?_)
            · refine j_iload_n (q := 238) dX7_swap_237 rfl (by rfl) ?_
              refine o_iret hF rfl dX7_swap_238 ?_
              rw [if_neg (fun q => q.elim h225 h229)]
              exact ⟨rfl, hsc⟩
            · refine j_iload (q := 234) dX7_swap_232 rfl (by rfl) ?_
              refine j_goto (tgt := 238) dX7_swap_234 (by decide) ?_
              refine o_iret hF rfl dX7_swap_238 ?_
              rw [if_pos (Or.inr (by first | exact h229 | exact Decidable.not_not.mp h229))]
              exact ⟨rfl, hsc⟩
        · exact absurd (Int32.le_refl _) h47
      | succ w ih =>
        intro i mi o6 hw hsc
        have K56 : ∀ (w2 b : Nat) (mi : gMem), i + 1 + b + w2 = r → rsc t m mi → (gJ E yX7_swap cX7_swap 7 (some .int) (gRm 5 0 0) F 56 ([some (.ref t), some (.int (nI u)), some (.int k), some (.int (swI g u i (swO g u r i) b).2), some (.int (swI g u i (swO g u r i) b).1), some (.int (nI i)), some (.int (nI (i + 1 + b)))]) ([]) 0 0 σ (mi) hi) := by
          intro w2
          induction w2 with
          | zero =>
            intro b mi hb hsc
            have hbr : b = r - (i + 1) := by omega
            subst hbr
            refine j_iload (q := 58) dX7_swap_56 rfl (by rfl) ?_
            refine j_aload_n (q := 59) dX7_swap_58 rfl (by rfl) ?_
            refine j_getr (q := 62) dX7_swap_59 rfl fX7_7 (by first | with_reducible assumption | assumption) (by rfl) ?_
            refine j_bipush (q := 64) (v := 49) dX7_swap_62 rfl (by decide) ?_
            refine j_iaload (q := 65) dX7_swap_64 rfl (by first | with_reducible assumption | assumption) (by first | with_reducible assumption | assumption) ?_
            rw [r0_j _ t (by omega), hsc.n, hG, e1]
            refine j_icmp_ge (q := 68) (tgt := 215) dX7_swap_65 rfl (by decide) (fun h65 => ?_) (fun h65 => ?_)
            · refine j_iinc (q := 218) dX7_swap_215 rfl (by rfl) (by first | exact nI_inc _ | rfl) (by decide) ?_
              refine j_goto (tgt := 38) dX7_swap_218 (by decide) ?_
              exact ih (i + 1) mi _ (by omega) hsc
            · exact absurd (nI_le (by omega) (by omega)) h65
          | succ w2 ih2 =>
            intro b mi hb hsc
            have a25 : gIdx (290 + nI i) 318 (265 + (25 + i)) := gIdx.of (by rw [show (290 : Int32) = nI 290 from rfl, nI_add]; congr 1; omega) (by omega) (by decide)
            have b25 : gIdx (290 + nI (i + 1 + b)) 318 (265 + (25 + (i + 1 + b))) := gIdx.of (by rw [show (290 : Int32) = nI 290 from rfl, nI_add]; congr 1; omega) (by omega) (by decide)
            have a37 : gIdx (302 + nI i) 318 (265 + (37 + i)) := gIdx.of (by rw [show (302 : Int32) = nI 302 from rfl, nI_add]; congr 1; omega) (by omega) (by decide)
            have b37 : gIdx (302 + nI (i + 1 + b)) 318 (265 + (37 + (i + 1 + b))) := gIdx.of (by rw [show (302 : Int32) = nI 302 from rfl, nI_add]; congr 1; omega) (by omega) (by decide)
            have c25 : gIdx (25 + nI i) 318 (25 + i) := gIdx.of (nI_add 25 i) (by omega) (by decide)
            have d25 : gIdx (25 + nI (i + 1 + b)) 318 (25 + (i + 1 + b)) := gIdx.of (nI_add 25 _) (by omega) (by decide)
            have c37 : gIdx (37 + nI i) 318 (37 + i) := gIdx.of (nI_add 37 i) (by omega) (by decide)
            have d37 : gIdx (37 + nI (i + 1 + b)) 318 (37 + (i + 1 + b)) := gIdx.of (nI_add 37 _) (by omega) (by decide)
            have hrd : ∀ (G : Nat → Int32) (z : Nat), z < 50 → (gQ mi t 265 G).1 (t + 1) z = g z := by
              intro G z hz
              rw [gQ_out (by omega), r0_j _ t (by omega), hsc.n, hG]
            have hCp := cM_copies E σ mi hi t 0 265 hR (by decide) (by decide) (by decide)
            rw [hsc.n, hG] at hCp
            have hp0 : pg0 (swp g i (i + 1 + b)) := swp_0 hg0 (by omega) (by omega)
            have hH := cM_hoursGo E σ (gQ mi t 265 (swp g i (i + 1 + b))) hi t 265 u (swp g i (i + 1 + b)) (pgR_gQ hp0 _ _ _) hR (Or.inr rfl) (hoC.sw (by omega) (by omega)) (hoB.sw (by omega) (by omega)) hu
            have hs2 : rsc t m (hgM (gQ mi t 265 (swp g i (i + 1 + b))) t (swp g i (i + 1 + b)) u) := (hsc.q (by decide) _).hg _ _
            have := ih2 (b + 1) _ (by omega) hs2
            refine j_iload (q := 58) dX7_swap_56 rfl (by rfl) ?_
            refine j_aload_n (q := 59) dX7_swap_58 rfl (by rfl) ?_
            refine j_getr (q := 62) dX7_swap_59 rfl fX7_7 (by first | with_reducible assumption | assumption) (by rfl) ?_
            refine j_bipush (q := 64) (v := 49) dX7_swap_62 rfl (by decide) ?_
            refine j_iaload (q := 65) dX7_swap_64 rfl (by first | with_reducible assumption | assumption) (by first | with_reducible assumption | assumption) ?_
            rw [r0_j _ t (by omega), hsc.n, hG, e1]
            refine j_icmp_ge (q := 68) (tgt := 215) dX7_swap_65 rfl (by decide) (fun h65 => ?_) (fun h65 => ?_)
            · exact absurd h65 (nI_ge (by omega) (by omega))
            refine j_aload_n (q := 69) dX7_swap_68 rfl (by rfl) ?_
            refine j_iconst (q := 70) (v := 0) dX7_swap_69 rfl (by decide) ?_
            refine j_sipush (q := 73) (v := 265) dX7_swap_70 rfl (by decide) ?_
            refine o_callVv (q := 76) dX7_swap_73 rfl lX7_205 mwX7_copies mvX7_copies cn7 (by assumption) (by rfl) rfl (Nat.le_of_ble_eq_true (by rfl)) (by first | decide | omega) (hCp) ?_
            refine j_aload_n (q := 77) dX7_swap_76 rfl (by rfl) ?_
            refine j_getr (q := 80) dX7_swap_77 rfl fX7_7 (by first | with_reducible assumption | assumption) (by rfl) ?_
            refine j_sipush (q := 83) (v := 290) dX7_swap_80 rfl (by decide) ?_
            refine j_iload (q := 85) dX7_swap_83 rfl (by rfl) ?_
            refine j_iadd (q := 86) dX7_swap_85 rfl ?_
            refine j_aload_n (q := 87) dX7_swap_86 rfl (by rfl) ?_
            refine j_getr (q := 90) dX7_swap_87 rfl fX7_7 (by first | with_reducible assumption | assumption) (by rfl) ?_
            refine j_bipush (q := 92) (v := 25) dX7_swap_90 rfl (by decide) ?_
            refine j_iload (q := 94) dX7_swap_92 rfl (by rfl) ?_
            refine j_iadd (q := 95) dX7_swap_94 rfl ?_
            refine j_iaload (q := 96) dX7_swap_95 rfl (by first | with_reducible assumption | assumption) (by first | with_reducible assumption | assumption) ?_
            rw [hrd g _ (by omega)]
            refine j_iastore (q := 97) dX7_swap_96 rfl (by first | with_reducible assumption | assumption) (by first | with_reducible assumption | assumption) ?_
            rw [gW_gQi (by omega)]
            refine j_aload_n (q := 98) dX7_swap_97 rfl (by rfl) ?_
            refine j_getr (q := 101) dX7_swap_98 rfl fX7_7 (by first | with_reducible assumption | assumption) (by rfl) ?_
            refine j_sipush (q := 104) (v := 290) dX7_swap_101 rfl (by decide) ?_
            refine j_iload (q := 106) dX7_swap_104 rfl (by rfl) ?_
            refine j_iadd (q := 107) dX7_swap_106 rfl ?_
            refine j_aload_n (q := 108) dX7_swap_107 rfl (by rfl) ?_
            refine j_getr (q := 111) dX7_swap_108 rfl fX7_7 (by first | with_reducible assumption | assumption) (by rfl) ?_
            refine j_bipush (q := 113) (v := 25) dX7_swap_111 rfl (by decide) ?_
            refine j_iload (q := 115) dX7_swap_113 rfl (by rfl) ?_
            refine j_iadd (q := 116) dX7_swap_115 rfl ?_
            refine j_iaload (q := 117) dX7_swap_116 rfl (by first | with_reducible assumption | assumption) (by first | with_reducible assumption | assumption) ?_
            rw [hrd _ _ (by omega)]
            refine j_iastore (q := 118) dX7_swap_117 rfl (by first | with_reducible assumption | assumption) (by first | with_reducible assumption | assumption) ?_
            rw [gW_gQi (by omega)]
            refine j_aload_n (q := 119) dX7_swap_118 rfl (by rfl) ?_
            refine j_getr (q := 122) dX7_swap_119 rfl fX7_7 (by first | with_reducible assumption | assumption) (by rfl) ?_
            refine j_sipush (q := 125) (v := 302) dX7_swap_122 rfl (by decide) ?_
            refine j_iload (q := 127) dX7_swap_125 rfl (by rfl) ?_
            refine j_iadd (q := 128) dX7_swap_127 rfl ?_
            refine j_aload_n (q := 129) dX7_swap_128 rfl (by rfl) ?_
            refine j_getr (q := 132) dX7_swap_129 rfl fX7_7 (by first | with_reducible assumption | assumption) (by rfl) ?_
            refine j_bipush (q := 134) (v := 37) dX7_swap_132 rfl (by decide) ?_
            refine j_iload (q := 136) dX7_swap_134 rfl (by rfl) ?_
            refine j_iadd (q := 137) dX7_swap_136 rfl ?_
            refine j_iaload (q := 138) dX7_swap_137 rfl (by first | with_reducible assumption | assumption) (by first | with_reducible assumption | assumption) ?_
            rw [hrd _ _ (by omega)]
            refine j_iastore (q := 139) dX7_swap_138 rfl (by first | with_reducible assumption | assumption) (by first | with_reducible assumption | assumption) ?_
            rw [gW_gQi (by omega)]
            refine j_aload_n (q := 140) dX7_swap_139 rfl (by rfl) ?_
            refine j_getr (q := 143) dX7_swap_140 rfl fX7_7 (by first | with_reducible assumption | assumption) (by rfl) ?_
            refine j_sipush (q := 146) (v := 302) dX7_swap_143 rfl (by decide) ?_
            refine j_iload (q := 148) dX7_swap_146 rfl (by rfl) ?_
            refine j_iadd (q := 149) dX7_swap_148 rfl ?_
            refine j_aload_n (q := 150) dX7_swap_149 rfl (by rfl) ?_
            refine j_getr (q := 153) dX7_swap_150 rfl fX7_7 (by first | with_reducible assumption | assumption) (by rfl) ?_
            refine j_bipush (q := 155) (v := 37) dX7_swap_153 rfl (by decide) ?_
            refine j_iload (q := 157) dX7_swap_155 rfl (by rfl) ?_
            refine j_iadd (q := 158) dX7_swap_157 rfl ?_
            refine j_iaload (q := 159) dX7_swap_158 rfl (by first | with_reducible assumption | assumption) (by first | with_reducible assumption | assumption) ?_
            rw [hrd _ _ (by omega)]
            refine j_iastore (q := 160) dX7_swap_159 rfl (by first | with_reducible assumption | assumption) (by first | with_reducible assumption | assumption) ?_
            rw [gW_gQi (by omega), swp_e g (by omega) (by omega)]
            refine j_aload_n (q := 161) dX7_swap_160 rfl (by rfl) ?_
            refine j_sipush (q := 164) (v := 265) dX7_swap_161 rfl (by decide) ?_
            refine j_iload_n (q := 165) dX7_swap_164 rfl (by rfl) ?_
            refine o_callVi (q := 168) dX7_swap_165 rfl lX7_221 mwX7_hoursGo mvX7_hoursGo cn7 (by assumption) (by rfl) rfl (Nat.le_of_ble_eq_true (by rfl)) (by first | decide | omega) (hH) ?_
            refine j_pop (q := 169) dX7_swap_168 rfl rfl ?_
            refine j_aload_n (q := 170) dX7_swap_169 rfl (by rfl) ?_
            refine j_geti (q := 173) dX7_swap_170 rfl fX7_209 (by first | with_reducible assumption | assumption) (by rfl) ?_
            rw [hgM_15]
            refine j_iload_n (q := 174) dX7_swap_173 rfl (by rfl) ?_
            refine j_icmp_le (q := 177) (tgt := 188) dX7_swap_174 rfl (by decide) (fun h174 => ?_) (fun h174 => ?_)
            · rw [swI, if_neg (Int32.not_lt.mpr h174)] at this
              refine j_iload (q := 190) dX7_swap_188 rfl (by rfl) ?_
              refine j_istore (q := 192) dX7_swap_190 rfl (by decide) ?_
              refine j_aload_n (q := 193) dX7_swap_192 rfl (by rfl) ?_
              refine j_geti (q := 196) dX7_swap_193 rfl fX7_209 (by first | with_reducible assumption | assumption) (by rfl) ?_
              rw [hgM_15]
              refine j_iload_n (q := 197) dX7_swap_196 rfl (by rfl) ?_
              refine j_icmp_le (q := 200) (tgt := 207) dX7_swap_197 rfl (by decide) (fun h197 => ?_) (fun h197 => ?_)
              · refine j_iload_n (q := 208) dX7_swap_207 rfl (by rfl) ?_
                refine j_istore_n (q := 209) dX7_swap_208 rfl (by decide) ?_
                refine j_iinc (q := 212) dX7_swap_209 rfl (by rfl) (by first | exact nI_inc _ | rfl) (by decide) ?_
                refine j_goto (tgt := 56) dX7_swap_212 (by decide) ?_
                exact this
              · exact absurd h174 h197
            · rw [swI, if_pos (Int32.not_le.mp h174)] at this
              refine j_bipush (q := 179) (v := 100) dX7_swap_177 rfl (by decide) ?_
              refine j_iload (q := 181) dX7_swap_179 rfl (by rfl) ?_
              refine j_imul (q := 182) dX7_swap_181 rfl ?_
              refine j_iload (q := 184) dX7_swap_182 rfl (by rfl) ?_
              refine j_iadd (q := 185) dX7_swap_184 rfl ?_
              refine j_goto (tgt := 190) dX7_swap_185 (by decide) ?_
              refine j_istore (q := 192) dX7_swap_190 rfl (by decide) ?_
              refine j_aload_n (q := 193) dX7_swap_192 rfl (by rfl) ?_
              refine j_geti (q := 196) dX7_swap_193 rfl fX7_209 (by first | with_reducible assumption | assumption) (by rfl) ?_
              rw [hgM_15]
              refine j_iload_n (q := 197) dX7_swap_196 rfl (by rfl) ?_
              refine j_icmp_le (q := 200) (tgt := 207) dX7_swap_197 rfl (by decide) (fun h197 => ?_) (fun h197 => ?_)
              · exact absurd h197 h174
              · refine j_aload_n (q := 201) dX7_swap_200 rfl (by rfl) ?_
                refine j_geti (q := 204) dX7_swap_201 rfl fX7_209 (by first | with_reducible assumption | assumption) (by rfl) ?_
                rw [hgM_15]
                refine j_goto (tgt := 208) dX7_swap_204 (by decide) ?_
                refine j_istore_n (q := 209) dX7_swap_208 rfl (by decide) ?_
                refine j_iinc (q := 212) dX7_swap_209 rfl (by rfl) (by first | exact nI_inc _ | rfl) (by decide) ?_
                refine j_goto (tgt := 56) dX7_swap_212 (by decide) ?_
                exact this
        refine j_iload (q := 40) dX7_swap_38 rfl (by rfl) ?_
        refine j_aload_n (q := 41) dX7_swap_40 rfl (by rfl) ?_
        refine j_getr (q := 44) dX7_swap_41 rfl fX7_7 (by first | with_reducible assumption | assumption) (by rfl) ?_
        refine j_bipush (q := 46) (v := 49) dX7_swap_44 rfl (by decide) ?_
        refine j_iaload (q := 47) dX7_swap_46 rfl (by first | with_reducible assumption | assumption) (by first | with_reducible assumption | assumption) ?_
        rw [r0_j _ t (by omega), hsc.n, hG, e1]
        refine j_icmp_ge (q := 50) (tgt := 221) dX7_swap_47 rfl (by decide) (fun h47 => ?_) (fun h47 => ?_)
        · exact absurd h47 (nI_ge (by omega) (by omega))
        refine j_iload (q := 52) dX7_swap_50 rfl (by rfl) ?_
        refine j_iconst (q := 53) (v := 1) dX7_swap_52 rfl (by decide) ?_
        refine j_iadd (q := 54) dX7_swap_53 rfl ?_
        rw [nI_1]
        refine j_istore (q := 56) dX7_swap_54 rfl (by decide) ?_
        exact K56 (r - (i + 1)) 0 mi (by omega) hsc
    have hH := cM_hoursGo E σ m hi t 0 u g hG hR (Or.inl rfl) hoC hoB hu
    refine j_aload_n (q := 20) dX7_swap_19 rfl (by rfl) ?_
    refine j_iconst (q := 21) (v := 0) dX7_swap_20 rfl (by decide) ?_
    refine j_iload_n (q := 22) dX7_swap_21 rfl (by rfl) ?_
    refine o_callVi (q := 25) dX7_swap_22 rfl lX7_221 mwX7_hoursGo mvX7_hoursGo cn7 (by assumption) (by rfl) rfl (Nat.le_of_ble_eq_true (by rfl)) (by first | decide | omega) (hH) ?_
    refine j_pop (q := 26) dX7_swap_25 rfl rfl ?_
    refine j_aload_n (q := 27) dX7_swap_26 rfl (by rfl) ?_
    refine j_geti (q := 30) dX7_swap_27 rfl fX7_209 (by first | with_reducible assumption | assumption) (by rfl) ?_
    rw [hgM_15]
    refine j_istore_n (q := 31) dX7_swap_30 rfl (by decide) ?_
    refine j_bipush (q := 33) (v := (-4)) dX7_swap_31 rfl (by decide) ?_
    refine j_istore (q := 35) dX7_swap_33 rfl (by decide) ?_
    refine j_iconst (q := 36) (v := 0) dX7_swap_35 rfl (by decide) ?_
    refine j_istore (q := 38) dX7_swap_36 rfl (by decide) ?_
    exact K38 r 0 _ _ (by omega) ((rsc.rf t m).hg _ _)
  · refine j_iconst (q := 18) (v := (-1)) dX7_swap_17 rfl (by decide) ?_
    refine o_iret hF rfl dX7_swap_18 ?_
    rw [if_neg (fun h => sWi_0 (by first | exact h14 | exact Decidable.not_not.mp h14) h.2)]
    exact ⟨rfl, rsc.rf t m⟩
