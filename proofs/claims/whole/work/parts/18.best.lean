theorem frM_scr (m : gMem) (x : Nat) : scr x m (frM m x) := (scr.rf x m).t _
theorem cnt_upd (g : Nat → Int32) {k : Nat} (h : k ≠ 24) (v : Int32) : cnt (upd g k v) = cnt g := by unfold cnt; rw [pk_un (fun e => h e.symm)]
theorem rws_upd (g : Nat → Int32) {k : Nat} (h : k ≠ 49) (v : Int32) : rws (upd g k v) = rws g := by unfold rws; rw [pk_un (fun e => h e.symm)]
theorem veq.up {g g' : Nat → Int32} (h : veq g g') {k : Nat} (h1 : k ≠ 24) (h2 : k ≠ 49) (v : Int32) : veq (upd g k v) (upd g' k v) := by
  intro i hi
  rw [vis_c (cnt_upd g h1 v) (rws_upd g h2 v)] at hi
  by_cases hik : i = k
  · subst hik; rw [pk_us, pk_us]
  · rw [pk_un hik, pk_un hik]; exact h i hi
theorem okC.up {g : Nat → Int32} (h : okC g) {k : Nat} (h1 : k ≠ 24) (v : Int32) : okC (upd g k v) := by
  obtain ⟨c, e, h4⟩ := h
  exact ⟨c, by rw [pk_un (fun e => h1 e.symm)]; exact e, h4⟩
theorem okB.up {g : Nat → Int32} {b : Nat} (h : okB g b) {k : Nat} (h1 : k ≠ 49) (h2 : k ≠ 52) (v : Int32) : okB (upd g k v) b := by
  obtain ⟨r, t, e1, e2, e3, e4⟩ := h
  exact ⟨r, t, by rw [pk_un (fun e => h1 e.symm)]; exact e1, e2, by rw [pk_un (fun e => h2 e.symm)]; exact e3, e4⟩
/-- the best of so many, and how good: the first that is better than all before -/
def bst (f lab : Nat → Int32) (b0 m0 : Int32) : Nat → Int32 × Int32
  | 0 => (b0, m0)
  | k + 1 => if (bst f lab b0 m0 k).2 < f k then (lab k, f k) else bst f lab b0 m0 k
def whF (g : Nat → Int32) (i n : Nat) (c : Nat) : Int32 := upsN (upd g (37 + i) (sCho g (nI c))) n
def xWhom (g : Nat → Int32) (i n k : Int32) : Int32 := match ixV (g 49) i with
  | none => -1
  | some j => if (0 ≤ n ∧ n ≤ 200) ∧ (0 ≤ k ∧ k ≤ 1) then (if k = 0 then (bst (whF g j n.toNatClampNeg) (fun c => sCho g (nI c)) 4 (-1) (cnt g + 1)).1 else (bst (whF g j n.toNatClampNeg) (fun c => sCho g (nI c)) 4 (-1) (cnt g + 1)).2) else -1
theorem cX_whom (E : gEv) (σ : gSg) (m : gMem) (hi x : Nat) (i n k : Int32) (hN : gN σ x) (ho : okN m x) : gCo E yX6_whom cX6_whom 9 (some .int) 5 [.ref x, .int i, .int n, .int k] σ m hi (fun v' m' => v' = some (.int (xWhom (pgC m (x + 1)) i n k)) ∧ scr x m m') := by
  refine gCo.of mwX6_whom (Nat.le_of_ble_eq_true rfl) ?_
  intro F hF
  have hx := hN.1
  have h1 := hN.2.1.1
  obtain ⟨h9, ⟨fv, h9v, hfv⟩, h92, h93, hvv⟩ := hN.2.2.1
  obtain ⟨c, hc, hc4⟩ := ho.1
  have hcn : cnt (pgC m (x + 1)) = c := by unfold cnt; rw [hc]; exact nI_clamp (by omega)
  obtain ⟨r, h, e1, e2, -, -⟩ := ho.2
  unfold xWhom at hF
  refine j_aload_n (q := 1) dX6_whom_0 rfl (by rfl) ?_
  refine j_getr (q := 4) dX6_whom_1 rfl fX6_10 (by assumption) (by rfl) ?_
  refine j_iload_n (q := 5) dX6_whom_4 rfl (by rfl) ?_
  refine o_callVi (q := 8) dX6_whom_5 rfl lX6_144 mwX0_hasRow mvX0_hasRow cn0 (by assumption) (by rfl) rfl (Nat.le_of_ble_eq_true (by rfl)) (by decide) (cG_hasRow E σ m hi (x + 1) i hN.2.1) ?_
  rcases ixV_or i e1 (by omega) with ⟨hs, hv2⟩ | ⟨j, hj, ej, hs, hv2⟩
  · rw [hs]
    rw [hv2] at hF
    refine j_if_eq (q := 11) (tgt := 27) dX6_whom_8 rfl (by decide) (fun h8 => ?_) (fun h8 => ?_)
    · refine j_iconst (q := 28) (v := (-1)) dX6_whom_27 rfl (by decide) ?_
      refine o_iret hF rfl dX6_whom_28 ?_
      exact ⟨rfl, scr.rf x m⟩
    · exact absurd rfl h8
  rw [hs]
  rw [hv2] at hF
  dsimp only at hF
  subst ej
  have hj12 : j < 12 := by omega
  have hix : gIdx (nI j) 12 j := gIdx.of rfl hj12 (by decide)
  refine j_if_eq (q := 11) (tgt := 27) dX6_whom_8 rfl (by decide) (fun h8 => ?_) (fun h8 => ?_)
  · exact absurd h8 (by decide)
  refine j_iload_n (q := 12) dX6_whom_11 rfl (by rfl) ?_
  refine o_callSi (q := 15) dX6_whom_12 rfl lX6_174 mwX6_isAhead msX6_isAhead (by rfl) rfl (Nat.le_of_ble_eq_true (by rfl)) (by decide) (cX_isAhead E σ m hi _) ?_
  refine j_if_eq (q := 18) (tgt := 27) dX6_whom_15 rfl (by decide) (fun h15 => ?_) (fun h15 => ?_)
  · refine j_iconst (q := 28) (v := (-1)) dX6_whom_27 rfl (by decide) ?_
    refine o_iret hF rfl dX6_whom_28 ?_
    rw [if_neg (fun h => sWi_0 h15 h.1)]
    exact ⟨rfl, scr.rf x m⟩
  refine j_iload_n (q := 19) dX6_whom_18 rfl (by rfl) ?_
  refine j_iconst (q := 20) (v := 0) dX6_whom_19 rfl (by decide) ?_
  refine j_iconst (q := 21) (v := 1) dX6_whom_20 rfl (by decide) ?_
  refine o_callSi (q := 24) dX6_whom_21 rfl lX6_66 mwX6_within msX6_within (by rfl) rfl (Nat.le_of_ble_eq_true (by rfl)) (by decide) (cX_within E σ m hi _ _ _) ?_
  refine j_if_ne (q := 27) (tgt := 29) dX6_whom_24 rfl (by decide) (fun h24 => ?_) (fun h24 => ?_)
  · rw [if_pos ⟨sWi_1 h15, sWi_1 h24⟩] at hF
    obtain ⟨t, ht, et⟩ := swN_wi (n := 200) (by decide) h15
    subst et
    rw [nI_clamp (by omega), hcn] at hF
    have K38 : ∀ (w b : Nat) (mi : gMem) (o7 o8 : Option Value), b + w = c + 1 → scr x m mi → (gJ E yX6_whom cX6_whom 9 (some .int) (gRm 5 0 0) F 38 ([some (.ref x), some (.int (nI j)), some (.int (nI t)), some (.int k), some (.int (bst (whF (pgC m (x + 1)) j t) (fun c => sCho (pgC m (x + 1)) (nI c)) 4 (-1) b).1), some (.int (bst (whF (pgC m (x + 1)) j t) (fun c => sCho (pgC m (x + 1)) (nI c)) 4 (-1) b).2), some (.int (nI b)), o7, o8]) ([]) 0 0 σ (mi) hi) := by
      intro w
      induction w with
      | zero =>
        intro b mi o7 o8 hb hsc
        have hbc : b = c + 1 := by omega
        subst hbc
        refine j_iload (q := 40) dX6_whom_38 rfl (by rfl) ?_
        refine j_aload_n (q := 41) dX6_whom_40 rfl (by rfl) ?_
        refine j_getr (q := 44) dX6_whom_41 rfl fX6_10 (by assumption) (by rfl) ?_
        refine j_geti (q := 47) dX6_whom_44 rfl fX6_100 (by assumption) (by rfl) ?_
        rw [pg_3, hsc.n, hc]
        refine j_icmp_gt (q := 50) (tgt := 108) dX6_whom_47 rfl (by decide) (fun h47 => ?_) (fun h47 => ?_)
        · refine j_iload_n (q := 109) dX6_whom_108 rfl (by rfl) ?_
          refine j_if_ne (q := 112) (tgt := 117) dX6_whom_109 rfl (by decide) (fun h109 => ?_) (fun h109 => ?_)
          · refine j_iload (q := 119) dX6_whom_117 rfl (by rfl) ?_
            refine o_iret hF rfl dX6_whom_119 ?_
            rw [if_neg h109]
            exact ⟨rfl, hsc⟩
          · refine j_iload (q := 114) dX6_whom_112 rfl (by rfl) ?_
            refine j_goto (tgt := 119) dX6_whom_114 (by decide) ?_
            refine o_iret hF rfl dX6_whom_119 ?_
            rw [if_pos (by first | exact h109 | exact Decidable.not_not.mp h109)]
            exact ⟨rfl, hsc⟩
        · exact absurd (nI_lt (by omega) (by omega)) h47
      | succ w ih =>
        intro b mi o7 o8 hb hsc
        have hok := hsc.ok ho
        have hv := bec_veq (pgC m (x + 1)) (pgC mi (x + 9))
        refine j_iload (q := 40) dX6_whom_38 rfl (by rfl) ?_
        refine j_aload_n (q := 41) dX6_whom_40 rfl (by rfl) ?_
        refine j_getr (q := 44) dX6_whom_41 rfl fX6_10 (by assumption) (by rfl) ?_
        refine j_geti (q := 47) dX6_whom_44 rfl fX6_100 (by assumption) (by rfl) ?_
        rw [pg_3, hsc.n, hc]
        refine j_icmp_gt (q := 50) (tgt := 108) dX6_whom_47 rfl (by decide) (fun h47 => ?_) (fun h47 => ?_)
        · exact absurd h47 (nI_nlt (by omega) (by omega))
        · refine j_aload_n (q := 51) dX6_whom_50 rfl (by rfl) ?_
          refine o_callVa (q := 54) dX6_whom_51 rfl lX6_177 mwX6_afresh mvX6_afresh cn6 (by assumption) (by rfl) rfl (Nat.le_of_ble_eq_true (by rfl)) (by decide) (cX_afresh E σ mi hi x hN hok) ?_
          refine j_astore (q := 56) dX6_whom_54 rfl (by decide) ?_
          refine j_aload (q := 58) dX6_whom_56 rfl (by rfl) ?_
          refine j_getr (q := 61) dX6_whom_58 rfl fX6_150 (by assumption) (by rfl) ?_
          refine j_iload_n (q := 62) dX6_whom_61 rfl (by rfl) ?_
          refine j_aload_n (q := 63) dX6_whom_62 rfl (by rfl) ?_
          refine j_getr (q := 66) dX6_whom_63 rfl fX6_10 (by assumption) (by rfl) ?_
          refine j_iload (q := 68) dX6_whom_66 rfl (by rfl) ?_
          have hch := cG_choice E σ (frM mi x) hi (x + 1) (nI b) hN.2.1
          rw [(frM_scr mi x).n, hsc.n] at hch
          refine o_callVi (q := 71) dX6_whom_68 rfl lX6_204 mwX0_choice mvX0_choice cn0 (by assumption) (by rfl) rfl (Nat.le_of_ble_eq_true (by rfl)) (by decide) (hch) ?_
          refine j_iastore (q := 72) dX6_whom_71 rfl (by assumption) (by assumption) ?_
          have ew : gW (frM mi x) (x + 9 + 3) j (sCho (pgC m (x + 1)) (nI b)) = gP mi (x + 9) (upd (bec (pgC m (x + 1)) (pgC mi (x + 9))) (37 + j) (sCho (pgC m (x + 1)) (nI b))) := by
            unfold frM
            rw [gW_gP (gIxP_c (x + 9) hj12), hsc.n]
          rw [ew]
          have hp0 : pg0 (upd (bec (pgC m (x + 1)) (pgC mi (x + 9))) (37 + j) (sCho (pgC m (x + 1)) (nI b))) := upd_0 (bec_0 (pgC_0 mi (x + 9))) (by omega) _
          have ep : pgC (gP mi (x + 9) (upd (bec (pgC m (x + 1)) (pgC mi (x + 9))) (37 + j) (sCho (pgC m (x + 1)) (nI b)))) (x + 9) = upd (bec (pgC m (x + 1)) (pgC mi (x + 9))) (37 + j) (sCho (pgC m (x + 1)) (nI b)) := pgC_gP hp0 _ _
          have hU := cG_upsOfAll E σ (gP mi (x + 9) (upd (bec (pgC m (x + 1)) (pgC mi (x + 9))) (37 + j) (sCho (pgC m (x + 1)) (nI b)))) hi (x + 9) t 9999 hN.2.2.1 (by rw [ep]; exact (ho.1.v hv).up (by omega) _) (by rw [ep]; exact (ho.2.v hv).up (by omega) (by omega) _) (by omega)
          rw [ep, gP_gP, upsN_veq (hv.up (by omega) (by omega) _) (ho.1.up (by omega) _) (ho.2.up (by omega) (by omega) _)] at hU
          refine j_aload (q := 74) dX6_whom_72 rfl (by rfl) ?_
          refine j_iload_n (q := 75) dX6_whom_74 rfl (by rfl) ?_
          refine o_callVi (q := 78) dX6_whom_75 rfl lX6_171 mwX0_upsOfAll mvX0_upsOfAll cn0 (by assumption) (by rfl) rfl (Nat.le_of_ble_eq_true (by rfl)) (by decide) (hU) ?_
          have hsc2 : scr x m (gP mi (x + 9) (plN (upd (bec (pgC m (x + 1)) (pgC mi (x + 9))) (37 + j) (sCho (pgC m (x + 1)) (nI b))) t)) := hsc.t _
          refine j_istore (q := 80) dX6_whom_78 rfl (by decide) ?_
          refine j_iload (q := 82) dX6_whom_80 rfl (by rfl) ?_
          refine j_iload (q := 84) dX6_whom_82 rfl (by rfl) ?_
          refine j_icmp_le (q := 87) (tgt := 102) dX6_whom_84 rfl (by decide) (fun h84 => ?_) (fun h84 => ?_)
          · have hb1 : bst (whF (pgC m (x + 1)) j t) (fun c => sCho (pgC m (x + 1)) (nI c)) 4 (-1) (b + 1) = bst (whF (pgC m (x + 1)) j t) (fun c => sCho (pgC m (x + 1)) (nI c)) 4 (-1) b := by
              rw [bst]
              exact if_neg (Int32.not_lt.mpr h84)
            refine j_iinc (q := 105) dX6_whom_102 rfl (by rfl) (by first | exact nI_inc _ | rfl) (by decide) ?_
            refine j_goto (tgt := 38) dX6_whom_105 (by decide) ?_
            have := ih (b + 1) _ (some (.ref (x + 9))) (some (.int (upsN (upd (pgC m (x + 1)) (37 + j) (sCho (pgC m (x + 1)) (nI b))) t))) (by omega) hsc2
            rw [hb1] at this
            exact this
          · have hb1 : bst (whF (pgC m (x + 1)) j t) (fun c => sCho (pgC m (x + 1)) (nI c)) 4 (-1) (b + 1) = (sCho (pgC m (x + 1)) (nI b), upsN (upd (pgC m (x + 1)) (37 + j) (sCho (pgC m (x + 1)) (nI b))) t) := by
              rw [bst]
              exact if_pos (Int32.not_le.mp h84)
            refine j_iload (q := 89) dX6_whom_87 rfl (by rfl) ?_
            refine j_istore (q := 91) dX6_whom_89 rfl (by decide) ?_
            refine j_aload_n (q := 92) dX6_whom_91 rfl (by rfl) ?_
            refine j_getr (q := 95) dX6_whom_92 rfl fX6_10 (by assumption) (by rfl) ?_
            refine j_iload (q := 97) dX6_whom_95 rfl (by rfl) ?_
            have hch2 := cG_choice E σ (gP mi (x + 9) (plN (upd (bec (pgC m (x + 1)) (pgC mi (x + 9))) (37 + j) (sCho (pgC m (x + 1)) (nI b))) t)) hi (x + 1) (nI b) hN.2.1
            rw [hsc2.n] at hch2
            refine o_callVi (q := 100) dX6_whom_97 rfl lX6_204 mwX0_choice mvX0_choice cn0 (by assumption) (by rfl) rfl (Nat.le_of_ble_eq_true (by rfl)) (by decide) (hch2) ?_
            refine j_istore (q := 102) dX6_whom_100 rfl (by decide) ?_
            refine j_iinc (q := 105) dX6_whom_102 rfl (by rfl) (by first | exact nI_inc _ | rfl) (by decide) ?_
            refine j_goto (tgt := 38) dX6_whom_105 (by decide) ?_
            have := ih (b + 1) _ (some (.ref (x + 9))) (some (.int (upsN (upd (pgC m (x + 1)) (37 + j) (sCho (pgC m (x + 1)) (nI b))) t))) (by omega) hsc2
            rw [hb1] at this
            exact this
    refine j_iconst (q := 30) (v := 4) dX6_whom_29 rfl (by decide) ?_
    refine j_istore (q := 32) dX6_whom_30 rfl (by decide) ?_
    refine j_iconst (q := 33) (v := (-1)) dX6_whom_32 rfl (by decide) ?_
    refine j_istore (q := 35) dX6_whom_33 rfl (by decide) ?_
    refine j_iconst (q := 36) (v := 0) dX6_whom_35 rfl (by decide) ?_
    refine j_istore (q := 38) dX6_whom_36 rfl (by decide) ?_
    exact K38 (c + 1) 0 m _ _ (by omega) (scr.rf x m)
  · refine j_iconst (q := 28) (v := (-1)) dX6_whom_27 rfl (by decide) ?_
    refine o_iret hF rfl dX6_whom_28 ?_
    rw [if_neg (fun h => sWi_0 h24 h.2)]
    exact ⟨rfl, scr.rf x m⟩
def kiF (g : Nat → Int32) (v : Int32) (j n : Nat) (k : Nat) : Int32 := upsV (upd g (4 * 0 + j) (nI k)) v n
def xKind (g : Nat → Int32) (v n k : Int32) : Int32 := match ixV (g 24) v with
  | none => -1
  | some j => if (0 ≤ n ∧ n ≤ 200) ∧ (0 ≤ k ∧ k ≤ 1) then (if k = 0 then (bst (kiF g v j n.toNatClampNeg) nI 0 (-1) 4).1 else (bst (kiF g v j n.toNatClampNeg) nI 0 (-1) 4).2) else -1
theorem cX_kind (E : gEv) (σ : gSg) (m : gMem) (hi x : Nat) (v n k : Int32) (hN : gN σ x) (ho : okN m x) : gCo E yX6_kind cX6_kind 9 (some .int) 5 [.ref x, .int v, .int n, .int k] σ m hi (fun v' m' => v' = some (.int (xKind (pgC m (x + 1)) v n k)) ∧ scr x m m') := by
  refine gCo.of mwX6_kind (Nat.le_of_ble_eq_true rfl) ?_
  intro F hF
  have hx := hN.1
  have h1 := hN.2.1.1
  obtain ⟨h9, ⟨fv, h9v, hfv⟩, h92, h93, hvv⟩ := hN.2.2.1
  obtain ⟨c, hc, hc4⟩ := ho.1
  unfold xKind at hF
  refine j_aload_n (q := 1) dX6_kind_0 rfl (by rfl) ?_
  refine j_getr (q := 4) dX6_kind_1 rfl fX6_10 (by assumption) (by rfl) ?_
  refine j_iload_n (q := 5) dX6_kind_4 rfl (by rfl) ?_
  refine o_callVi (q := 8) dX6_kind_5 rfl lX6_126 mwX0_hasVent mvX0_hasVent cn0 (by assumption) (by rfl) rfl (Nat.le_of_ble_eq_true (by rfl)) (by decide) (cG_hasVent E σ m hi (x + 1) v hN.2.1) ?_
  rcases ixV_or v hc (by omega) with ⟨hs, hv2⟩ | ⟨j, hj, ej, hs, hv2⟩
  · rw [hs]
    rw [hv2] at hF
    refine j_if_eq (q := 11) (tgt := 27) dX6_kind_8 rfl (by decide) (fun h8 => ?_) (fun h8 => ?_)
    · refine j_iconst (q := 28) (v := (-1)) dX6_kind_27 rfl (by decide) ?_
      refine o_iret hF rfl dX6_kind_28 ?_
      exact ⟨rfl, scr.rf x m⟩
    · exact absurd rfl h8
  rw [hs]
  rw [hv2] at hF
  dsimp only at hF
  subst ej
  have hj4 : j < 4 := by omega
  have hix : gIdx (nI j) 4 j := gIdx.of rfl hj4 (by decide)
  have hfj := hfv j hj4
  have hvj := hvv j hj4
  refine j_if_eq (q := 11) (tgt := 27) dX6_kind_8 rfl (by decide) (fun h8 => ?_) (fun h8 => ?_)
  · exact absurd h8 (by decide)
  refine j_iload_n (q := 12) dX6_kind_11 rfl (by rfl) ?_
  refine o_callSi (q := 15) dX6_kind_12 rfl lX6_174 mwX6_isAhead msX6_isAhead (by rfl) rfl (Nat.le_of_ble_eq_true (by rfl)) (by decide) (cX_isAhead E σ m hi _) ?_
  refine j_if_eq (q := 18) (tgt := 27) dX6_kind_15 rfl (by decide) (fun h15 => ?_) (fun h15 => ?_)
  · refine j_iconst (q := 28) (v := (-1)) dX6_kind_27 rfl (by decide) ?_
    refine o_iret hF rfl dX6_kind_28 ?_
    rw [if_neg (fun h => sWi_0 h15 h.1)]
    exact ⟨rfl, scr.rf x m⟩
  refine j_iload_n (q := 19) dX6_kind_18 rfl (by rfl) ?_
  refine j_iconst (q := 20) (v := 0) dX6_kind_19 rfl (by decide) ?_
  refine j_iconst (q := 21) (v := 1) dX6_kind_20 rfl (by decide) ?_
  refine o_callSi (q := 24) dX6_kind_21 rfl lX6_66 mwX6_within msX6_within (by rfl) rfl (Nat.le_of_ble_eq_true (by rfl)) (by decide) (cX_within E σ m hi _ _ _) ?_
  refine j_if_ne (q := 27) (tgt := 29) dX6_kind_24 rfl (by decide) (fun h24 => ?_) (fun h24 => ?_)
  · rw [if_pos ⟨sWi_1 h15, sWi_1 h24⟩] at hF
    obtain ⟨t, ht, et⟩ := swN_wi (n := 200) (by decide) h15
    subst et
    rw [nI_clamp (by omega)] at hF
    have K38 : ∀ (w b : Nat) (mi : gMem) (o7 o8 : Option Value), b + w = 4 → scr x m mi → (gJ E yX6_kind cX6_kind 9 (some .int) (gRm 5 0 0) F 38 ([some (.ref x), some (.int (nI j)), some (.int (nI t)), some (.int k), some (.int (bst (kiF (pgC m (x + 1)) (nI j) j t) nI 0 (-1) b).1), some (.int (bst (kiF (pgC m (x + 1)) (nI j) j t) nI 0 (-1) b).2), some (.int (nI b)), o7, o8]) ([]) 0 0 σ (mi) hi) := by
      intro w
      induction w with
      | zero =>
        intro b mi o7 o8 hb hsc
        have hbc : b = 4 := by omega
        subst hbc
        refine j_iload (q := 40) dX6_kind_38 rfl (by rfl) ?_
        refine j_iconst (q := 41) (v := 3) dX6_kind_40 rfl (by decide) ?_
        refine j_icmp_gt (q := 44) (tgt := 92) dX6_kind_41 rfl (by decide) (fun h41 => ?_) (fun h41 => ?_)
        · refine j_iload_n (q := 93) dX6_kind_92 rfl (by rfl) ?_
          refine j_if_ne (q := 96) (tgt := 101) dX6_kind_93 rfl (by decide) (fun h93 => ?_) (fun h93 => ?_)
          · refine j_iload (q := 103) dX6_kind_101 rfl (by rfl) ?_
            refine o_iret hF rfl dX6_kind_103 ?_
            rw [if_neg h93]
            exact ⟨rfl, hsc⟩
          · refine j_iload (q := 98) dX6_kind_96 rfl (by rfl) ?_
            refine j_goto (tgt := 103) dX6_kind_98 (by decide) ?_
            refine o_iret hF rfl dX6_kind_103 ?_
            rw [if_pos (by first | exact h93 | exact Decidable.not_not.mp h93)]
            exact ⟨rfl, hsc⟩
        · exact absurd (nI_lt (a := 3) (b := 4) (by omega) (by omega)) h41
      | succ w ih =>
        intro b mi o7 o8 hb hsc
        have hok := hsc.ok ho
        have hv := bec_veq (pgC m (x + 1)) (pgC mi (x + 9))
        refine j_iload (q := 40) dX6_kind_38 rfl (by rfl) ?_
        refine j_iconst (q := 41) (v := 3) dX6_kind_40 rfl (by decide) ?_
        refine j_icmp_gt (q := 44) (tgt := 92) dX6_kind_41 rfl (by decide) (fun h41 => ?_) (fun h41 => ?_)
        · exact absurd h41 (nI_nlt (a := 3) (b := b) (by omega) (by omega))
        · refine j_aload_n (q := 45) dX6_kind_44 rfl (by rfl) ?_
          refine o_callVa (q := 48) dX6_kind_45 rfl lX6_177 mwX6_afresh mvX6_afresh cn6 (by assumption) (by rfl) rfl (Nat.le_of_ble_eq_true (by rfl)) (by decide) (cX_afresh E σ mi hi x hN hok) ?_
          refine j_astore (q := 50) dX6_kind_48 rfl (by decide) ?_
          refine j_aload (q := 52) dX6_kind_50 rfl (by rfl) ?_
          refine j_getr (q := 55) dX6_kind_52 rfl fX6_132 (by assumption) (by rfl) ?_
          refine j_iload_n (q := 56) dX6_kind_55 rfl (by rfl) ?_
          refine j_aaload (q := 57) dX6_kind_56 rfl (by assumption) (by decide) (by assumption) (by assumption) ?_
          refine j_iload (q := 59) dX6_kind_57 rfl (by rfl) ?_
          refine j_puti (q := 62) dX6_kind_59 rfl fX6_233 p5_0 (by assumption) (by rfl) ?_
          have ew : gW (frM mi x) (x + 9 + 4 + j) 0 (nI b) = gP mi (x + 9) (upd (bec (pgC m (x + 1)) (pgC mi (x + 9))) (4 * 0 + j) (nI b)) := by
            unfold frM
            rw [gW_gP (gIxP_v (x + 9) hj4 (by decide)), hsc.n]
          rw [ew]
          have hp0 : pg0 (upd (bec (pgC m (x + 1)) (pgC mi (x + 9))) (4 * 0 + j) (nI b)) := upd_0 (bec_0 (pgC_0 mi (x + 9))) (by omega) _
          have ep : pgC (gP mi (x + 9) (upd (bec (pgC m (x + 1)) (pgC mi (x + 9))) (4 * 0 + j) (nI b))) (x + 9) = upd (bec (pgC m (x + 1)) (pgC mi (x + 9))) (4 * 0 + j) (nI b) := pgC_gP hp0 _ _
          have hU := cG_upsOf E σ (gP mi (x + 9) (upd (bec (pgC m (x + 1)) (pgC mi (x + 9))) (4 * 0 + j) (nI b))) hi (x + 9) t 9999 (nI j) hN.2.2.1 (by rw [ep]; exact (ho.1.v hv).up (by omega) _) (by rw [ep]; exact (ho.2.v hv).up (by omega) (by omega) _) (by omega)
          rw [ep, gP_gP, upsV_veq (hv.up (by omega) (by omega) _) (ho.1.up (by omega) _) (ho.2.up (by omega) (by omega) _)] at hU
          refine j_aload (q := 64) dX6_kind_62 rfl (by rfl) ?_
          refine j_iload_n (q := 65) dX6_kind_64 rfl (by rfl) ?_
          refine j_iload_n (q := 66) dX6_kind_65 rfl (by rfl) ?_
          refine o_callVi (q := 69) dX6_kind_66 rfl lX6_185 mwX0_upsOf mvX0_upsOf cn0 (by assumption) (by rfl) rfl (Nat.le_of_ble_eq_true (by rfl)) (by decide) (hU) ?_
          have hsc2 : scr x m (gP mi (x + 9) (plN (upd (bec (pgC m (x + 1)) (pgC mi (x + 9))) (4 * 0 + j) (nI b)) t)) := hsc.t _
          refine j_istore (q := 71) dX6_kind_69 rfl (by decide) ?_
          refine j_iload (q := 73) dX6_kind_71 rfl (by rfl) ?_
          refine j_iload (q := 75) dX6_kind_73 rfl (by rfl) ?_
          refine j_icmp_le (q := 78) (tgt := 86) dX6_kind_75 rfl (by decide) (fun h75 => ?_) (fun h75 => ?_)
          · have hb1 : bst (kiF (pgC m (x + 1)) (nI j) j t) nI 0 (-1) (b + 1) = bst (kiF (pgC m (x + 1)) (nI j) j t) nI 0 (-1) b := by
              rw [bst]
              exact if_neg (Int32.not_lt.mpr h75)
            refine j_iinc (q := 89) dX6_kind_86 rfl (by rfl) (by first | exact nI_inc _ | rfl) (by decide) ?_
            refine j_goto (tgt := 38) dX6_kind_89 (by decide) ?_
            have := ih (b + 1) _ (some (.ref (x + 9))) (some (.int (upsV (upd (pgC m (x + 1)) (4 * 0 + j) (nI b)) (nI j) t))) (by omega) hsc2
            rw [hb1] at this
            exact this
          · have hb1 : bst (kiF (pgC m (x + 1)) (nI j) j t) nI 0 (-1) (b + 1) = (nI b, upsV (upd (pgC m (x + 1)) (4 * 0 + j) (nI b)) (nI j) t) := by
              rw [bst]
              exact if_pos (Int32.not_le.mp h75)
            refine j_iload (q := 80) dX6_kind_78 rfl (by rfl) ?_
            refine j_istore (q := 82) dX6_kind_80 rfl (by decide) ?_
            refine j_iload (q := 84) dX6_kind_82 rfl (by rfl) ?_
            refine j_istore (q := 86) dX6_kind_84 rfl (by decide) ?_
            refine j_iinc (q := 89) dX6_kind_86 rfl (by rfl) (by first | exact nI_inc _ | rfl) (by decide) ?_
            refine j_goto (tgt := 38) dX6_kind_89 (by decide) ?_
            have := ih (b + 1) _ (some (.ref (x + 9))) (some (.int (upsV (upd (pgC m (x + 1)) (4 * 0 + j) (nI b)) (nI j) t))) (by omega) hsc2
            rw [hb1] at this
            exact this
    refine j_iconst (q := 30) (v := 0) dX6_kind_29 rfl (by decide) ?_
    refine j_istore (q := 32) dX6_kind_30 rfl (by decide) ?_
    refine j_iconst (q := 33) (v := (-1)) dX6_kind_32 rfl (by decide) ?_
    refine j_istore (q := 35) dX6_kind_33 rfl (by decide) ?_
    refine j_iconst (q := 36) (v := 0) dX6_kind_35 rfl (by decide) ?_
    refine j_istore (q := 38) dX6_kind_36 rfl (by decide) ?_
    exact K38 4 0 m _ _ (by omega) (scr.rf x m)
  · refine j_iconst (q := 28) (v := (-1)) dX6_kind_27 rfl (by decide) ?_
    refine o_iret hF rfl dX6_kind_28 ?_
    rw [if_neg (fun h => sWi_0 h24 h.2)]
    exact ⟨rfl, scr.rf x m⟩
def flJ (g : Nat → Int32) (v : Int32) (n : Nat) (q : Int32) : Nat → Nat → Int32
  | 0, _ => -4
  | k + 1, b => if q ≤ upsV (upd g 50 (nI b)) v n then nI b else flJ g v n q k (b + 1)
def xFlow (g : Nat → Int32) (v n q : Int32) : Int32 := match ixV (g 24) v with
  | none => -1
  | some _ => if (0 ≤ n ∧ n ≤ 200) ∧ (0 ≤ q ∧ q ≤ 20) then flJ g v n.toNatClampNeg q 41 0 else -1
theorem cX_flow (E : gEv) (σ : gSg) (m : gMem) (hi x : Nat) (v n q : Int32) (hN : gN σ x) (ho : okN m x) : gCo E yX6_flow cX6_flow 6 (some .int) 5 [.ref x, .int v, .int n, .int q] σ m hi (fun v' m' => v' = some (.int (xFlow (pgC m (x + 1)) v n q)) ∧ scr x m m') := by
  refine gCo.of mwX6_flow (Nat.le_of_ble_eq_true rfl) ?_
  intro F hF
  have hx := hN.1
  have h1 := hN.2.1.1
  have h9 := hN.2.2.1.1
  obtain ⟨c, hc, hc4⟩ := ho.1
  unfold xFlow at hF
  refine j_aload_n (q := 1) dX6_flow_0 rfl (by rfl) ?_
  refine j_getr (q := 4) dX6_flow_1 rfl fX6_10 (by assumption) (by rfl) ?_
  refine j_iload_n (q := 5) dX6_flow_4 rfl (by rfl) ?_
  refine o_callVi (q := 8) dX6_flow_5 rfl lX6_126 mwX0_hasVent mvX0_hasVent cn0 (by assumption) (by rfl) rfl (Nat.le_of_ble_eq_true (by rfl)) (by decide) (cG_hasVent E σ m hi (x + 1) v hN.2.1) ?_
  rcases ixV_or v hc (by omega) with ⟨hs, hv2⟩ | ⟨j, hj, ej, hs, hv2⟩
  · rw [hs]
    rw [hv2] at hF
    refine j_if_eq (q := 11) (tgt := 28) dX6_flow_8 rfl (by decide) (fun h8 => ?_) (fun h8 => ?_)
    · refine j_iconst (q := 29) (v := (-1)) dX6_flow_28 rfl (by decide) ?_
      refine o_iret hF rfl dX6_flow_29 ?_
      exact ⟨rfl, scr.rf x m⟩
    · exact absurd rfl h8
  rw [hs]
  rw [hv2] at hF
  dsimp only at hF
  refine j_if_eq (q := 11) (tgt := 28) dX6_flow_8 rfl (by decide) (fun h8 => ?_) (fun h8 => ?_)
  · exact absurd h8 (by decide)
  refine j_iload_n (q := 12) dX6_flow_11 rfl (by rfl) ?_
  refine o_callSi (q := 15) dX6_flow_12 rfl lX6_174 mwX6_isAhead msX6_isAhead (by rfl) rfl (Nat.le_of_ble_eq_true (by rfl)) (by decide) (cX_isAhead E σ m hi _) ?_
  refine j_if_eq (q := 18) (tgt := 28) dX6_flow_15 rfl (by decide) (fun h15 => ?_) (fun h15 => ?_)
  · refine j_iconst (q := 29) (v := (-1)) dX6_flow_28 rfl (by decide) ?_
    refine o_iret hF rfl dX6_flow_29 ?_
    rw [if_neg (fun h => sWi_0 h15 h.1)]
    exact ⟨rfl, scr.rf x m⟩
  refine j_iload_n (q := 19) dX6_flow_18 rfl (by rfl) ?_
  refine j_iconst (q := 20) (v := 0) dX6_flow_19 rfl (by decide) ?_
  refine j_bipush (q := 22) (v := 20) dX6_flow_20 rfl (by decide) ?_
  refine o_callSi (q := 25) dX6_flow_22 rfl lX6_66 mwX6_within msX6_within (by rfl) rfl (Nat.le_of_ble_eq_true (by rfl)) (by decide) (cX_within E σ m hi _ _ _) ?_
  refine j_if_ne (q := 28) (tgt := 30) dX6_flow_25 rfl (by decide) (fun h25 => ?_) (fun h25 => ?_)
  · rw [if_pos ⟨sWi_1 h15, sWi_1 h25⟩] at hF
    obtain ⟨t, ht, et⟩ := swN_wi (n := 200) (by decide) h15
    subst et
    rw [nI_clamp (by omega)] at hF
    have K33 : ∀ (w b : Nat) (mi : gMem) (o5 : Option Value), b + w = 41 → scr x m mi → flJ (pgC m (x + 1)) v t q 41 0 = flJ (pgC m (x + 1)) v t q w b → (gJ E yX6_flow cX6_flow 6 (some .int) (gRm 5 0 0) F 33 ([some (.ref x), some (.int v), some (.int (nI t)), some (.int q), some (.int (nI b)), o5]) ([]) 0 0 σ (mi) hi) := by
      intro w
      induction w with
      | zero =>
        intro b mi o5 hb hsc he
        have hbc : b = 41 := by omega
        subst hbc
        refine j_iload (q := 35) dX6_flow_33 rfl (by rfl) ?_
        refine j_bipush (q := 37) (v := 40) dX6_flow_35 rfl (by decide) ?_
        refine j_icmp_gt (q := 40) (tgt := 73) dX6_flow_37 rfl (by decide) (fun h37 => ?_) (fun h37 => ?_)
        · refine j_bipush (q := 75) (v := (-4)) dX6_flow_73 rfl (by decide) ?_
          refine o_iret hF rfl dX6_flow_75 ?_
          rw [he]
          exact ⟨rfl, hsc⟩
        · exact absurd (nI_lt (a := 40) (b := 41) (by omega) (by omega)) h37
      | succ w ih =>
        intro b mi o5 hb hsc he
        have hok := hsc.ok ho
        have hv := bec_veq (pgC m (x + 1)) (pgC mi (x + 9))
        refine j_iload (q := 35) dX6_flow_33 rfl (by rfl) ?_
        refine j_bipush (q := 37) (v := 40) dX6_flow_35 rfl (by decide) ?_
        refine j_icmp_gt (q := 40) (tgt := 73) dX6_flow_37 rfl (by decide) (fun h37 => ?_) (fun h37 => ?_)
        · exact absurd h37 (nI_nlt (a := 40) (b := b) (by omega) (by omega))
        · refine j_aload_n (q := 41) dX6_flow_40 rfl (by rfl) ?_
          refine o_callVa (q := 44) dX6_flow_41 rfl lX6_177 mwX6_afresh mvX6_afresh cn6 (by assumption) (by rfl) rfl (Nat.le_of_ble_eq_true (by rfl)) (by decide) (cX_afresh E σ mi hi x hN hok) ?_
          refine j_astore (q := 46) dX6_flow_44 rfl (by decide) ?_
          refine j_aload (q := 48) dX6_flow_46 rfl (by rfl) ?_
          refine j_iload (q := 50) dX6_flow_48 rfl (by rfl) ?_
          refine j_puti (q := 53) dX6_flow_50 rfl fX6_109 p0_6 (by assumption) (by rfl) ?_
          have ew : gW (frM mi x) (x + 9) 6 (nI b) = gP mi (x + 9) (upd (bec (pgC m (x + 1)) (pgC mi (x + 9))) 50 (nI b)) := by
            unfold frM
            rw [gW_gP (gIxP_n6 (x + 9)), hsc.n]
          rw [ew]
          have hp0 : pg0 (upd (bec (pgC m (x + 1)) (pgC mi (x + 9))) 50 (nI b)) := upd_0 (bec_0 (pgC_0 mi (x + 9))) (by omega) _
          have ep : pgC (gP mi (x + 9) (upd (bec (pgC m (x + 1)) (pgC mi (x + 9))) 50 (nI b))) (x + 9) = upd (bec (pgC m (x + 1)) (pgC mi (x + 9))) 50 (nI b) := pgC_gP hp0 _ _
          have hU := cG_upsOf E σ (gP mi (x + 9) (upd (bec (pgC m (x + 1)) (pgC mi (x + 9))) 50 (nI b))) hi (x + 9) t 9999 v hN.2.2.1 (by rw [ep]; exact (ho.1.v hv).up (by omega) _) (by rw [ep]; exact (ho.2.v hv).up (by omega) (by omega) _) (by omega)
          rw [ep, gP_gP, upsV_veq (hv.up (by omega) (by omega) _) (ho.1.up (by omega) _) (ho.2.up (by omega) (by omega) _)] at hU
          refine j_aload (q := 55) dX6_flow_53 rfl (by rfl) ?_
          refine j_iload_n (q := 56) dX6_flow_55 rfl (by rfl) ?_
          refine j_iload_n (q := 57) dX6_flow_56 rfl (by rfl) ?_
          refine o_callVi (q := 60) dX6_flow_57 rfl lX6_185 mwX0_upsOf mvX0_upsOf cn0 (by assumption) (by rfl) rfl (Nat.le_of_ble_eq_true (by rfl)) (by decide) (hU) ?_
          have hsc2 : scr x m (gP mi (x + 9) (plN (upd (bec (pgC m (x + 1)) (pgC mi (x + 9))) 50 (nI b)) t)) := hsc.t _
          refine j_iload_n (q := 61) dX6_flow_60 rfl (by rfl) ?_
          refine j_icmp_lt (q := 64) (tgt := 67) dX6_flow_61 rfl (by decide) (fun h61 => ?_) (fun h61 => ?_)
          · refine j_iinc (q := 70) dX6_flow_67 rfl (by rfl) (by first | exact nI_inc _ | rfl) (by decide) ?_
            refine j_goto (tgt := 33) dX6_flow_70 (by decide) ?_
            refine ih (b + 1) _ _ (by omega) hsc2 ?_
            rw [he, flJ, if_neg (Int32.not_le.mpr h61)]
          · refine j_iload (q := 66) dX6_flow_64 rfl (by rfl) ?_
            refine o_iret hF rfl dX6_flow_66 ?_
            rw [he, flJ, if_pos (Int32.not_lt.mp h61)]
            exact ⟨rfl, hsc2⟩
    refine j_iconst (q := 31) (v := 0) dX6_flow_30 rfl (by decide) ?_
    refine j_istore (q := 33) dX6_flow_31 rfl (by decide) ?_
    exact K33 41 0 m _ (by omega) (scr.rf x m) rfl
  · refine j_iconst (q := 29) (v := (-1)) dX6_flow_28 rfl (by decide) ?_
    refine o_iret hF rfl dX6_flow_29 ?_
    rw [if_neg (fun h => sWi_0 h25 h.2)]
    exact ⟨rfl, scr.rf x m⟩

def upW (g : Nat → Int32) (j n : Nat) (w : Int32) : Int32 := upsN (upd g (25 + j) w) n
theorem cX_upsWithWatchers (E : gEv) (σ : gSg) (m : gMem) (hi x j t : Nat) (w : Int32) (hN : gN σ x) (ho : okN m x) (hj : j < rws (pgC m (x + 1))) (ht : t ≤ 200) : gCo E yX6_upsWithWatchers cX6_upsWithWatchers 5 (some .int) 5 [.ref x, .int (nI j), .int w, .int (nI t)] σ m hi (fun v' m' => v' = some (.int (upW (pgC m (x + 1)) j t w)) ∧ scr x m m') := by
  refine gCo.of mwX6_upsWithWatchers (Nat.le_of_ble_eq_true rfl) ?_
  intro F hF
  have hx := hN.1
  obtain ⟨h9, ⟨fv, h9v, hfv⟩, h92, h93, hvv⟩ := hN.2.2.1
  have hj12 : j < 12 := by have := rws_le ho.2; omega
  have hix : gIdx (nI j) 12 j := gIdx.of rfl hj12 (by decide)
  have hv := bec_veq (pgC m (x + 1)) (pgC m (x + 9))
  obtain ⟨r, h, e1, e2, -, -⟩ := ho.2
  have hrn : rws (pgC m (x + 1)) = r := by unfold rws; rw [e1]; exact nI_clamp (by omega)
  refine j_aload_n (q := 1) dX6_upsWithWatchers_0 rfl (by rfl) ?_
  refine o_callVa (q := 4) dX6_upsWithWatchers_1 rfl lX6_177 mwX6_afresh mvX6_afresh cn6 (by assumption) (by rfl) rfl (Nat.le_of_ble_eq_true (by rfl)) (by decide) (cX_afresh E σ m hi x hN ho) ?_
  refine j_astore (q := 6) dX6_upsWithWatchers_4 rfl (by decide) ?_
  refine j_aload (q := 8) dX6_upsWithWatchers_6 rfl (by rfl) ?_
  refine j_iload_n (q := 9) dX6_upsWithWatchers_8 rfl (by rfl) ?_
  refine o_callVi (q := 12) dX6_upsWithWatchers_9 rfl lX6_144 mwX0_hasRow mvX0_hasRow cn0 (by assumption) (by rfl) rfl (Nat.le_of_ble_eq_true (by rfl)) (by decide) (cG_hasRow E σ (frM m x) hi (x + 9) (nI j) hN.2.2.1) ?_
  rw [frM_pg, sHas_in (x := bec (pgC m (x + 1)) (pgC m (x + 9)) 49) (n := r) (by rw [hv.a49]; exact e1) (by omega) (by omega)]
  refine j_if_eq (q := 15) (tgt := 23) dX6_upsWithWatchers_12 rfl (by decide) (fun h12 => ?_) (fun h12 => ?_)
  · exact absurd h12 (by decide)
  · refine j_aload (q := 17) dX6_upsWithWatchers_15 rfl (by rfl) ?_
    refine j_getr (q := 20) dX6_upsWithWatchers_17 rfl fX6_147 (by assumption) (by rfl) ?_
    refine j_iload_n (q := 21) dX6_upsWithWatchers_20 rfl (by rfl) ?_
    refine j_iload_n (q := 22) dX6_upsWithWatchers_21 rfl (by rfl) ?_
    refine j_iastore (q := 23) dX6_upsWithWatchers_22 rfl (by assumption) (by assumption) ?_
    have ew : gW (frM m x) (x + 9 + 2) j w = gP m (x + 9) (upd (bec (pgC m (x + 1)) (pgC m (x + 9))) (25 + j) w) := by
      unfold frM
      rw [gW_gP (gIxP_w (x + 9) hj12)]
    rw [ew]
    have hp0 : pg0 (upd (bec (pgC m (x + 1)) (pgC m (x + 9))) (25 + j) w) := upd_0 (bec_0 (pgC_0 m (x + 9))) (by omega) _
    have ep : pgC (gP m (x + 9) (upd (bec (pgC m (x + 1)) (pgC m (x + 9))) (25 + j) w)) (x + 9) = upd (bec (pgC m (x + 1)) (pgC m (x + 9))) (25 + j) w := pgC_gP hp0 _ _
    have hU := cG_upsOfAll E σ (gP m (x + 9) (upd (bec (pgC m (x + 1)) (pgC m (x + 9))) (25 + j) w)) hi (x + 9) t 9999 hN.2.2.1 (by rw [ep]; exact (ho.1.v hv).up (by omega) _) (by rw [ep]; exact (ho.2.v hv).up (by omega) (by omega) _) (by omega)
    rw [ep, gP_gP, upsN_veq (hv.up (by omega) (by omega) _) (ho.1.up (by omega) _) (ho.2.up (by omega) (by omega) _)] at hU
    refine j_aload (q := 25) dX6_upsWithWatchers_23 rfl (by rfl) ?_
    refine j_iload_n (q := 26) dX6_upsWithWatchers_25 rfl (by rfl) ?_
    refine o_callVi (q := 29) dX6_upsWithWatchers_26 rfl lX6_171 mwX0_upsOfAll mvX0_upsOfAll cn0 (by assumption) (by rfl) rfl (Nat.le_of_ble_eq_true (by rfl)) (by decide) (hU) ?_
    refine o_iret hF rfl dX6_upsWithWatchers_29 ?_
    exact ⟨rfl, (scr.rf x m).t _⟩
def beJ (g : Nat → Int32) (j n : Nat) : Nat → Int32
  | 0 => 0
  | k + 1 => if upW g j n 0 ≤ upW g j n (nI (k + 1)) then nI (k + 1) else beJ g j n k
def xBears (g : Nat → Int32) (i n : Int32) : Int32 := match ixV (g 49) i with
  | none => -1
  | some j => if 0 ≤ n ∧ n ≤ 200 then beJ g j n.toNatClampNeg 9 else -1
theorem cX_bears (E : gEv) (σ : gSg) (m : gMem) (hi x : Nat) (i n : Int32) (hN : gN σ x) (ho : okN m x) : gCo E yX6_bears cX6_bears 6 (some .int) 6 [.ref x, .int i, .int n] σ m hi (fun v' m' => v' = some (.int (xBears (pgC m (x + 1)) i n)) ∧ scr x m m') := by
  refine gCo.of mwX6_bears (Nat.le_of_ble_eq_true rfl) ?_
  intro F hF
  have hx := hN.1
  have h1 := hN.2.1.1
  obtain ⟨r, h, e1, e2, -, -⟩ := ho.2
  have hrn : rws (pgC m (x + 1)) = r := by unfold rws; rw [e1]; exact nI_clamp (by omega)
  unfold xBears at hF
  refine j_aload_n (q := 1) dX6_bears_0 rfl (by rfl) ?_
  refine j_getr (q := 4) dX6_bears_1 rfl fX6_10 (by assumption) (by rfl) ?_
  refine j_iload_n (q := 5) dX6_bears_4 rfl (by rfl) ?_
  refine o_callVi (q := 8) dX6_bears_5 rfl lX6_144 mwX0_hasRow mvX0_hasRow cn0 (by assumption) (by rfl) rfl (Nat.le_of_ble_eq_true (by rfl)) (by decide) (cG_hasRow E σ m hi (x + 1) i hN.2.1) ?_
  rcases ixV_or i e1 (by omega) with ⟨hs, hv2⟩ | ⟨j, hj, ej, hs, hv2⟩
  · rw [hs]
    rw [hv2] at hF
    refine j_if_eq (q := 11) (tgt := 18) dX6_bears_8 rfl (by decide) (fun h8 => ?_) (fun h8 => ?_)
    · refine j_iconst (q := 19) (v := (-1)) dX6_bears_18 rfl (by decide) ?_
      refine o_iret hF rfl dX6_bears_19 ?_
      exact ⟨rfl, scr.rf x m⟩
    · exact absurd rfl h8
  rw [hs]
  rw [hv2] at hF
  dsimp only at hF
  subst ej
  refine j_if_eq (q := 11) (tgt := 18) dX6_bears_8 rfl (by decide) (fun h8 => ?_) (fun h8 => ?_)
  · exact absurd h8 (by decide)
  refine j_iload_n (q := 12) dX6_bears_11 rfl (by rfl) ?_
  refine o_callSi (q := 15) dX6_bears_12 rfl lX6_174 mwX6_isAhead msX6_isAhead (by rfl) rfl (Nat.le_of_ble_eq_true (by rfl)) (by decide) (cX_isAhead E σ m hi _) ?_
  refine j_if_ne (q := 18) (tgt := 20) dX6_bears_15 rfl (by decide) (fun h15 => ?_) (fun h15 => ?_)
  · rw [if_pos (sWi_1 h15)] at hF
    obtain ⟨t, ht, et⟩ := swN_wi (n := 200) (by decide) h15
    subst et
    rw [nI_clamp (by omega)] at hF
    have K34 : ∀ (w b : Nat) (mi : gMem), b + w = 9 → scr x m mi → (gJ E yX6_bears cX6_bears 6 (some .int) (gRm 6 0 0) F 34 ([some (.ref x), some (.int (nI j)), some (.int (nI t)), some (.int (upW (pgC m (x + 1)) j t 0)), some (.int (beJ (pgC m (x + 1)) j t b)), some (.int (nI (b + 1)))]) ([]) 0 0 σ (mi) hi) := by
      intro w
      induction w with
      | zero =>
        intro b mi hb hsc
        have hbc : b = 9 := by omega
        subst hbc
        refine j_iload (q := 36) dX6_bears_34 rfl (by rfl) ?_
        refine j_bipush (q := 38) (v := 9) dX6_bears_36 rfl (by decide) ?_
        refine j_icmp_gt (q := 41) (tgt := 63) dX6_bears_38 rfl (by decide) (fun h38 => ?_) (fun h38 => ?_)
        · refine j_iload (q := 65) dX6_bears_63 rfl (by rfl) ?_
          refine o_iret hF rfl dX6_bears_65 ?_
          exact ⟨rfl, hsc⟩
        · exact absurd (nI_lt (a := 9) (b := 10) (by omega) (by omega)) h38
      | succ w ih =>
        intro b mi hb hsc
        refine j_iload (q := 36) dX6_bears_34 rfl (by rfl) ?_
        refine j_bipush (q := 38) (v := 9) dX6_bears_36 rfl (by decide) ?_
        refine j_icmp_gt (q := 41) (tgt := 63) dX6_bears_38 rfl (by decide) (fun h38 => ?_) (fun h38 => ?_)
        · exact absurd h38 (nI_nlt (a := 9) (b := b + 1) (by omega) (by omega))
        · refine j_aload_n (q := 42) dX6_bears_41 rfl (by rfl) ?_
          refine j_iload_n (q := 43) dX6_bears_42 rfl (by rfl) ?_
          refine j_iload (q := 45) dX6_bears_43 rfl (by rfl) ?_
          refine j_iload_n (q := 46) dX6_bears_45 rfl (by rfl) ?_
          have hU := cX_upsWithWatchers E σ mi hi x j t (nI (b + 1)) hN (hsc.ok ho) (by rw [hsc.n]; omega) ht
          rw [hsc.n] at hU
          refine o_callVx (q := 49) dX6_bears_46 rfl lX6_230 mwX6_upsWithWatchers mvX6_upsWithWatchers cn6 (by assumption) (by rfl) rfl (Nat.le_of_ble_eq_true (by rfl)) (by decide) (hU) ?_
          rintro _ m1 ⟨rfl, hs1⟩
          refine j_iload_n (q := 50) dX6_bears_49 rfl (by rfl) ?_
          refine j_icmp_lt (q := 53) (tgt := 57) dX6_bears_50 rfl (by decide) (fun h50 => ?_) (fun h50 => ?_)
          · refine j_iinc (q := 60) dX6_bears_57 rfl (by rfl) (by first | exact nI_inc _ | rfl) (by decide) ?_
            refine j_goto (tgt := 34) dX6_bears_60 (by decide) ?_
            have := ih (b + 1) m1 (by omega) (hsc.tr hs1)
            rw [beJ, if_neg (Int32.not_le.mpr h50)] at this
            exact this
          · refine j_iload (q := 55) dX6_bears_53 rfl (by rfl) ?_
            refine j_istore (q := 57) dX6_bears_55 rfl (by decide) ?_
            refine j_iinc (q := 60) dX6_bears_57 rfl (by rfl) (by first | exact nI_inc _ | rfl) (by decide) ?_
            refine j_goto (tgt := 34) dX6_bears_60 (by decide) ?_
            have := ih (b + 1) m1 (by omega) (hsc.tr hs1)
            rw [beJ, if_pos (Int32.not_lt.mp h50)] at this
            exact this
    refine j_aload_n (q := 21) dX6_bears_20 rfl (by rfl) ?_
    refine j_iload_n (q := 22) dX6_bears_21 rfl (by rfl) ?_
    refine j_iconst (q := 23) (v := 0) dX6_bears_22 rfl (by decide) ?_
    refine j_iload_n (q := 24) dX6_bears_23 rfl (by rfl) ?_
    refine o_callVx (q := 27) dX6_bears_24 rfl lX6_230 mwX6_upsWithWatchers mvX6_upsWithWatchers cn6 (by assumption) (by rfl) rfl (Nat.le_of_ble_eq_true (by rfl)) (by decide) (cX_upsWithWatchers E σ m hi x j t 0 hN ho (by omega) ht) ?_
    rintro _ m1 ⟨rfl, hs1⟩
    refine j_istore_n (q := 28) dX6_bears_27 rfl (by decide) ?_
    refine j_iconst (q := 29) (v := 0) dX6_bears_28 rfl (by decide) ?_
    refine j_istore (q := 31) dX6_bears_29 rfl (by decide) ?_
    refine j_iconst (q := 32) (v := 1) dX6_bears_31 rfl (by decide) ?_
    refine j_istore (q := 34) dX6_bears_32 rfl (by decide) ?_
    exact K34 9 0 m1 (by omega) hs1
  · rw [if_neg (sWi_0 h15)] at hF
    refine j_iconst (q := 19) (v := (-1)) dX6_bears_18 rfl (by decide) ?_
    refine o_iret hF rfl dX6_bears_19 ?_
    exact ⟨rfl, scr.rf x m⟩
