theorem okC.sw {g : Nat → Int32} (h : okC g) {i j : Nat} (hj : j < 12) (hi : i < 12) : okC (swp g i j) := by
  unfold swp
  exact (((h.up (by omega) _).up (by omega) _).up (by omega) _).up (by omega) _
theorem okB.sw {g : Nat → Int32} {b : Nat} (h : okB g b) {i j : Nat} (hj : j < 12) (hi : i < 12) : okB (swp g i j) b := by
  unfold swp
  exact (((h.up (by omega) (by omega) _).up (by omega) (by omega) _).up (by omega) (by omega) _).up (by omega) (by omega) _
theorem veq.sw {g g' : Nat → Int32} (h : veq g g') {i j : Nat} (hi : i < rws g) (hj : j < rws g) (hr : rws g ≤ 12) : veq (swp g i j) (swp g' i j) := by
  unfold swp
  rw [h.w hj (by omega), h.o hj (by omega), h.w hi (by omega), h.o hi (by omega)]
  exact (((h.up (by omega) (by omega) _).up (by omega) (by omega) _).up (by omega) (by omega) _).up (by omega) (by omega) _
theorem swp_0 {g : Nat → Int32} (h : pg0 g) {i j : Nat} (hj : j < 12) (hi : i < 12) : pg0 (swp g i j) := by
  unfold swp
  exact upd_0 (upd_0 (upd_0 (upd_0 h (by omega) _) (by omega) _) (by omega) _) (by omega) _
def swI (g : Nat → Int32) (n i : Nat) (s : Int32 × Int32) : Nat → Int32 × Int32
  | 0 => s
  | k + 1 => if (swI g n i s k).2 < pleN (swp g i (i + 1 + k)) n then (100 * nI i + nI (i + 1 + k), pleN (swp g i (i + 1 + k)) n) else swI g n i s k
def swO (g : Nat → Int32) (n r : Nat) : Nat → Int32 × Int32
  | 0 => (-4, pleN g n)
  | i + 1 => swI g n i (swO g n r i) (r - (i + 1))
def xSwap (g : Nat → Int32) (n k : Int32) : Int32 := if (0 ≤ n ∧ n ≤ 200) ∧ (0 ≤ k ∧ k ≤ 1) then (if (swO g n.toNatClampNeg (rws g) (rws g)).1 = -4 ∨ k = 0 then (swO g n.toNatClampNeg (rws g) (rws g)).1 else (swO g n.toNatClampNeg (rws g) (rws g)).2) else -1
theorem cX_swap (E : gEv) (σ : gSg) (m : gMem) (hi x : Nat) (n k : Int32) (hN : gN σ x) (ho : okN m x) : gCo E yX6_swap cX6_swap 9 (some .int) 5 [.ref x, .int n, .int k] σ m hi (fun v' m' => v' = some (.int (xSwap (pgC m (x + 1)) n k)) ∧ scr x m m') := by
  refine gCo.of mwX6_swap (Nat.le_of_ble_eq_true rfl) ?_
  intro F hF
  have hx := hN.1
  have h1 := hN.2.1.1
  have h9 := hN.2.2.1.1
  obtain ⟨r, h, e1, e2, -, -⟩ := ho.2
  have hrn : rws (pgC m (x + 1)) = r := by unfold rws; rw [e1]; exact nI_clamp (by omega)
  unfold xSwap at hF
  refine j_iload_n (q := 1) dX6_swap_0 rfl (by rfl) ?_
  refine o_callSi (q := 4) dX6_swap_1 rfl lX6_174 mwX6_isAhead msX6_isAhead (by rfl) rfl (Nat.le_of_ble_eq_true (by rfl)) (by decide) (cX_isAhead E σ m hi _) ?_
  refine j_if_eq (q := 7) (tgt := 16) dX6_swap_4 rfl (by decide) (fun h4 => ?_) (fun h4 => ?_)
  · refine j_iconst (q := 17) (v := (-1)) dX6_swap_16 rfl (by decide) ?_
    refine o_iret hF rfl dX6_swap_17 ?_
    rw [if_neg (fun h => sWi_0 h4 h.1)]
    exact ⟨rfl, scr.rf x m⟩
  refine j_iload_n (q := 8) dX6_swap_7 rfl (by rfl) ?_
  refine j_iconst (q := 9) (v := 0) dX6_swap_8 rfl (by decide) ?_
  refine j_iconst (q := 10) (v := 1) dX6_swap_9 rfl (by decide) ?_
  refine o_callSi (q := 13) dX6_swap_10 rfl lX6_66 mwX6_within msX6_within (by rfl) rfl (Nat.le_of_ble_eq_true (by rfl)) (by decide) (cX_within E σ m hi _ _ _) ?_
  refine j_if_ne (q := 16) (tgt := 18) dX6_swap_13 rfl (by decide) (fun h13 => ?_) (fun h13 => ?_)
  · rw [if_pos ⟨sWi_1 h4, sWi_1 h13⟩, hrn] at hF
    obtain ⟨t, ht, et⟩ := swN_wi (n := 200) (by decide) h4
    subst et
    rw [nI_clamp (by omega)] at hF
    have K35 : ∀ (w i : Nat) (mi : gMem) (o6 o7 o8 : Option Value), i + w = r → scr x m mi → (gJ E yX6_swap cX6_swap 9 (some .int) (gRm 5 0 0) F 35 ([some (.ref x), some (.int (nI t)), some (.int k), some (.int (swO (pgC m (x + 1)) t r i).1), some (.int (swO (pgC m (x + 1)) t r i).2), some (.int (nI i)), o6, o7, o8]) ([]) 0 0 σ (mi) hi) := by
      intro w
      induction w with
      | zero =>
        intro i mi o6 o7 o8 hiw hsc
        have hir : i = r := by omega
        subst hir
        refine j_iload (q := 37) dX6_swap_35 rfl (by rfl) ?_
        refine j_aload_n (q := 38) dX6_swap_37 rfl (by rfl) ?_
        refine j_getr (q := 41) dX6_swap_38 rfl fX6_10 (by assumption) (by rfl) ?_
        refine j_geti (q := 44) dX6_swap_41 rfl fX6_103 (by assumption) (by rfl) ?_
        rw [pg_4, hsc.n, e1]
        refine j_icmp_ge (q := 47) (tgt := 121) dX6_swap_44 rfl (by decide) (fun h44 => ?_) (fun h44 => ?_)
        · refine j_iload_n (q := 122) dX6_swap_121 rfl (by rfl) ?_
          refine j_bipush (q := 124) (v := (-4)) dX6_swap_122 rfl (by decide) ?_
          refine j_icmp_eq (q := 127) (tgt := 131) dX6_swap_124 rfl (by decide) (fun h124 => ?_) (fun h124 => ?_)
          · refine j_iload_n (q := 132) dX6_swap_131 rfl (by rfl) ?_
            refine j_goto (tgt := 137) dX6_swap_132 (by decide) ?_
            refine o_iret hF rfl dX6_swap_137 ?_
            rw [if_pos (Or.inl h124)]
            exact ⟨rfl, hsc⟩
          · refine j_iload_n (q := 128) dX6_swap_127 rfl (by rfl) ?_
            refine j_if_ne (q := 131) (tgt := 135) dX6_swap_128 rfl (by decide) (fun h128 => ?_) (fun h128 => ?_)
            · refine j_iload (q := 137) dX6_swap_135 rfl (by rfl) ?_
              refine o_iret hF rfl dX6_swap_137 ?_
              rw [if_neg (fun h => h.elim h124 h128)]
              exact ⟨rfl, hsc⟩
            · refine j_iload_n (q := 132) dX6_swap_131 rfl (by rfl) ?_
              refine j_goto (tgt := 137) dX6_swap_132 (by decide) ?_
              refine o_iret hF rfl dX6_swap_137 ?_
              rw [if_pos (Or.inr (by first | exact h128 | exact Decidable.not_not.mp h128))]
              exact ⟨rfl, hsc⟩
        · exact absurd (Int32.le_refl _) h44
      | succ w ih =>
        intro i mi o6 o7 o8 hiw hsc
        have hilt : i < r := by omega
        have K53 : ∀ (u b : Nat) (mi : gMem) (o7 o8 : Option Value), b + u = r - (i + 1) → scr x m mi → (gJ E yX6_swap cX6_swap 9 (some .int) (gRm 5 0 0) F 53 ([some (.ref x), some (.int (nI t)), some (.int k), some (.int (swI (pgC m (x + 1)) t i (swO (pgC m (x + 1)) t r i) b).1), some (.int (swI (pgC m (x + 1)) t i (swO (pgC m (x + 1)) t r i) b).2), some (.int (nI i)), some (.int (nI (i + 1 + b))), o7, o8]) ([]) 0 0 σ (mi) hi) := by
          intro u
          induction u with
          | zero =>
            intro b mi o7 o8 hb hsc
            refine j_iload (q := 55) dX6_swap_53 rfl (by rfl) ?_
            refine j_aload_n (q := 56) dX6_swap_55 rfl (by rfl) ?_
            refine j_getr (q := 59) dX6_swap_56 rfl fX6_10 (by assumption) (by rfl) ?_
            refine j_geti (q := 62) dX6_swap_59 rfl fX6_103 (by assumption) (by rfl) ?_
            rw [pg_4, hsc.n, e1]
            refine j_icmp_ge (q := 65) (tgt := 115) dX6_swap_62 rfl (by decide) (fun h62 => ?_) (fun h62 => ?_)
            · refine j_iinc (q := 118) dX6_swap_115 rfl (by rfl) (by first | exact nI_inc _ | rfl) (by decide) ?_
              refine j_goto (tgt := 35) dX6_swap_118 (by decide) ?_
              have := ih (i + 1) mi (some (.int (nI (i + 1 + b)))) o7 o8 (by omega) hsc
              rw [swO, show r - (i + 1) = b by omega] at this
              exact this
            · exact absurd (nI_le (by omega) (by omega)) h62
          | succ u ihu =>
            intro b mi o7 o8 hb hsc
            have hok := hsc.ok ho
            have hv := bec_veq (pgC m (x + 1)) (pgC mi (x + 9))
            refine j_iload (q := 55) dX6_swap_53 rfl (by rfl) ?_
            refine j_aload_n (q := 56) dX6_swap_55 rfl (by rfl) ?_
            refine j_getr (q := 59) dX6_swap_56 rfl fX6_10 (by assumption) (by rfl) ?_
            refine j_geti (q := 62) dX6_swap_59 rfl fX6_103 (by assumption) (by rfl) ?_
            rw [pg_4, hsc.n, e1]
            refine j_icmp_ge (q := 65) (tgt := 115) dX6_swap_62 rfl (by decide) (fun h62 => ?_) (fun h62 => ?_)
            · exact absurd h62 (nI_ge (by omega) (by omega))
            · refine j_aload_n (q := 66) dX6_swap_65 rfl (by rfl) ?_
              refine o_callVa (q := 69) dX6_swap_66 rfl lX6_177 mwX6_afresh mvX6_afresh cn6 (by assumption) (by rfl) rfl (Nat.le_of_ble_eq_true (by rfl)) (by decide) (cX_afresh E σ mi hi x hN hok) ?_
              refine j_astore (q := 71) dX6_swap_69 rfl (by decide) ?_
              refine j_aload (q := 73) dX6_swap_71 rfl (by rfl) ?_
              refine j_iload (q := 75) dX6_swap_73 rfl (by rfl) ?_
              refine j_iload (q := 77) dX6_swap_75 rfl (by rfl) ?_
              have hE := cG_exchange E σ (frM mi x) hi (x + 9) r i (i + 1 + b) hN.2.2.1 (by rw [frM_pg, hsc.n, hv.a49]; exact e1) e2 (by omega) (by omega)
              rw [frM_pg, hsc.n] at hE
              refine o_callVv (q := 80) dX6_swap_77 rfl lX6_227 mwX0_exchange mvX0_exchange cn0 (by assumption) (by rfl) rfl (Nat.le_of_ble_eq_true (by rfl)) (by decide) (hE) ?_
              have eg : ∀ u' : Nat → Int32, gP (frM mi x) (x + 9) u' = gP mi (x + 9) u' := fun u' => by unfold frM; rw [gP_gP]
              rw [eg]
              have hp0 : pg0 (swp (bec (pgC m (x + 1)) (pgC mi (x + 9))) i (i + 1 + b)) := swp_0 (bec_0 (pgC_0 mi (x + 9))) (by omega) (by omega)
              have ep : pgC (gP mi (x + 9) (swp (bec (pgC m (x + 1)) (pgC mi (x + 9))) i (i + 1 + b))) (x + 9) = swp (bec (pgC m (x + 1)) (pgC mi (x + 9))) i (i + 1 + b) := pgC_gP hp0 _ _
              have hU := cG_tally E σ (gP mi (x + 9) (swp (bec (pgC m (x + 1)) (pgC mi (x + 9))) i (i + 1 + b))) hi (x + 9) t 9999 1 (by decide) hN.2.2.1 (by rw [ep]; exact (ho.1.v hv).sw (by omega) (by omega)) (by rw [ep]; exact (ho.2.v hv).sw (by omega) (by omega)) (by omega)
              rw [ep, gP_gP, talN_veq (hv.sw (by omega) (by omega) (by omega)) (ho.1.sw (by omega) (by omega)) (ho.2.sw (by omega) (by omega))] at hU
              refine j_aload (q := 82) dX6_swap_80 rfl (by rfl) ?_
              refine j_iload_n (q := 83) dX6_swap_82 rfl (by rfl) ?_
              refine j_iconst (q := 84) (v := 1) dX6_swap_83 rfl (by decide) ?_
              refine o_callVi (q := 87) dX6_swap_84 rfl lX6_181 mwX0_tally mvX0_tally cn0 (by assumption) (by rfl) rfl (Nat.le_of_ble_eq_true (by rfl)) (by decide) (hU) ?_
              have hsc2 : scr x m (gP mi (x + 9) (plN (swp (bec (pgC m (x + 1)) (pgC mi (x + 9))) i (i + 1 + b)) t)) := hsc.t _
              refine j_istore (q := 89) dX6_swap_87 rfl (by decide) ?_
              refine j_iload (q := 91) dX6_swap_89 rfl (by rfl) ?_
              refine j_iload (q := 93) dX6_swap_91 rfl (by rfl) ?_
              refine j_icmp_le (q := 96) (tgt := 109) dX6_swap_93 rfl (by decide) (fun h93 => ?_) (fun h93 => ?_)
              · have hb1 : swI (pgC m (x + 1)) t i (swO (pgC m (x + 1)) t r i) (b + 1) = swI (pgC m (x + 1)) t i (swO (pgC m (x + 1)) t r i) b := by
                  rw [swI]
                  exact if_neg (Int32.not_lt.mpr h93)
                refine j_iinc (q := 112) dX6_swap_109 rfl (by rfl) (by first | exact nI_inc _ | rfl) (by decide) ?_
                refine j_goto (tgt := 53) dX6_swap_112 (by decide) ?_
                have := ihu (b + 1) _ (some (.ref (x + 9))) (some (.int (talN (swp (pgC m (x + 1)) i (i + 1 + b)) t 1))) (by omega) hsc2
                rw [hb1] at this
                exact this
              · have hb1 : swI (pgC m (x + 1)) t i (swO (pgC m (x + 1)) t r i) (b + 1) = (100 * nI i + nI (i + 1 + b), talN (swp (pgC m (x + 1)) i (i + 1 + b)) t 1) := by
                  rw [swI]
                  exact if_pos (Int32.not_le.mp h93)
                refine j_iload (q := 98) dX6_swap_96 rfl (by rfl) ?_
                refine j_istore (q := 100) dX6_swap_98 rfl (by decide) ?_
                refine j_bipush (q := 102) (v := 100) dX6_swap_100 rfl (by decide) ?_
                refine j_iload (q := 104) dX6_swap_102 rfl (by rfl) ?_
                refine j_imul (q := 105) dX6_swap_104 rfl ?_
                refine j_iload (q := 107) dX6_swap_105 rfl (by rfl) ?_
                refine j_iadd (q := 108) dX6_swap_107 rfl ?_
                refine j_istore_n (q := 109) dX6_swap_108 rfl (by decide) ?_
                refine j_iinc (q := 112) dX6_swap_109 rfl (by rfl) (by first | exact nI_inc _ | rfl) (by decide) ?_
                refine j_goto (tgt := 53) dX6_swap_112 (by decide) ?_
                have := ihu (b + 1) _ (some (.ref (x + 9))) (some (.int (talN (swp (pgC m (x + 1)) i (i + 1 + b)) t 1))) (by omega) hsc2
                rw [hb1] at this
                exact this
        refine j_iload (q := 37) dX6_swap_35 rfl (by rfl) ?_
        refine j_aload_n (q := 38) dX6_swap_37 rfl (by rfl) ?_
        refine j_getr (q := 41) dX6_swap_38 rfl fX6_10 (by assumption) (by rfl) ?_
        refine j_geti (q := 44) dX6_swap_41 rfl fX6_103 (by assumption) (by rfl) ?_
        rw [pg_4, hsc.n, e1]
        refine j_icmp_ge (q := 47) (tgt := 121) dX6_swap_44 rfl (by decide) (fun h44 => ?_) (fun h44 => ?_)
        · exact absurd h44 (nI_ge hilt (by omega))
        · refine j_iload (q := 49) dX6_swap_47 rfl (by rfl) ?_
          refine j_iconst (q := 50) (v := 1) dX6_swap_49 rfl (by decide) ?_
          refine j_iadd (q := 51) dX6_swap_50 rfl ?_
          rw [nI_1]
          refine j_istore (q := 53) dX6_swap_51 rfl (by decide) ?_
          exact K53 (r - (i + 1)) 0 mi o7 o8 (by omega) hsc
    have hv := bec_veq (pgC m (x + 1)) (pgC m (x + 9))
    refine j_bipush (q := 20) (v := (-4)) dX6_swap_18 rfl (by decide) ?_
    refine j_istore_n (q := 21) dX6_swap_20 rfl (by decide) ?_
    refine j_aload_n (q := 22) dX6_swap_21 rfl (by rfl) ?_
    refine o_callVa (q := 25) dX6_swap_22 rfl lX6_177 mwX6_afresh mvX6_afresh cn6 (by assumption) (by rfl) rfl (Nat.le_of_ble_eq_true (by rfl)) (by decide) (cX_afresh E σ m hi x hN ho) ?_
    refine j_iload_n (q := 26) dX6_swap_25 rfl (by rfl) ?_
    refine j_iconst (q := 27) (v := 1) dX6_swap_26 rfl (by decide) ?_
    have hU := cG_tally E σ (frM m x) hi (x + 9) t 9999 1 (by decide) hN.2.2.1 (by rw [frM_pg]; exact ho.1.v hv) (by rw [frM_pg]; exact ho.2.v hv) (by omega)
    rw [frM_pg, talN_veq hv ho.1 ho.2] at hU
    refine o_callVi (q := 30) dX6_swap_27 rfl lX6_181 mwX0_tally mvX0_tally cn0 (by assumption) (by rfl) rfl (Nat.le_of_ble_eq_true (by rfl)) (by decide) (hU) ?_
    refine j_istore (q := 32) dX6_swap_30 rfl (by decide) ?_
    refine j_iconst (q := 33) (v := 0) dX6_swap_32 rfl (by decide) ?_
    refine j_istore (q := 35) dX6_swap_33 rfl (by decide) ?_
    exact K35 r 0 _ _ _ _ (by omega) (((scr.rf x m).t _).t _)
  · refine j_iconst (q := 17) (v := (-1)) dX6_swap_16 rfl (by decide) ?_
    refine o_iret hF rfl dX6_swap_17 ?_
    rw [if_neg (fun h => sWi_0 h13 h.2)]
    exact ⟨rfl, scr.rf x m⟩
def sG (s : Int32) : Int32 := s * 1103515245 + 12345
def sGot (s : Int32) : Int32 := (s.toUInt32 >>> (Int32.toUInt32 16 &&& Int32.toUInt32 31)).toInt32 &&& 32767
def sW10 (s : Int32) : Int32 := sGot s - sGot s / 10 * 10
def snG (s : Int32) : Nat → Int32
  | 0 => s
  | n + 1 => sG (snG s n)
def snP (g : Nat → Int32) (s : Int32) : Nat → Nat → Int32
  | 0 => g
  | n + 1 => hr (snP g s n) (sW10 (snG s (n + 1))) (sWho (snP g s n))
def snU (g : Nat → Int32) (s : Int32) : Nat → Int32
  | 0 => 0
  | n + 1 => snU g s n + sBc (hrU (snP g s n) (sW10 (snG s (n + 1))) (sWho (snP g s n)))
theorem snP_C {g : Nat → Int32} (h : okC g) (s : Int32) : ∀ n, okC (snP g s n)
  | 0 => h
  | n + 1 => (snP_C h s n).hr _ _
theorem snP_B {g : Nat → Int32} {b : Nat} (h : okB g b) (s : Int32) : ∀ n, okB (snP g s n) (b + n)
  | 0 => h
  | n + 1 => (snP_B h s n).hr _ _
theorem snP_0 {g : Nat → Int32} (h : pg0 g) (s : Int32) : ∀ n, pg0 (snP g s n)
  | 0 => h
  | n + 1 => hr_0 (snP_0 h s n) _ _
theorem snP_veq {g g' : Nat → Int32} {b : Nat} (h : veq g g') (hc : okC g) (ho : okB g b) (s : Int32) : ∀ n, veq (snP g s n) (snP g' s n)
  | 0 => h
  | n + 1 => by
    have ih := snP_veq h hc ho s n
    rw [snP, snP, sWho_veq ih (snP_B ho s n)]
    exact hr_veq ih (snP_C hc s n) _ _
theorem snU_veq {g g' : Nat → Int32} {b : Nat} (h : veq g g') (hc : okC g) (ho : okB g b) (s : Int32) : ∀ n, snU g' s n = snU g s n
  | 0 => rfl
  | n + 1 => by
    have ih := snP_veq h hc ho s n
    rw [snU, snU, snU_veq h hc ho s n, sWho_veq ih (snP_B ho s n), hrU_veq ih (snP_C hc s n)]
def xSeason (g : Nat → Int32) (s n k : Int32) : Int32 := if (1 ≤ n ∧ n ≤ 200) ∧ (0 ≤ k ∧ k ≤ 1) then (if g 24 = 0 then -2 else if k = 0 then snU g s n.toNatClampNeg else sumP (snP g s n.toNatClampNeg) 4) else -1
theorem cX_season (E : gEv) (σ : gSg) (m : gMem) (hi x : Nat) (s n k : Int32) (hN : gN σ x) (ho : okN m x) : gCo E yX6_season cX6_season 9 (some .int) 4 [.ref x, .int s, .int n, .int k] σ m hi (fun v' m' => v' = some (.int (xSeason (pgC m (x + 1)) s n k)) ∧ scr x m m') := by
  refine gCo.of mwX6_season (Nat.le_of_ble_eq_true rfl) ?_
  intro F hF
  have hx := hN.1
  have h1 := hN.2.1.1
  have h9 := hN.2.2.1.1
  have hv := bec_veq (pgC m (x + 1)) (pgC m (x + 9))
  have h10 : ¬ (10 : Int32) = 0 := by decide
  unfold xSeason at hF
  refine j_iload_n (q := 1) dX6_season_0 rfl (by rfl) ?_
  refine j_iconst (q := 2) (v := 1) dX6_season_1 rfl (by decide) ?_
  refine j_sipush (q := 5) (v := 200) dX6_season_2 rfl (by decide) ?_
  refine o_callSi (q := 8) dX6_season_5 rfl lX6_66 mwX6_within msX6_within (by rfl) rfl (Nat.le_of_ble_eq_true (by rfl)) (by decide) (cX_within E σ m hi _ _ _) ?_
  refine j_if_eq (q := 11) (tgt := 20) dX6_season_8 rfl (by decide) (fun h8 => ?_) (fun h8 => ?_)
  · refine j_iconst (q := 21) (v := (-1)) dX6_season_20 rfl (by decide) ?_
    refine o_iret hF rfl dX6_season_21 ?_
    rw [if_neg (fun h => sWi_0 h8 h.1)]
    exact ⟨rfl, scr.rf x m⟩
  refine j_iload_n (q := 12) dX6_season_11 rfl (by rfl) ?_
  refine j_iconst (q := 13) (v := 0) dX6_season_12 rfl (by decide) ?_
  refine j_iconst (q := 14) (v := 1) dX6_season_13 rfl (by decide) ?_
  refine o_callSi (q := 17) dX6_season_14 rfl lX6_66 mwX6_within msX6_within (by rfl) rfl (Nat.le_of_ble_eq_true (by rfl)) (by decide) (cX_within E σ m hi _ _ _) ?_
  refine j_if_ne (q := 20) (tgt := 22) dX6_season_17 rfl (by decide) (fun h17 => ?_) (fun h17 => ?_)
  · rw [if_pos ⟨sWi_1 h8, sWi_1 h17⟩] at hF
    have hn200 : ¬ sWi n 0 200 = 0 := by
      intro e
      have hh := sWi_1 h8
      exact sWi_0 e ⟨Int32.le_trans (by decide) hh.1, hh.2⟩
    obtain ⟨t, ht, et⟩ := swN_wi (n := 200) (by decide) hn200
    subst et
    rw [nI_clamp (by omega)] at hF
    refine j_aload_n (q := 23) dX6_season_22 rfl (by rfl) ?_
    refine j_getr (q := 26) dX6_season_23 rfl fX6_10 (by assumption) (by rfl) ?_
    refine j_geti (q := 29) dX6_season_26 rfl fX6_100 (by assumption) (by rfl) ?_
    rw [pg_3]
    refine j_if_ne (q := 32) (tgt := 35) dX6_season_29 rfl (by decide) (fun h29 => ?_) (fun h29 => ?_)
    · rw [if_neg h29] at hF
      generalize hT : bec (pgC m (x + 1)) (pgC m (x + 9)) = T at hv
      have hT0 : pg0 T := by rw [← hT]; exact bec_0 (pgC_0 m (x + 9))
      have hTc : okC T := ho.1.v hv
      have hTb : okB T 9999 := ho.2.v hv
      have ep : ∀ i, pgC (gP m (x + 9) (snP T s i)) (x + 9) = snP T s i := fun i => pgC_gP (snP_0 hT0 s i) _ _
      have K50 : ∀ (w i : Nat) (o8 : Option Value), i + w = t → (gJ E yX6_season cX6_season 9 (some .int) (gRm 4 0 0) F 50 ([some (.ref x), some (.int s), some (.int (nI t)), some (.int k), some (.ref (x + 9)), some (.int (snG s i)), some (.int (snU T s i)), some (.int (nI i)), o8]) ([]) 0 0 σ (gP m (x + 9) (snP T s i)) hi) := by
        intro w
        induction w with
        | zero =>
          intro i o8 hiw
          have hit : i = t := by omega
          subst hit
          refine j_iload (q := 52) dX6_season_50 rfl (by rfl) ?_
          refine j_iload_n (q := 53) dX6_season_52 rfl (by rfl) ?_
          refine j_icmp_ge (q := 56) (tgt := 108) dX6_season_53 rfl (by decide) (fun h53 => ?_) (fun h53 => ?_)
          · refine j_iload_n (q := 109) dX6_season_108 rfl (by rfl) ?_
            refine j_if_ne (q := 112) (tgt := 117) dX6_season_109 rfl (by decide) (fun h109 => ?_) (fun h109 => ?_)
            · have hS := cG_sumOf E σ (gP m (x + 9) (snP T s i)) hi (x + 9) 4 (by decide) hN.2.2.1 (by rw [ep]; exact snP_C hTc s i)
              rw [ep, sumP_veq (snP_veq hv ho.1 ho.2 s i) (snP_C ho.1 s i) (by decide)] at hS
              refine j_aload (q := 119) dX6_season_117 rfl (by rfl) ?_
              refine j_iconst (q := 120) (v := 4) dX6_season_119 rfl (by decide) ?_
              refine o_callVi (q := 123) dX6_season_120 rfl lX6_115 mwX0_sumOf mvX0_sumOf cn0 (by assumption) (by rfl) rfl (Nat.le_of_ble_eq_true (by rfl)) (by decide) (hS) ?_
              refine o_iret hF rfl dX6_season_123 ?_
              rw [if_neg h109]
              exact ⟨rfl, (scr.rf x m).t _⟩
            · refine j_iload (q := 114) dX6_season_112 rfl (by rfl) ?_
              refine j_goto (tgt := 123) dX6_season_114 (by decide) ?_
              refine o_iret hF rfl dX6_season_123 ?_
              rw [if_pos (by first | exact h109 | exact Decidable.not_not.mp h109), snU_veq hv ho.1 ho.2]
              exact ⟨rfl, (scr.rf x m).t _⟩
          · exact absurd (Int32.le_refl _) h53
        | succ w ih =>
          intro i o8 hiw
          refine j_iload (q := 52) dX6_season_50 rfl (by rfl) ?_
          refine j_iload_n (q := 53) dX6_season_52 rfl (by rfl) ?_
          refine j_icmp_ge (q := 56) (tgt := 108) dX6_season_53 rfl (by decide) (fun h53 => ?_) (fun h53 => ?_)
          · exact absurd h53 (nI_ge (by omega) (by omega))
          · have hCo := cG_companyNow E σ (gP m (x + 9) (snP T s i)) hi (x + 9) hN.2.2.1 (by rw [ep]; exact (snP_B hTb s i).r (by omega))
            rw [ep] at hCo
            have hPa := cG_pass E σ (gP m (x + 9) (snP T s i)) hi (x + 9) (sW10 (snG s (i + 1))) (sWho (snP T s i)) hN.2.2.1 (by rw [ep]; exact snP_C hTc s i)
            rw [ep, gP_gP] at hPa
            refine j_iload (q := 58) dX6_season_56 rfl (by rfl) ?_
            refine j_ldcw (q := 61) dX6_season_58 rfl kX6_291 ?_
            refine j_imul (q := 62) dX6_season_61 rfl ?_
            refine j_sipush (q := 65) (v := 12345) dX6_season_62 rfl (by decide) ?_
            refine j_iadd (q := 66) dX6_season_65 rfl ?_
            refine j_istore (q := 68) dX6_season_66 rfl (by decide) ?_
            refine j_iload (q := 70) dX6_season_68 rfl (by rfl) ?_
            refine j_bipush (q := 72) (v := 16) dX6_season_70 rfl (by decide) ?_
            refine j_iushr (q := 73) dX6_season_72 rfl ?_
            refine j_sipush (q := 76) (v := 32767) dX6_season_73 rfl (by decide) ?_
            refine j_iand (q := 77) dX6_season_76 rfl ?_
            refine j_istore (q := 79) dX6_season_77 rfl (by decide) ?_
            refine j_iload (q := 81) dX6_season_79 rfl (by rfl) ?_
            refine j_aload (q := 83) dX6_season_81 rfl (by rfl) ?_
            refine j_iload (q := 85) dX6_season_83 rfl (by rfl) ?_
            refine j_bipush (q := 87) (v := 10) dX6_season_85 rfl (by decide) ?_
            refine j_irem (q := 88) dX6_season_87 rfl (by assumption) ?_
            refine j_aload (q := 90) dX6_season_88 rfl (by rfl) ?_
            refine o_callVi (q := 93) dX6_season_90 rfl lX6_123 mwX0_companyNow mvX0_companyNow cn0 (by assumption) (by rfl) rfl (Nat.le_of_ble_eq_true (by rfl)) (by decide) (hCo) ?_
            refine o_callVi (q := 96) dX6_season_93 rfl lX6_214 mwX0_pass mvX0_pass cn0 (by assumption) (by rfl) rfl (Nat.le_of_ble_eq_true (by rfl)) (by decide) (hPa) ?_
            refine o_callSi (q := 99) dX6_season_96 rfl lX6_217 mwJ6_bitCount_0f7a4 msJ6_bitCount_0f7a4 (by rfl) rfl (Nat.le_of_ble_eq_true (by rfl)) (by decide) (cJ_bitCount E σ _ hi _) ?_
            refine j_iadd (q := 100) dX6_season_99 rfl ?_
            refine j_istore (q := 102) dX6_season_100 rfl (by decide) ?_
            refine j_iinc (q := 105) dX6_season_102 rfl (by rfl) (by first | exact nI_inc _ | rfl) (by decide) ?_
            refine j_goto (tgt := 50) dX6_season_105 (by decide) ?_
            exact ih (i + 1) (some (.int (sGot (snG s (i + 1))))) (by omega)
      refine j_aload_n (q := 36) dX6_season_35 rfl (by rfl) ?_
      refine o_callVa (q := 39) dX6_season_36 rfl lX6_177 mwX6_afresh mvX6_afresh cn6 (by assumption) (by rfl) rfl (Nat.le_of_ble_eq_true (by rfl)) (by decide) (cX_afresh E σ m hi x hN ho) ?_
      refine j_astore (q := 41) dX6_season_39 rfl (by decide) ?_
      refine j_iload_n (q := 42) dX6_season_41 rfl (by rfl) ?_
      refine j_istore (q := 44) dX6_season_42 rfl (by decide) ?_
      refine j_iconst (q := 45) (v := 0) dX6_season_44 rfl (by decide) ?_
      refine j_istore (q := 47) dX6_season_45 rfl (by decide) ?_
      refine j_iconst (q := 48) (v := 0) dX6_season_47 rfl (by decide) ?_
      refine j_istore (q := 50) dX6_season_48 rfl (by decide) ?_
      refine gJ.mm ?_ (K50 t 0 _ (by omega))
      unfold frM
      rw [hT]
      rfl
    · rw [if_pos (by first | exact h29 | exact Decidable.not_not.mp h29)] at hF
      refine j_bipush (q := 34) (v := (-2)) dX6_season_32 rfl (by decide) ?_
      refine o_iret hF rfl dX6_season_34 ?_
      exact ⟨rfl, scr.rf x m⟩
  · refine j_iconst (q := 21) (v := (-1)) dX6_season_20 rfl (by decide) ?_
    refine o_iret hF rfl dX6_season_21 ?_
    rw [if_neg (fun h => sWi_0 h17 h.2)]
    exact ⟨rfl, scr.rf x m⟩
