/-! the reference: what a line tells -/
theorem gW_ro (m : gMem) (a k : Nat) (v : Int32) : (gW m a k v).1 a = upd (m.1 a) k v := by
  funext r
  rw [gW_1]
  by_cases h : r = k
  · subst h; rw [if_pos ⟨rfl, rfl⟩, pk_us]
  · rw [if_neg (fun q => h q.2), pk_un h]
theorem gW_rn {m : gMem} {a k q : Nat} {v : Int32} (h : q ≠ a) : (gW m a k v).1 q = m.1 q := funext fun r => gW_n (fun z => h z.1)
theorem opn_veq {g T : Nat → Int32} (h : veq g T) {c : Nat} (hg : g 24 = nI c) (hc : c < 4) (a b u : Int32) : veq (opn g c a b u) (opn T c a b u) := by
  have h24 : cnt (opn g c a b u) = c + 1 := by unfold cnt; rw [opn_24, hg, nI_1, nI_clamp (by omega)]
  have hcg : cnt g = c := by unfold cnt; rw [hg, nI_clamp (by omega)]
  have hrr : rws (opn g c a b u) = rws g := by unfold rws; rw [opn_49 g hc]
  have key : ∀ (G : Nat → Int32) (i : Nat), opn G c a b u i = if i = 24 then G 24 + 1 else if i = 4 * 5 + c then 0 else if i = 4 * 4 + c then 0 else if i = 4 * 3 + c then 0 else if i = 4 * 2 + c then u else if i = 4 * 1 + c then b else if i = 4 * 0 + c then a else G i := fun G i => rfl
  intro i hi
  rw [key, key]
  by_cases e24 : i = 24
  · rw [if_pos e24, if_pos e24, h.a24]
  rw [if_neg e24, if_neg e24]
  by_cases q5 : i = 4 * 5 + c
  · rw [if_pos q5, if_pos q5]
  rw [if_neg q5, if_neg q5]
  by_cases q4 : i = 4 * 4 + c
  · rw [if_pos q4, if_pos q4]
  rw [if_neg q4, if_neg q4]
  by_cases q3 : i = 4 * 3 + c
  · rw [if_pos q3, if_pos q3]
  rw [if_neg q3, if_neg q3]
  by_cases q2 : i = 4 * 2 + c
  · rw [if_pos q2, if_pos q2]
  rw [if_neg q2, if_neg q2]
  by_cases q1 : i = 4 * 1 + c
  · rw [if_pos q1, if_pos q1]
  rw [if_neg q1, if_neg q1]
  by_cases q0 : i = 4 * 0 + c
  · rw [if_pos q0, if_pos q0]
  rw [if_neg q0, if_neg q0]
  refine h i ?_
  unfold vis at hi ⊢
  rw [h24, hrr] at hi
  rw [hcg]
  omega
def rmP (t : Nat) (m : gMem) (Rw : Nat → Int32) (R : pT) (m' : gMem) : Prop := (∀ q, q ≠ t → q ≠ t + 2 → m'.1 q = m.1 q) ∧ (∀ k, ¬ (7 ≤ k ∧ k ≤ 12) → m'.1 t k = m.1 t k) ∧ m'.1 (t + 2) = Rw ∧ RSR (m'.1 t) R
theorem okTR.w2 {t L : Nat} {m : gMem} (h : okTR m t L) (k : Nat) (v : Int32) : okTR (gW m (t + 2) k v) t L := by
  unfold okTR
  rw [gW_rn (by omega), gW_rn (by omega)]
  exact h
theorem cM_readMoreV (E : gEv) (σ : gSg) (m : gMem) (hi t L n c : Nat) (R : pT) (hR : gR σ t) (hT : okTR m t L) (hS : RSR (m.1 t) R) (hk : okTk L R) (hn : n ≤ 3) (hc : m.1 (t + 2) 24 = nI c) (hc4 : c < 4) : gCo E yX7_readMore cX7_readMore 3 (none) 3 [.ref t, .int (nI n)] σ m hi (fun v' m' => v' = none ∧ rmP t m (upd (upd (upd (upd (m.1 (t + 2)) c (nI n)) (4 + c) (numV 1 60 R)) (8 + c) (numV 0 9 (numR (m.1 (t + 3)) L 1 60 R))) 24 (nI (c + 1))) (numR (m.1 (t + 3)) L 0 9 (numR (m.1 (t + 3)) L 1 60 R)) m') := by
  refine gCo.of mwX7_readMore (Nat.le_of_ble_eq_true rfl) ?_
  intro F hF
  have h0 := hR.1
  have h2 := hR.2.2.1
  have i24 : gIdx 24 53 24 := gIdx.of rfl (by decide) (by decide)
  have ic : gIdx (nI c) 53 c := gIdx.of rfl (by omega) (by decide)
  have i4 : gIdx (4 + nI c) 53 (4 + c) := gIdx.of (nI_add 4 c) (by omega) (by decide)
  have i8 : gIdx (8 + nI c) 53 (8 + c) := gIdx.of (nI_add 8 c) (by omega) (by decide)
  have e3 : ∀ (mm : gMem) (k : Nat) (v : Int32), (gW mm (t + 2) k v).1 (t + 3) = mm.1 (t + 3) := fun mm k v => gW_rn (by omega)
  have e0 : ∀ (mm : gMem) (k : Nat) (v : Int32), (gW mm (t + 2) k v).1 t = mm.1 t := fun mm k v => gW_rn (by omega)
  refine j_iload_n (q := 1) dX7_readMore_0 rfl (by rfl) ?_
  refine j_iconst (q := 2) (v := 3) dX7_readMore_1 rfl (by decide) ?_
  refine j_icmp_gt (q := 5) (tgt := 65) dX7_readMore_2 rfl (by decide) (fun h2' => ?_) (fun h2' => ?_)
  · exact absurd h2' (nI_nlt (a := 3) (b := n) (by omega) (by omega))
  refine j_aload_n (q := 6) dX7_readMore_5 rfl (by rfl) ?_
  refine j_getr (q := 9) dX7_readMore_6 rfl fX7_13 (by first | with_reducible assumption | assumption) (by rfl) ?_
  refine j_bipush (q := 11) (v := 24) dX7_readMore_9 rfl (by decide) ?_
  refine j_iaload (q := 12) dX7_readMore_11 rfl (by first | with_reducible assumption | assumption) (by first | with_reducible assumption | assumption) ?_
  rw [hc]
  refine j_istore_n (q := 13) dX7_readMore_12 rfl (by decide) ?_
  refine j_aload_n (q := 14) dX7_readMore_13 rfl (by rfl) ?_
  refine j_getr (q := 17) dX7_readMore_14 rfl fX7_13 (by first | with_reducible assumption | assumption) (by rfl) ?_
  refine j_iload_n (q := 18) dX7_readMore_17 rfl (by rfl) ?_
  refine j_iload_n (q := 19) dX7_readMore_18 rfl (by rfl) ?_
  refine j_iastore (q := 20) dX7_readMore_19 rfl (by first | with_reducible assumption | assumption) (by first | with_reducible assumption | assumption) ?_
  refine j_aload_n (q := 21) dX7_readMore_20 rfl (by rfl) ?_
  refine j_getr (q := 24) dX7_readMore_21 rfl fX7_13 (by first | with_reducible assumption | assumption) (by rfl) ?_
  refine j_iconst (q := 25) (v := 4) dX7_readMore_24 rfl (by decide) ?_
  refine j_iload_n (q := 26) dX7_readMore_25 rfl (by rfl) ?_
  refine j_iadd (q := 27) dX7_readMore_26 rfl ?_
  refine j_aload_n (q := 28) dX7_readMore_27 rfl (by rfl) ?_
  refine j_iconst (q := 29) (v := 1) dX7_readMore_28 rfl (by decide) ?_
  refine j_bipush (q := 31) (v := 60) dX7_readMore_29 rfl (by decide) ?_
  refine o_callVx (q := 34) dX7_readMore_31 rfl lX7_100 mwX7_number mvX7_number cn7 (by assumption) (by rfl) rfl (Nat.le_of_ble_eq_true (by rfl)) (by first | decide | omega) (cM_number E σ (gW m (t + 2) c (nI n)) hi t L 1 60 R hR (hT.w2 _ _) (by rw [e0]; exact hS) hk) ?_
  rintro _ m1 ⟨rfl, d1, s1⟩
  rw [e3] at s1
  have hk1 : okTk L (numR (m.1 (t + 3)) L 1 60 R) := numR_ok _ _ hk
  refine j_iastore (q := 35) dX7_readMore_34 rfl (by first | with_reducible assumption | assumption) (by first | with_reducible assumption | assumption) ?_
  refine j_aload_n (q := 36) dX7_readMore_35 rfl (by rfl) ?_
  refine j_getr (q := 39) dX7_readMore_36 rfl fX7_13 (by first | with_reducible assumption | assumption) (by rfl) ?_
  refine j_bipush (q := 41) (v := 8) dX7_readMore_39 rfl (by decide) ?_
  refine j_iload_n (q := 42) dX7_readMore_41 rfl (by rfl) ?_
  refine j_iadd (q := 43) dX7_readMore_42 rfl ?_
  refine j_aload_n (q := 44) dX7_readMore_43 rfl (by rfl) ?_
  refine j_iconst (q := 45) (v := 0) dX7_readMore_44 rfl (by decide) ?_
  refine j_bipush (q := 47) (v := 9) dX7_readMore_45 rfl (by decide) ?_
  refine o_callVx (q := 50) dX7_readMore_47 rfl lX7_100 mwX7_number mvX7_number cn7 (by assumption) (by rfl) rfl (Nat.le_of_ble_eq_true (by rfl)) (by first | decide | omega) (cM_number E σ (gW m1 (t + 2) (4 + c) (numV 1 60 R)) hi t L 0 9 (numR (m.1 (t + 3)) L 1 60 R) hR (((hT.w2 _ _).q d1).w2 _ _) (by rw [e0]; exact s1) hk1) ?_
  rintro _ m2 ⟨rfl, d2, s2⟩
  rw [e3, d1.n (by omega), e3] at s2
  have er : (gW m2 (t + 2) (8 + c) (numV 0 9 (numR (m.1 (t + 3)) L 1 60 R))).1 (t + 2) = upd (upd (upd (m.1 (t + 2)) c (nI n)) (4 + c) (numV 1 60 R)) (8 + c) (numV 0 9 (numR (m.1 (t + 3)) L 1 60 R)) := by rw [gW_ro, d2.n (by omega), gW_ro, d1.n (by omega), gW_ro]
  have er24 : (gW m2 (t + 2) (8 + c) (numV 0 9 (numR (m.1 (t + 3)) L 1 60 R))).1 (t + 2) 24 = nI c := by rw [er, pk_un (by omega), pk_un (by omega), pk_un (by omega)]; exact hc
  refine j_iastore (q := 51) dX7_readMore_50 rfl (by first | with_reducible assumption | assumption) (by first | with_reducible assumption | assumption) ?_
  refine j_aload_n (q := 52) dX7_readMore_51 rfl (by rfl) ?_
  refine j_getr (q := 55) dX7_readMore_52 rfl fX7_13 (by first | with_reducible assumption | assumption) (by rfl) ?_
  refine j_bipush (q := 57) (v := 24) dX7_readMore_55 rfl (by decide) ?_
  refine j_dup2 (q := 58) dX7_readMore_57 rfl rfl rfl ?_
  refine j_iaload (q := 59) dX7_readMore_58 rfl (by first | with_reducible assumption | assumption) (by first | with_reducible assumption | assumption) ?_
  rw [er24]
  refine j_iconst (q := 60) (v := 1) dX7_readMore_59 rfl (by decide) ?_
  refine j_iadd (q := 61) dX7_readMore_60 rfl ?_
  rw [nI_1]
  refine j_iastore (q := 62) dX7_readMore_61 rfl (by first | with_reducible assumption | assumption) (by first | with_reducible assumption | assumption) ?_
  refine j_goto (tgt := 164) dX7_readMore_62 (by decide) ?_
  refine o_vret hF rfl dX7_readMore_164 ?_
  refine ⟨rfl, fun q a b => ?_, fun k a => ?_, ?_, ?_⟩
  · rw [gW_rn b, gW_rn b, d2.n a, gW_rn b, d1.n a, gW_rn b]
  · rw [e0, e0, d2.k a, e0, d1.k a, e0]
  · rw [gW_ro, er]
  · rw [e0, e0]; exact s2
theorem cM_readMoreF (E : gEv) (σ : gSg) (m : gMem) (hi t L : Nat) (R : pT) (hR : gR σ t) (hT : okTR m t L) (hS : RSR (m.1 t) R) (hk : okTk L R) : gCo E yX7_readMore cX7_readMore 3 (none) 3 [.ref t, .int (nI 4)] σ m hi (fun v' m' => v' = none ∧ rmP t m (upd (m.1 (t + 2)) 50 (numV 0 40 R - 8)) (numR (m.1 (t + 3)) L 0 40 R) m') := by
  refine gCo.of mwX7_readMore (Nat.le_of_ble_eq_true rfl) ?_
  intro F hF
  have h0 := hR.1
  have h2 := hR.2.2.1
  have i50 : gIdx 50 53 50 := gIdx.of rfl (by decide) (by decide)
  have e0 : ∀ (mm : gMem) (k : Nat) (v : Int32), (gW mm (t + 2) k v).1 t = mm.1 t := fun mm k v => gW_rn (by omega)
  refine j_iload_n (q := 1) dX7_readMore_0 rfl (by rfl) ?_
  refine j_iconst (q := 2) (v := 3) dX7_readMore_1 rfl (by decide) ?_
  refine j_icmp_gt (q := 5) (tgt := 65) dX7_readMore_2 rfl (by decide) (fun h2' => ?_) (fun h2' => ?_)
  · refine j_iload_n (q := 66) dX7_readMore_65 rfl (by rfl) ?_
    refine j_iconst (q := 67) (v := 4) dX7_readMore_66 rfl (by decide) ?_
    refine j_icmp_ne (q := 70) (tgt := 90) dX7_readMore_67 rfl (by decide) (fun h67 => ?_) (fun h67 => ?_)
    · exact absurd rfl h67
    refine j_aload_n (q := 71) dX7_readMore_70 rfl (by rfl) ?_
    refine j_getr (q := 74) dX7_readMore_71 rfl fX7_13 (by first | with_reducible assumption | assumption) (by rfl) ?_
    refine j_bipush (q := 76) (v := 50) dX7_readMore_74 rfl (by decide) ?_
    refine j_aload_n (q := 77) dX7_readMore_76 rfl (by rfl) ?_
    refine j_iconst (q := 78) (v := 0) dX7_readMore_77 rfl (by decide) ?_
    refine j_bipush (q := 80) (v := 40) dX7_readMore_78 rfl (by decide) ?_
    refine o_callVx (q := 83) dX7_readMore_80 rfl lX7_100 mwX7_number mvX7_number cn7 (by assumption) (by rfl) rfl (Nat.le_of_ble_eq_true (by rfl)) (by first | decide | omega) (cM_number E σ m hi t L 0 40 R hR hT hS hk) ?_
    rintro _ m1 ⟨rfl, d1, s1⟩
    refine j_bipush (q := 85) (v := 8) dX7_readMore_83 rfl (by decide) ?_
    refine j_isub (q := 86) dX7_readMore_85 rfl ?_
    refine j_iastore (q := 87) dX7_readMore_86 rfl (by first | with_reducible assumption | assumption) (by first | with_reducible assumption | assumption) ?_
    refine j_goto (tgt := 164) dX7_readMore_87 (by decide) ?_
    refine o_vret hF rfl dX7_readMore_164 ?_
    refine ⟨rfl, fun q a b => ?_, fun k a => ?_, ?_, ?_⟩
    · rw [gW_rn b, d1.n a]
    · rw [e0, d1.k a]
    · rw [gW_ro, d1.n (by omega)]
    · rw [e0]; exact s1
  · exact absurd (show (3 : Int32) < nI 4 by decide) h2'
theorem cM_readMoreC (E : gEv) (σ : gSg) (m : gMem) (hi t L : Nat) (R : pT) (hR : gR σ t) (hT : okTR m t L) (hS : RSR (m.1 t) R) (hk : okTk L R) : gCo E yX7_readMore cX7_readMore 3 (none) 3 [.ref t, .int (nI 5)] σ m hi (fun v' m' => v' = none ∧ rmP t m (upd (m.1 (t + 2)) 51 (numV 0 20 R - 4)) (numR (m.1 (t + 3)) L 0 20 R) m') := by
  refine gCo.of mwX7_readMore (Nat.le_of_ble_eq_true rfl) ?_
  intro F hF
  have h0 := hR.1
  have h2 := hR.2.2.1
  have i51 : gIdx 51 53 51 := gIdx.of rfl (by decide) (by decide)
  have e0 : ∀ (mm : gMem) (k : Nat) (v : Int32), (gW mm (t + 2) k v).1 t = mm.1 t := fun mm k v => gW_rn (by omega)
  refine j_iload_n (q := 1) dX7_readMore_0 rfl (by rfl) ?_
  refine j_iconst (q := 2) (v := 3) dX7_readMore_1 rfl (by decide) ?_
  refine j_icmp_gt (q := 5) (tgt := 65) dX7_readMore_2 rfl (by decide) (fun h2' => ?_) (fun h2' => ?_)
  · refine j_iload_n (q := 66) dX7_readMore_65 rfl (by rfl) ?_
    refine j_iconst (q := 67) (v := 4) dX7_readMore_66 rfl (by decide) ?_
    refine j_icmp_ne (q := 70) (tgt := 90) dX7_readMore_67 rfl (by decide) (fun h67 => ?_) (fun h67 => ?_)
    · refine j_iload_n (q := 91) dX7_readMore_90 rfl (by rfl) ?_
      refine j_iconst (q := 92) (v := 5) dX7_readMore_91 rfl (by decide) ?_
      refine j_icmp_ne (q := 95) (tgt := 114) dX7_readMore_92 rfl (by decide) (fun h92 => ?_) (fun h92 => ?_)
      · exact absurd rfl h92
      refine j_aload_n (q := 96) dX7_readMore_95 rfl (by rfl) ?_
      refine j_getr (q := 99) dX7_readMore_96 rfl fX7_13 (by first | with_reducible assumption | assumption) (by rfl) ?_
      refine j_bipush (q := 101) (v := 51) dX7_readMore_99 rfl (by decide) ?_
      refine j_aload_n (q := 102) dX7_readMore_101 rfl (by rfl) ?_
      refine j_iconst (q := 103) (v := 0) dX7_readMore_102 rfl (by decide) ?_
      refine j_bipush (q := 105) (v := 20) dX7_readMore_103 rfl (by decide) ?_
      refine o_callVx (q := 108) dX7_readMore_105 rfl lX7_100 mwX7_number mvX7_number cn7 (by assumption) (by rfl) rfl (Nat.le_of_ble_eq_true (by rfl)) (by first | decide | omega) (cM_number E σ m hi t L 0 20 R hR hT hS hk) ?_
      rintro _ m1 ⟨rfl, d1, s1⟩
      refine j_iconst (q := 109) (v := 4) dX7_readMore_108 rfl (by decide) ?_
      refine j_isub (q := 110) dX7_readMore_109 rfl ?_
      refine j_iastore (q := 111) dX7_readMore_110 rfl (by first | with_reducible assumption | assumption) (by first | with_reducible assumption | assumption) ?_
      refine j_goto (tgt := 164) dX7_readMore_111 (by decide) ?_
      refine o_vret hF rfl dX7_readMore_164 ?_
      refine ⟨rfl, fun q a b => ?_, fun k a => ?_, ?_, ?_⟩
      · rw [gW_rn b, d1.n a]
      · rw [e0, d1.k a]
      · rw [gW_ro, d1.n (by omega)]
      · rw [e0]; exact s1
    · exact absurd (show nI 5 = 4 by first | exact h67 | exact Decidable.not_not.mp h67) (by decide)
  · exact absurd (show (3 : Int32) < nI 5 by decide) h2'
theorem cM_readMoreH (E : gEv) (σ : gSg) (m : gMem) (hi t L c : Nat) (R : pT) (hR : gR σ t) (hT : okTR m t L) (hS : RSR (m.1 t) R) (hk : okTk L R) (hc : m.1 (t + 2) 49 = nI c) (hc4 : c < 12) : gCo E yX7_readMore cX7_readMore 3 (none) 3 [.ref t, .int (nI 6)] σ m hi (fun v' m' => v' = none ∧ rmP t m (upd (upd (upd (m.1 (t + 2)) (25 + c) (numV 0 9 R)) (37 + c) (numV 0 4 (numR (m.1 (t + 3)) L 0 9 R))) 49 (nI (c + 1))) (numR (m.1 (t + 3)) L 0 4 (numR (m.1 (t + 3)) L 0 9 R)) m') := by
  refine gCo.of mwX7_readMore (Nat.le_of_ble_eq_true rfl) ?_
  intro F hF
  have h0 := hR.1
  have h2 := hR.2.2.1
  have i49 : gIdx 49 53 49 := gIdx.of rfl (by decide) (by decide)
  have i25 : gIdx (25 + nI c) 53 (25 + c) := gIdx.of (nI_add 25 c) (by omega) (by decide)
  have i37 : gIdx (37 + nI c) 53 (37 + c) := gIdx.of (nI_add 37 c) (by omega) (by decide)
  have e3 : ∀ (mm : gMem) (k : Nat) (v : Int32), (gW mm (t + 2) k v).1 (t + 3) = mm.1 (t + 3) := fun mm k v => gW_rn (by omega)
  have e0 : ∀ (mm : gMem) (k : Nat) (v : Int32), (gW mm (t + 2) k v).1 t = mm.1 t := fun mm k v => gW_rn (by omega)
  refine j_iload_n (q := 1) dX7_readMore_0 rfl (by rfl) ?_
  refine j_iconst (q := 2) (v := 3) dX7_readMore_1 rfl (by decide) ?_
  refine j_icmp_gt (q := 5) (tgt := 65) dX7_readMore_2 rfl (by decide) (fun h2' => ?_) (fun h2' => ?_)
  · refine j_iload_n (q := 66) dX7_readMore_65 rfl (by rfl) ?_
    refine j_iconst (q := 67) (v := 4) dX7_readMore_66 rfl (by decide) ?_
    refine j_icmp_ne (q := 70) (tgt := 90) dX7_readMore_67 rfl (by decide) (fun h67 => ?_) (fun h67 => ?_)
    · refine j_iload_n (q := 91) dX7_readMore_90 rfl (by rfl) ?_
      refine j_iconst (q := 92) (v := 5) dX7_readMore_91 rfl (by decide) ?_
      refine j_icmp_ne (q := 95) (tgt := 114) dX7_readMore_92 rfl (by decide) (fun h92 => ?_) (fun h92 => ?_)
      · refine j_aload_n (q := 115) dX7_readMore_114 rfl (by rfl) ?_
        refine j_getr (q := 118) dX7_readMore_115 rfl fX7_13 (by first | with_reducible assumption | assumption) (by rfl) ?_
        refine j_bipush (q := 120) (v := 49) dX7_readMore_118 rfl (by decide) ?_
        refine j_iaload (q := 121) dX7_readMore_120 rfl (by first | with_reducible assumption | assumption) (by first | with_reducible assumption | assumption) ?_
        rw [hc]
        refine j_istore_n (q := 122) dX7_readMore_121 rfl (by decide) ?_
        refine j_aload_n (q := 123) dX7_readMore_122 rfl (by rfl) ?_
        refine j_getr (q := 126) dX7_readMore_123 rfl fX7_13 (by first | with_reducible assumption | assumption) (by rfl) ?_
        refine j_bipush (q := 128) (v := 25) dX7_readMore_126 rfl (by decide) ?_
        refine j_iload_n (q := 129) dX7_readMore_128 rfl (by rfl) ?_
        refine j_iadd (q := 130) dX7_readMore_129 rfl ?_
        refine j_aload_n (q := 131) dX7_readMore_130 rfl (by rfl) ?_
        refine j_iconst (q := 132) (v := 0) dX7_readMore_131 rfl (by decide) ?_
        refine j_bipush (q := 134) (v := 9) dX7_readMore_132 rfl (by decide) ?_
        refine o_callVx (q := 137) dX7_readMore_134 rfl lX7_100 mwX7_number mvX7_number cn7 (by assumption) (by rfl) rfl (Nat.le_of_ble_eq_true (by rfl)) (by first | decide | omega) (cM_number E σ m hi t L 0 9 R hR hT hS hk) ?_
        rintro _ m1 ⟨rfl, d1, s1⟩
        have hk1 : okTk L (numR (m.1 (t + 3)) L 0 9 R) := numR_ok _ _ hk
        refine j_iastore (q := 138) dX7_readMore_137 rfl (by first | with_reducible assumption | assumption) (by first | with_reducible assumption | assumption) ?_
        refine j_aload_n (q := 139) dX7_readMore_138 rfl (by rfl) ?_
        refine j_getr (q := 142) dX7_readMore_139 rfl fX7_13 (by first | with_reducible assumption | assumption) (by rfl) ?_
        refine j_bipush (q := 144) (v := 37) dX7_readMore_142 rfl (by decide) ?_
        refine j_iload_n (q := 145) dX7_readMore_144 rfl (by rfl) ?_
        refine j_iadd (q := 146) dX7_readMore_145 rfl ?_
        refine j_aload_n (q := 147) dX7_readMore_146 rfl (by rfl) ?_
        refine j_iconst (q := 148) (v := 0) dX7_readMore_147 rfl (by decide) ?_
        refine j_iconst (q := 149) (v := 4) dX7_readMore_148 rfl (by decide) ?_
        refine o_callVx (q := 152) dX7_readMore_149 rfl lX7_100 mwX7_number mvX7_number cn7 (by assumption) (by rfl) rfl (Nat.le_of_ble_eq_true (by rfl)) (by first | decide | omega) (cM_number E σ (gW m1 (t + 2) (25 + c) (numV 0 9 R)) hi t L 0 4 (numR (m.1 (t + 3)) L 0 9 R) hR ((hT.q d1).w2 _ _) (by rw [e0]; exact s1) hk1) ?_
        rintro _ m2 ⟨rfl, d2, s2⟩
        rw [e3, d1.n (by omega)] at s2
        have er : (gW m2 (t + 2) (37 + c) (numV 0 4 (numR (m.1 (t + 3)) L 0 9 R))).1 (t + 2) = upd (upd (m.1 (t + 2)) (25 + c) (numV 0 9 R)) (37 + c) (numV 0 4 (numR (m.1 (t + 3)) L 0 9 R)) := by rw [gW_ro, d2.n (by omega), gW_ro, d1.n (by omega)]
        have er49 : (gW m2 (t + 2) (37 + c) (numV 0 4 (numR (m.1 (t + 3)) L 0 9 R))).1 (t + 2) 49 = nI c := by rw [er, pk_un (by omega), pk_un (by omega)]; exact hc
        refine j_iastore (q := 153) dX7_readMore_152 rfl (by first | with_reducible assumption | assumption) (by first | with_reducible assumption | assumption) ?_
        refine j_aload_n (q := 154) dX7_readMore_153 rfl (by rfl) ?_
        refine j_getr (q := 157) dX7_readMore_154 rfl fX7_13 (by first | with_reducible assumption | assumption) (by rfl) ?_
        refine j_bipush (q := 159) (v := 49) dX7_readMore_157 rfl (by decide) ?_
        refine j_dup2 (q := 160) dX7_readMore_159 rfl rfl rfl ?_
        refine j_iaload (q := 161) dX7_readMore_160 rfl (by first | with_reducible assumption | assumption) (by first | with_reducible assumption | assumption) ?_
        rw [er49]
        refine j_iconst (q := 162) (v := 1) dX7_readMore_161 rfl (by decide) ?_
        refine j_iadd (q := 163) dX7_readMore_162 rfl ?_
        rw [nI_1]
        refine j_iastore (q := 164) dX7_readMore_163 rfl (by first | with_reducible assumption | assumption) (by first | with_reducible assumption | assumption) ?_
        refine o_vret hF rfl dX7_readMore_164 ?_
        refine ⟨rfl, fun q a b => ?_, fun k a => ?_, ?_, ?_⟩
        · rw [gW_rn b, gW_rn b, d2.n a, gW_rn b, d1.n a]
        · rw [e0, e0, d2.k a, e0, d1.k a]
        · rw [gW_ro, er]
        · rw [e0, e0]; exact s2
      · exact absurd (show nI 6 = 5 by first | exact h92 | exact Decidable.not_not.mp h92) (by decide)
    · exact absurd (show nI 6 = 4 by first | exact h67 | exact Decidable.not_not.mp h67) (by decide)
  · exact absurd (show (3 : Int32) < nI 6 by decide) h2'
