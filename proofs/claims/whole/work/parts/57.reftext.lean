/-! the reference: the whole text -/
def txMR (m : gMem) (t : Nat) (P : Nat → Int32) : gMem := gW (gW (gW (gQ (gW (gW m t 5 0) t 6 0) t 0 P) t 23 0) (t + 11) 0 0) (t + 11) 1 0
def txPR (m : gMem) (t : Nat) (Q : Nat × pT × (Nat → Int32)) (v : Option Value) (m' : gMem) : Prop := match Q.2.1 with
  | .inl e => v = some (.int (-10 - nI e.2)) ∧ rsc t (gW (gW m t 5 0) t 6 (nI e.1)) m'
  | .inr _ => v = some (.int (nI Q.1)) ∧ ∃ P, veq Q.2.2 P ∧ pg0 P ∧ rsc t (txMR m t P) m'
/-- the page, its first cells told -/
def cpS (m : gMem) (t i : Nat) : gMem := (fun q r => if q = t + 1 ∧ r < i then m.1 (t + 2) r else m.1 q r, m.2)
theorem cpS_0 (m : gMem) (t : Nat) : cpS m t 0 = m := by
  apply gMem_ext
  · intro q r
    exact if_neg (by omega)
  · rfl
theorem cpS_r (m : gMem) (t i r : Nat) : (cpS m t i).1 (t + 2) r = m.1 (t + 2) r := if_neg (by omega)
theorem cpS_s (m : gMem) (t i : Nat) : gW (cpS m t i) (t + 1) i (m.1 (t + 2) i) = cpS m t (i + 1) := by
  apply gMem_ext
  · intro q r
    rw [gW_1]
    show (if q = t + 1 ∧ r = i then m.1 (t + 2) i else if q = t + 1 ∧ r < i then m.1 (t + 2) r else m.1 q r) = if q = t + 1 ∧ r < i + 1 then m.1 (t + 2) r else m.1 q r
    by_cases h : q = t + 1 ∧ r = i
    · rw [if_pos h, if_pos (by omega), h.2]
    · rw [if_neg h]
      by_cases h2 : q = t + 1 ∧ r < i
      · rw [if_pos h2, if_pos (by omega)]
      · rw [if_neg h2, if_neg (by omega)]
  · rfl
theorem cpS_53 (m : gMem) (t : Nat) : cpS m t 53 = gQ m t 0 (pgT m t) := by
  apply gMem_ext
  · intro q r
    by_cases h : q = t + 1 ∧ r < 53
    · obtain ⟨rfl, h2⟩ := h
      have e := gQ_in (m := m) (t := t) (p := 0) (i := r) h2 (pgT m t)
      rw [Nat.zero_add] at e
      rw [e, pgT_lt h2, Int32.add_sub_cancel]
      exact if_pos ⟨rfl, h2⟩
    · rw [gQ_out (by omega)]
      exact if_neg h
  · rfl
theorem lnR_fl {B : Nat → Int32} {L : Nat} {u : tkT} {g : Nat → Int32} {fl ca : Int32} (hf : fl = 0 ∨ fl = 1) (hc : ca = 0 ∨ ca = 1) : ((lnR B L u g fl ca).2.2.1 = 0 ∨ (lnR B L u g fl ca).2.2.1 = 1) ∧ ((lnR B L u g fl ca).2.2.2 = 0 ∨ (lnR B L u g fl ca).2.2.2 = 1) := by
  unfold lnR
  by_cases n7 : nmI B u = 7
  · rw [if_pos n7]; exact ⟨hf, hc⟩
  rw [if_neg n7]
  by_cases n4 : nmI B u = 4
  · rw [if_pos n4]; exact ⟨Or.inr rfl, hc⟩
  rw [if_neg n4]
  by_cases n5 : nmI B u = 5
  · rw [if_pos n5]; exact ⟨hf, Or.inr rfl⟩
  rw [if_neg n5]
  by_cases n6 : nmI B u = 6
  · rw [if_pos n6]; exact ⟨hf, hc⟩
  rw [if_neg n6]
  exact ⟨hf, hc⟩
theorem nxt_s {B : Nat → Int32} {L e : Nat} (he : e ≤ L) {u : tkT} (h : nxt B L e = .inr u) : e ≤ u.2.1 := by
  have hs := lx_s B L (rn isSp B L e)
  have hr := rn_le isSp B (L := L) he
  unfold nxt lex at h
  by_cases h4 : (lx B L (rn isSp B L e)).1 = 4
  · rw [if_pos h4] at h; cases h
  · rw [if_neg h4] at h
    have hu : lx B L (rn isSp B L e) = u := by simpa using h
    rw [← hu, hs]
    exact hr.1
/-- what a token that is left comes behind -/
def bhd (p L : Nat) (R : pT) : Prop := okTk L R ∧ ∀ u, R = .inr u → p ≤ u.2.1
theorem bhd.n {B : Nat → Int32} {p L : Nat} {u : tkT} (h : bhd p L (.inr u)) (h0 : u.1 ≠ 0) : bhd (p + 1) L (nxt B L u.2.2.1) := by
  have h1 := h.1.2.2 h0
  have h2 := h.2 u rfl
  exact ⟨nxt_ok h1.2, fun u' hu => by have := nxt_s h1.2 hu; omega⟩
theorem bhd.le {p q L : Nat} {R : pT} (h : bhd p L R) (hq : q ≤ p) : bhd q L R := ⟨h.1, fun u hu => by have := h.2 u hu; omega⟩
theorem bhd.num {B : Nat → Int32} {p L : Nat} {R : pT} (h : bhd p L R) (lo hig : Int32) : bhd p L (numR B L lo hig R) := by
  match R, h with
  | .inl e, h => exact h
  | .inr t, h =>
    show bhd p L (if t.1 = 2 then (if lo ≤ t.2.2.2 ∧ t.2.2.2 ≤ hig then nxt B L t.2.2.1 else .inl (3, t.2.1)) else .inl (2, t.2.1))
    by_cases h2 : t.1 = 2
    · rw [if_pos h2]
      by_cases h3 : lo ≤ t.2.2.2 ∧ t.2.2.2 ≤ hig
      · rw [if_pos h3]; exact (h.n (by omega)).le (by omega)
      · rw [if_neg h3]; exact ⟨⟨by show 3 < 6; decide, by show 3 ≠ 0; decide, h.1.2.1⟩, fun u hu => by cases hu⟩
    · rw [if_neg h2]; exact ⟨⟨by show 2 < 6; decide, by show 2 ≠ 0; decide, h.1.2.1⟩, fun u hu => by cases hu⟩
theorem bhd.stp {B : Nat → Int32} {p L : Nat} {R : pT} (h : bhd p L R) : bhd p L (stpR B L R) := by
  match R, h with
  | .inl e, h => exact h
  | .inr t, h =>
    show bhd p L (if t.1 = 3 then nxt B L t.2.2.1 else .inl (2, t.2.1))
    by_cases h2 : t.1 = 3
    · rw [if_pos h2]; exact (h.n (by omega)).le (by omega)
    · rw [if_neg h2]; exact ⟨⟨by show 2 < 6; decide, by show 2 ≠ 0; decide, h.1.2.1⟩, fun u hu => by cases hu⟩
theorem bhd.nam {B : Nat → Int32} {p L c : Nat} {b : Bool} {u : tkT} (h : bhd p L (.inr u)) (h0 : u.1 ≠ 0) (hc : c < 6 ∧ c ≠ 0) : bhd (p + 1) L (namR B L (flr c b (.inr u))) := by
  cases b
  · exact h.n h0
  · exact ⟨⟨hc.1, hc.2, h.1.2.1⟩, fun u hu => by cases hu⟩
theorem lnR_b {B : Nat → Int32} {p L : Nat} {u : tkT} {g : Nat → Int32} {fl ca : Int32} (h : bhd p L (.inr u)) (h0 : u.1 ≠ 0) : bhd (p + 1) L (lnR B L u g fl ca).1 := by
  unfold lnR
  by_cases n7 : nmI B u = 7
  · rw [if_pos n7]; exact ⟨⟨by show 2 < 6; decide, by show 2 ≠ 0; decide, h.1.2.1⟩, fun u hu => by cases hu⟩
  rw [if_neg n7]
  by_cases n4 : nmI B u = 4
  · rw [if_pos n4]; exact ((h.nam h0 (by decide)).num _ _).stp
  rw [if_neg n4]
  by_cases n5 : nmI B u = 5
  · rw [if_pos n5]; exact ((h.nam h0 (by decide)).num _ _).stp
  rw [if_neg n5]
  by_cases n6 : nmI B u = 6
  · rw [if_pos n6]; exact (((h.nam h0 (by decide)).num _ _).num _ _).stp
  rw [if_neg n6]
  exact (((h.nam h0 (by decide)).num _ _).num _ _).stp
theorem cM_text (E : gEv) (σ : gSg) (m : gMem) (hi t L : Nat) (g0 : Nat → Int32) (hR : gR σ t) (hT : okTR m t L) (hl : okLt m t) (hg0 : veq g0 pgI) (hG0 : okG g0) : gCo E yX7_text cX7_text 3 (some .int) 5 [.ref t] σ m hi (fun v' m' => txPR m t (prs (m.1 (t + 3)) L 161 0 (nxt (m.1 (t + 3)) L 0) g0 0 0) v' m') := by
  refine gCo.of mwX7_text (Nat.le_of_ble_eq_true rfl) ?_
  intro F hF
  have h0 := hR.1
  have h1 := hR.2.1
  have h2 := hR.2.2.1
  obtain ⟨-, -, -, -, -, -, -, -, -, -, -, h11, -⟩ := id hR
  have hL := hT.2.1
  generalize hB : m.1 (t + 3) = B at *
  generalize hQ : prs B L 161 0 (nxt B L 0) g0 0 0 = Q at hF
  have K71 : ∀ (m1 : gMem) (R : pT) (n : Nat) (g : Nat → Int32) (o2 : Option Value), rl t m m1 → RSR (m1.1 t) R → okTk L R → (∀ u, R = .inr u → veq g (pgT m1 t)) → Q = (n, R, g) → (gJ E yX7_text cX7_text 3 (some .int) (gRm 5 0 0) F 71 ([some (.ref t), some (.int (nI n)), o2]) ([]) 0 0 σ (m1) hi) := by
    intro m1 R n g o2 d1 s1 k1 hv hq
    rw [hq] at hF
    have e7 : (gW m1 t 5 0).1 t 7 = m1.1 t 7 := gW_n (by omega)
    refine j_aload_n (q := 72) dX7_text_71 rfl (by rfl) ?_
    refine j_iconst (q := 73) (v := 0) dX7_text_72 rfl (by decide) ?_
    refine j_puti (q := 76) dX7_text_73 rfl fX7_59 p7_5 (by first | with_reducible assumption | assumption) (by rfl) ?_
    refine j_aload_n (q := 77) dX7_text_76 rfl (by rfl) ?_
    refine j_aload_n (q := 78) dX7_text_77 rfl (by rfl) ?_
    refine j_geti (q := 81) dX7_text_78 rfl fX7_63 (by first | with_reducible assumption | assumption) (by rfl) ?_
    rw [e7]
    refine j_puti (q := 84) dX7_text_81 rfl fX7_123 p7_6 (by first | with_reducible assumption | assumption) (by rfl) ?_
    refine j_aload_n (q := 85) dX7_text_84 rfl (by rfl) ?_
    refine j_geti (q := 88) dX7_text_85 rfl fX7_63 (by first | with_reducible assumption | assumption) (by rfl) ?_
    rw [gW_n (by omega), e7]
    match R, s1, k1, hv, hF with
    | .inl e, s1, k1, hv, hF =>
      have hb := s1.b k1
      refine j_if_le (q := 91) (tgt := 99) dX7_text_88 rfl (by decide) (fun h88 => ?_) (fun h88 => ?_)
      · exact absurd h88 hb.2
      refine j_bipush (q := 93) (v := (-10)) dX7_text_91 rfl (by decide) ?_
      refine j_aload_n (q := 94) dX7_text_93 rfl (by rfl) ?_
      refine j_geti (q := 97) dX7_text_94 rfl fX7_69 (by first | with_reducible assumption | assumption) (by rfl) ?_
      rw [gW_n (by omega), gW_n (by omega), s1.2, s1.1]
      refine j_isub (q := 98) dX7_text_97 rfl ?_
      refine o_iret hF rfl dX7_text_98 ?_
      exact ⟨rfl, ((d1.w _ _ _).w _ _ _).s⟩
    | .inr u, s1, k1, hv, hF =>
      rw [s1.1]
      have hv' := hv u rfl
      generalize hM : gW (gW m1 t 5 0) t 6 0 = M
      have hMt : pgT M t = pgT m1 t := by rw [← hM]; exact pgT_row (by rw [gW_rn (by omega), gW_rn (by omega)])
      have dM : rl t (gW (gW m t 5 0) t 6 0) M := by rw [← hM]; exact (d1.w _ _ _).w _ _ _
      have hix0 : gIdx 0 2 0 := gIdx.of rfl (by omega) (by decide)
      have hix1 : gIdx 1 2 1 := gIdx.of rfl (by omega) (by decide)
      have K101 : ∀ (z i : Nat), i + z = 53 → (gJ E yX7_text cX7_text 3 (some .int) (gRm 5 0 0) F 101 ([some (.ref t), some (.int (nI n)), some (.int (nI i))]) ([]) 0 0 σ (cpS M t i) hi) := by
        intro z
        induction z with
        | zero =>
          intro i hiz
          have hi5 : i = 53 := by omega
          subst hi5
          refine j_iload_n (q := 102) dX7_text_101 rfl (by rfl) ?_
          refine j_bipush (q := 104) (v := 53) dX7_text_102 rfl (by decide) ?_
          refine j_icmp_ge (q := 107) (tgt := 125) dX7_text_104 rfl (by decide) (fun h104 => ?_) (fun h104 => ?_)
          · rw [cpS_53, hMt]
            refine j_aload_n (q := 126) dX7_text_125 rfl (by rfl) ?_
            refine j_iconst (q := 127) (v := 0) dX7_text_126 rfl (by decide) ?_
            refine j_puti (q := 130) dX7_text_127 rfl fX7_126 p7_23 (by first | with_reducible assumption | assumption) (by rfl) ?_
            refine j_aload_n (q := 131) dX7_text_130 rfl (by rfl) ?_
            refine j_getr (q := 134) dX7_text_131 rfl fX7_40 (by first | with_reducible assumption | assumption) (by rfl) ?_
            refine j_iconst (q := 135) (v := 0) dX7_text_134 rfl (by decide) ?_
            refine j_iconst (q := 136) (v := 0) dX7_text_135 rfl (by decide) ?_
            refine j_zastore (q := 137) dX7_text_136 rfl (by first | with_reducible assumption | assumption) (by first | with_reducible assumption | assumption) (by first | assumption | exact Or.inl rfl | exact Or.inr rfl) ?_
            refine j_aload_n (q := 138) dX7_text_137 rfl (by rfl) ?_
            refine j_getr (q := 141) dX7_text_138 rfl fX7_40 (by first | with_reducible assumption | assumption) (by rfl) ?_
            refine j_iconst (q := 142) (v := 1) dX7_text_141 rfl (by decide) ?_
            refine j_iconst (q := 143) (v := 0) dX7_text_142 rfl (by decide) ?_
            refine j_zastore (q := 144) dX7_text_143 rfl (by first | with_reducible assumption | assumption) (by first | with_reducible assumption | assumption) (by first | assumption | exact Or.inl rfl | exact Or.inr rfl) ?_
            refine j_iload_n (q := 145) dX7_text_144 rfl (by rfl) ?_
            refine o_iret hF rfl dX7_text_145 ?_
            refine ⟨rfl, pgT m1 t, hv', pgT_0 m1 t, ?_⟩
            exact ((((dM.q 0 (pgT m1 t)).w _ _ _).w _ _ _).w _ _ _).s
          · exact absurd (show (53 : Int32) ≤ nI 53 by decide) h104
        | succ z ih =>
          intro i hiz
          have ia : gIdx (nI i) 318 i := gIdx.of rfl (by omega) (by decide)
          have ib : gIdx (nI i) 53 i := gIdx.of rfl (by omega) (by decide)
          refine j_iload_n (q := 102) dX7_text_101 rfl (by rfl) ?_
          refine j_bipush (q := 104) (v := 53) dX7_text_102 rfl (by decide) ?_
          refine j_icmp_ge (q := 107) (tgt := 125) dX7_text_104 rfl (by decide) (fun h104 => ?_) (fun h104 => ?_)
          · exact absurd h104 (nI_ge (a := i) (b := 53) (by omega) (by omega))
          refine j_aload_n (q := 108) dX7_text_107 rfl (by rfl) ?_
          refine j_getr (q := 111) dX7_text_108 rfl fX7_7 (by first | with_reducible assumption | assumption) (by rfl) ?_
          refine j_iload_n (q := 112) dX7_text_111 rfl (by rfl) ?_
          refine j_aload_n (q := 113) dX7_text_112 rfl (by rfl) ?_
          refine j_getr (q := 116) dX7_text_113 rfl fX7_13 (by first | with_reducible assumption | assumption) (by rfl) ?_
          refine j_iload_n (q := 117) dX7_text_116 rfl (by rfl) ?_
          refine j_iaload (q := 118) dX7_text_117 rfl (by first | with_reducible assumption | assumption) (by first | with_reducible assumption | assumption) ?_
          rw [cpS_r]
          refine j_iastore (q := 119) dX7_text_118 rfl (by first | with_reducible assumption | assumption) (by first | with_reducible assumption | assumption) ?_
          rw [cpS_s]
          refine j_iinc (q := 122) dX7_text_119 rfl (by rfl) (by first | exact nI_inc _ | rfl) (by decide) ?_
          refine j_goto (tgt := 101) dX7_text_122 (by decide) ?_
          exact ih (i + 1) (by omega)
      refine j_if_le (q := 91) (tgt := 99) dX7_text_88 rfl (by decide) (fun h88 => ?_) (fun h88 => ?_)
      · refine j_iconst (q := 100) (v := 0) dX7_text_99 rfl (by decide) ?_
        refine j_istore_n (q := 101) dX7_text_100 rfl (by decide) ?_
        refine gJ.mm ?_ (K101 53 0 (by omega))
        exact (cpS_0 M t).symm
      · exact absurd (Int32.le_refl 0) h88
  have K47 : ∀ (k n : Nat) (R : pT) (g : Nat → Int32) (fl ca : Int32) (m1 : gMem) (o2 : Option Value), n + k = 161 → rl t m m1 → RSR (m1.1 t) R → bhd n L R → okG g → (∀ u, R = .inr u → pgO t m1 g fl ca) → (fl = 0 ∨ fl = 1) → (ca = 0 ∨ ca = 1) → Q = prs B L k n R g fl ca → (gJ E yX7_text cX7_text 3 (some .int) (gRm 5 0 0) F 47 ([some (.ref t), some (.int (nI n)), o2]) ([]) 0 0 σ (m1) hi) := by
    intro k
    induction k with
    | zero =>
      intro n R g fl ca m1 o2 hnk d1 s1 b1 hg hP hfl hca hq
      have hq' : Q = (n, R, g) := hq
      match R, s1, b1, hP, hq' with
      | .inl e, s1, b1, hP, hq' =>
        have hb := s1.b b1.1
        refine j_aload_n (q := 48) dX7_text_47 rfl (by rfl) ?_
        refine j_geti (q := 51) dX7_text_48 rfl fX7_63 (by first | with_reducible assumption | assumption) (by rfl) ?_
        refine j_if_ne (q := 54) (tgt := 71) dX7_text_51 rfl (by decide) (fun h51 => ?_) (fun h51 => ?_)
        · exact K71 m1 _ n g _ d1 s1 b1.1 (fun u hu => by cases hu) hq'
        · exact absurd (by first | exact h51 | exact Decidable.not_not.mp h51) hb.1
      | .inr u, s1, b1, hP, hq' => exact absurd (b1.2 u rfl) (by have := b1.1.2.1; omega)
    | succ k ih =>
      intro n R g fl ca m1 o2 hnk d1 s1 b1 hg hP hfl hca hq
      match R, s1, b1, hP, hq with
      | .inl e, s1, b1, hP, hq =>
        have hb := s1.b b1.1
        have hq' : Q = (n, .inl e, g) := hq
        refine j_aload_n (q := 48) dX7_text_47 rfl (by rfl) ?_
        refine j_geti (q := 51) dX7_text_48 rfl fX7_63 (by first | with_reducible assumption | assumption) (by rfl) ?_
        refine j_if_ne (q := 54) (tgt := 71) dX7_text_51 rfl (by decide) (fun h51 => ?_) (fun h51 => ?_)
        · exact K71 m1 _ n g _ d1 s1 b1.1 (fun u hu => by cases hu) hq'
        · exact absurd (by first | exact h51 | exact Decidable.not_not.mp h51) hb.1
      | .inr u, s1, b1, hP, hq =>
        have hP' := hP u rfl
        refine j_aload_n (q := 48) dX7_text_47 rfl (by rfl) ?_
        refine j_geti (q := 51) dX7_text_48 rfl fX7_63 (by first | with_reducible assumption | assumption) (by rfl) ?_
        rw [s1.1]
        refine j_if_ne (q := 54) (tgt := 71) dX7_text_51 rfl (by decide) (fun h51 => ?_) (fun h51 => ?_)
        · exact absurd rfl h51
        refine j_aload_n (q := 55) dX7_text_54 rfl (by rfl) ?_
        refine j_geti (q := 58) dX7_text_55 rfl fX7_72 (by first | with_reducible assumption | assumption) (by rfl) ?_
        rw [s1.2.1]
        by_cases hu0 : u.1 = 0
        · have hq' : Q = (n, .inr u, g) := by rw [hq, prs, if_pos hu0]
          refine j_if_eq (q := 61) (tgt := 71) dX7_text_58 rfl (by decide) (fun h58 => ?_) (fun h58 => ?_)
          · exact K71 m1 _ n g _ d1 s1 b1.1 (fun _ _ => hP'.1) hq'
          · exact absurd (by rw [hu0]; rfl) h58
        · rw [prs, if_neg hu0] at hq
          have hLn := cM_readLine E σ m1 hi t L u g fl ca hR (d1.T hT) (d1.L hl) s1 b1.1 hu0 hg hP' hfl hca
          rw [d1.1 (t + 3) (by omega) (by omega), hB] at hLn
          have hok := lnR_ok (B := B) fl ca b1.1 hu0 hg
          have hlf := lnR_fl (B := B) (L := L) (u := u) (g := g) hfl hca
          have hbb := lnR_b (B := B) (g := g) (fl := fl) (ca := ca) b1 hu0
          refine j_if_eq (q := 61) (tgt := 71) dX7_text_58 rfl (by decide) (fun h58 => ?_) (fun h58 => ?_)
          · exact absurd h58 (nI_ne0 (by omega) (by have := b1.1.1; omega))
          refine j_aload_n (q := 62) dX7_text_61 rfl (by rfl) ?_
          refine o_callVx (q := 65) dX7_text_62 rfl lX7_120 mwX7_readLine mvX7_readLine cn7 (by assumption) (by rfl) rfl (Nat.le_of_ble_eq_true (by rfl)) (by first | decide | omega) (hLn) ?_
          rintro _ m2 ⟨rfl, d2, s2, p2⟩
          refine j_iinc (q := 68) dX7_text_65 rfl (by rfl) (by first | exact nI_inc _ | rfl) (by decide) ?_
          refine j_goto (tgt := 47) dX7_text_68 (by decide) ?_
          exact ih (n + 1) _ _ _ _ m2 _ (by omega) (d1.tr d2) s2 hbb hok.2 p2 hlf.1 hlf.2 hq
  have d0 : rl t m (gW (gW (gW (gW m t 7 0) t 9 0) t 2 0) t 3 0) := ((((rl.rf t m).f (by omega) 0).f (by omega) 0).f (by omega) 0).f (by omega) 0
  have f7 : (gW (gW (gW (gW m t 7 0) t 9 0) t 2 0) t 3 0).1 t 7 = 0 := by rw [gW_n (by omega), gW_n (by omega), gW_n (by omega), gW_s]
  have f9 : (gW (gW (gW (gW m t 7 0) t 9 0) t 2 0) t 3 0).1 t 9 = nI 0 := by rw [gW_n (by omega), gW_n (by omega), gW_s]; rfl
  have f2 : (gW (gW (gW (gW m t 7 0) t 9 0) t 2 0) t 3 0).1 t 2 = 0 := by rw [gW_n (by omega), gW_s]
  have f3 : (gW (gW (gW (gW m t 7 0) t 9 0) t 2 0) t 3 0).1 t 3 = 0 := by rw [gW_s]
  refine j_aload_n (q := 1) dX7_text_0 rfl (by rfl) ?_
  refine j_iconst (q := 2) (v := 0) dX7_text_1 rfl (by decide) ?_
  refine j_puti (q := 5) dX7_text_2 rfl fX7_63 p7_7 (by first | with_reducible assumption | assumption) (by rfl) ?_
  refine j_aload_n (q := 6) dX7_text_5 rfl (by rfl) ?_
  refine j_iconst (q := 7) (v := 0) dX7_text_6 rfl (by decide) ?_
  refine j_puti (q := 10) dX7_text_7 rfl fX7_75 p7_9 (by first | with_reducible assumption | assumption) (by rfl) ?_
  refine j_aload_n (q := 11) dX7_text_10 rfl (by rfl) ?_
  refine j_iconst (q := 12) (v := 0) dX7_text_11 rfl (by decide) ?_
  refine j_putz (q := 15) dX7_text_12 rfl fX7_110 p7_2 (by first | with_reducible assumption | assumption) (by rfl) (by first | assumption | exact Or.inl rfl | exact Or.inr rfl) ?_
  refine j_aload_n (q := 16) dX7_text_15 rfl (by rfl) ?_
  refine j_iconst (q := 17) (v := 0) dX7_text_16 rfl (by decide) ?_
  refine j_putz (q := 20) dX7_text_17 rfl fX7_114 p7_3 (by first | with_reducible assumption | assumption) (by rfl) (by first | assumption | exact Or.inl rfl | exact Or.inr rfl) ?_
  refine j_iconst (q := 21) (v := 0) dX7_text_20 rfl (by decide) ?_
  refine j_istore_n (q := 22) dX7_text_21 rfl (by decide) ?_
  refine j_iconst (q := 23) (v := 0) dX7_text_22 rfl (by decide) ?_
  refine j_istore_n (q := 24) dX7_text_23 rfl (by decide) ?_
  generalize gW (gW (gW (gW m t 7 0) t 9 0) t 2 0) t 3 0 = M0 at *
  have zn : ∀ (i q : Nat), q ≠ t + 2 → (gZ M0 (t + 2) i).1 q = M0.1 q := fun i q hq => funext fun r => if_neg (fun h => hq h.1)
  have K24 : ∀ (z i : Nat), i + z = 53 → (gJ E yX7_text cX7_text 3 (some .int) (gRm 5 0 0) F 24 ([some (.ref t), some (.int 0), some (.int (nI i))]) ([]) 0 0 σ (gZ M0 (t + 2) i) hi) := by
    intro z
    induction z with
    | zero =>
      intro i hiz
      have hi5 : i = 53 := by omega
      subst hi5
      have dz : rl t m (gZ M0 (t + 2) 53) := d0.tr ⟨fun q _ b => zn 53 q b, fun k _ => by rw [zn 53 t (by omega)]⟩
      have ez : ∀ r, r < 53 → (gZ M0 (t + 2) 53).1 (t + 2) r = 0 := fun r hr => if_pos ⟨rfl, hr⟩
      have hRd := cM_readsOn1 E σ (gZ M0 (t + 2) 53) hi t L 0 hR (dz.T hT) (by rw [zn 53 t (by omega)]; exact f7) (by rw [zn 53 t (by omega)]; exact f9) (by omega)
      rw [dz.1 (t + 3) (by omega) (by omega), hB] at hRd
      have hpg : pgT (gZ M0 (t + 2) 53) t = pgI := by
        funext i
        unfold pgI
        by_cases h : i < 53
        · rw [pgT_lt h, ez i h]
          unfold aj
          rw [Int32.zero_add]
        · rw [pgT_0 _ _ i (by omega), if_neg (by omega), if_neg (by omega)]
      have hP0 : pgO t (gZ M0 (t + 2) 53) g0 0 0 := ⟨by rw [hpg]; exact hg0, fun i _ b => ez i (by omega), by rw [zn 53 t (by omega)]; exact f2, by rw [zn 53 t (by omega)]; exact f3⟩
      refine j_iload_n (q := 25) dX7_text_24 rfl (by rfl) ?_
      refine j_bipush (q := 27) (v := 53) dX7_text_25 rfl (by decide) ?_
      refine j_icmp_ge (q := 30) (tgt := 43) dX7_text_27 rfl (by decide) (fun h27 => ?_) (fun h27 => ?_)
      · refine j_aload_n (q := 44) dX7_text_43 rfl (by rfl) ?_
        refine o_callVx (q := 47) dX7_text_44 rfl lX7_97 mwX7_readsOn mvX7_readsOn cn7 (by assumption) (by rfl) rfl (Nat.le_of_ble_eq_true (by rfl)) (by first | decide | omega) (hRd) ?_
        rintro _ m1 ⟨rfl, d1, s1⟩
        exact K47 161 0 _ g0 0 0 m1 _ (by omega) (dz.tr d1.l) s1 ⟨nxt_ok (by omega), fun u _ => Nat.zero_le _⟩ hG0 (fun _ _ => hP0.q d1) (Or.inl rfl) (Or.inl rfl) hQ.symm
      · exact absurd (show (53 : Int32) ≤ nI 53 by decide) h27
    | succ z ih =>
      intro i hiz
      have ib : gIdx (nI i) 53 i := gIdx.of rfl (by omega) (by decide)
      refine j_iload_n (q := 25) dX7_text_24 rfl (by rfl) ?_
      refine j_bipush (q := 27) (v := 53) dX7_text_25 rfl (by decide) ?_
      refine j_icmp_ge (q := 30) (tgt := 43) dX7_text_27 rfl (by decide) (fun h27 => ?_) (fun h27 => ?_)
      · exact absurd h27 (nI_ge (a := i) (b := 53) (by omega) (by omega))
      refine j_aload_n (q := 31) dX7_text_30 rfl (by rfl) ?_
      refine j_getr (q := 34) dX7_text_31 rfl fX7_13 (by first | with_reducible assumption | assumption) (by rfl) ?_
      refine j_iload_n (q := 35) dX7_text_34 rfl (by rfl) ?_
      refine j_iconst (q := 36) (v := 0) dX7_text_35 rfl (by decide) ?_
      refine j_iastore (q := 37) dX7_text_36 rfl (by first | with_reducible assumption | assumption) (by first | with_reducible assumption | assumption) ?_
      rw [gZ_s]
      refine j_iinc (q := 40) dX7_text_37 rfl (by rfl) (by first | exact nI_inc _ | rfl) (by decide) ?_
      refine j_goto (tgt := 24) dX7_text_40 (by decide) ?_
      exact ih (i + 1) (by omega)
  refine gJ.mm ?_ (K24 53 0 (by omega))
  exact (gZ_0 M0 (t + 2)).symm
