/-! the whole text -/
theorem opn_49 (g : Nat → Int32) {c : Nat} (hc : c < 4) (a b u : Int32) : opn g c a b u 49 = g 49 := by
  unfold opn
  rw [pk_un (by omega), pk_un (by omega), pk_un (by omega), pk_un (by omega), pk_un (by omega), pk_un (by omega), pk_un (by omega)]
theorem okG.up {g : Nat → Int32} (h : okG g) {k : Nat} (h1 : k ≠ 24) (h2 : k ≠ 49) (v : Int32) : okG (upd g k v) := by
  obtain ⟨⟨c, hc, hc4⟩, r, hr, hr12⟩ := h
  exact ⟨⟨c, by rw [pk_un (fun e => h1 e.symm)]; exact hc, hc4⟩, r, by rw [pk_un (fun e => h2 e.symm)]; exact hr, hr12⟩
theorem ln1_ok {B : Nat → Int32} {L : Nat} {t : tkT} (hk : okTk L (.inr t)) (h0 : t.1 ≠ 0) (b : Bool) (hig : Int32) : okTk L (ln1 B L 4 b hig t).1 := stpR_ok (numR_ok _ _ (namR_ok (flr_ok (by decide) hk) (flr_ne h0)))
theorem ln2_ok {B : Nat → Int32} {L : Nat} {t : tkT} (hk : okTk L (.inr t)) (h0 : t.1 ≠ 0) (b : Bool) (lo h1 h2 : Int32) : okTk L (ln2 B L b lo h1 h2 t).1 := stpR_ok (numR_ok _ _ (numR_ok _ _ (namR_ok (flr_ok (by decide) hk) (flr_ne h0))))
theorem lnR_ok {B : Nat → Int32} {L : Nat} {t : tkT} {g : Nat → Int32} (fl ca : Int32) (hk : okTk L (.inr t)) (h0 : t.1 ≠ 0) (hg : okG g) : okTk L (lnR B L t g fl ca).1 ∧ okG (lnR B L t g fl ca).2.1 := by
  obtain ⟨⟨c, hc, hc4⟩, r, hr, hr12⟩ := id hg
  have hcn : cnt g = c := by unfold cnt; rw [hc, nI_clamp (by omega)]
  have hrn : rws g = r := by unfold rws; rw [hr, nI_clamp (by omega)]
  unfold lnR
  by_cases n7 : nmI B t = 7
  · rw [if_pos n7]; exact ⟨⟨by show 2 < 6; decide, by show 2 ≠ 0; decide, hk.2.1⟩, hg⟩
  rw [if_neg n7]
  by_cases n4 : nmI B t = 4
  · rw [if_pos n4]
    exact ⟨ln1_ok hk h0 _ _, okG.up hg (k := 50) (by decide) (by decide) _⟩
  rw [if_neg n4]
  by_cases n5 : nmI B t = 5
  · rw [if_pos n5]
    exact ⟨ln1_ok hk h0 _ _, okG.up hg (k := 51) (by decide) (by decide) _⟩
  rw [if_neg n5]
  by_cases n6 : nmI B t = 6
  · rw [if_pos n6]
    refine ⟨ln2_ok hk h0 _ _ _ _, ?_⟩
    show okG (if rws g < 12 then addR g (rws g) _ _ else g)
    by_cases hl : rws g < 12
    · rw [if_pos hl]
      rw [hrn] at hl ⊢
      refine ⟨⟨c, ?_, hc4⟩, r + 1, by rw [addR_49, hr, nI_1], by omega⟩
      unfold addR
      rw [pk_un (by decide), pk_un (by omega), pk_un (by omega)]
      exact hc
    · rw [if_neg hl]; exact hg
  rw [if_neg n6]
  refine ⟨ln2_ok hk h0 _ _ _ _, ?_⟩
  show okG (if cnt g < 4 then opn g (cnt g) _ _ _ else g)
  by_cases hl : cnt g < 4
  · rw [if_pos hl]
    rw [hcn] at hl ⊢
    exact ⟨⟨c + 1, by rw [opn_24, hc, nI_1], by omega⟩, r, by rw [opn_49 g hl]; exact hr, hr12⟩
  · rw [if_neg hl]; exact hg
def prs (B : Nat → Int32) (L : Nat) : Nat → Nat → pT → (Nat → Int32) → Int32 → Int32 → Nat × pT × (Nat → Int32)
  | 0, n, R, g, _, _ => (n, R, g)
  | k + 1, n, R, g, fl, ca => match R with
    | .inl e => (n, .inl e, g)
    | .inr t => if t.1 = 0 then (n, .inr t, g) else prs B L k (n + 1) (lnR B L t g fl ca).1 (lnR B L t g fl ca).2.1 (lnR B L t g fl ca).2.2.1 (lnR B L t g fl ca).2.2.2
theorem prs_ok {B : Nat → Int32} {L : Nat} : ∀ (k n : Nat) (R : pT) (g : Nat → Int32) (fl ca : Int32), okTk L R → okG g → okTk L (prs B L k n R g fl ca).2.1 ∧ okG (prs B L k n R g fl ca).2.2 ∧ (prs B L k n R g fl ca).1 ≤ n + k
  | 0, n, R, g, fl, ca, hR, hg => ⟨hR, hg, Nat.le_refl _⟩
  | k + 1, n, .inl e, g, fl, ca, hR, hg => ⟨hR, hg, by show n ≤ n + (k + 1); omega⟩
  | k + 1, n, .inr t, g, fl, ca, hR, hg => by
    by_cases h0 : t.1 = 0
    · have e : prs B L (k + 1) n (.inr t) g fl ca = (n, .inr t, g) := if_pos h0
      rw [e]
      exact ⟨hR, hg, by show n ≤ n + (k + 1); omega⟩
    · have e : prs B L (k + 1) n (.inr t) g fl ca = prs B L k (n + 1) (lnR B L t g fl ca).1 (lnR B L t g fl ca).2.1 (lnR B L t g fl ca).2.2.1 (lnR B L t g fl ca).2.2.2 := if_neg h0
      rw [e]
      have hl := lnR_ok (B := B) fl ca hR h0 hg
      have := prs_ok (B := B) k (n + 1) _ _ (lnR B L t g fl ca).2.2.1 (lnR B L t g fl ca).2.2.2 hl.1 hl.2
      exact ⟨this.1, this.2.1, by omega⟩
theorem pgC_w20 (m : gMem) (x k : Nat) (v : Int32) : pgC (gW m (x + 20) k v) (x + 9) = pgC m (x + 9) := by
  funext i
  by_cases hi : i < 53
  · have := cq_in (x + 9) i
    rw [pgC_lt hi, pgC_lt hi, gW_n (fun q => by omega)]
  · rw [pgC_0 _ _ i (by omega), pgC_0 _ _ i (by omega)]
theorem clr_0 {g : Nat → Int32} (h : pg0 g) : pg0 (clr g) := upd_0 (upd_0 (upd_0 (upd_0 (upd_0 h (by decide) _) (by decide) _) (by decide) _) (by decide) _) (by decide) _
theorem clr_ok (g : Nat → Int32) : okG (clr g) := by
  refine ⟨⟨0, ?_, by decide⟩, 0, ?_, by decide⟩
  · unfold clr; rw [pk_un (by decide), pk_un (by decide), pk_un (by decide), pk_un (by decide), pk_us]; rfl
  · unfold clr; rw [pk_un (by decide), pk_un (by decide), pk_un (by decide), pk_us]; rfl
def txQ (m : gMem) (x L : Nat) : Nat × pT × (Nat → Int32) := prs (m.1 (x + 22)) L 161 0 (nxt (m.1 (x + 22)) L 0) (clr (pgC m (x + 9))) 0 0
theorem cR_takeAll (E : gEv) (σ : gSg) (m : gMem) (hi x L : Nat) (hN : gN σ x) (hT : okT m x L) : gCo E yX1_takeAll cX1_takeAll 4 (some .int) 7 [.ref (x + 20), .ref (x + 9)] σ m hi (fun v' m' => v' = some (.int (nI (txQ m x L).1)) ∧ rd2 x m m' ∧ RS (m'.1 (x + 20)) (txQ m x L).2.1 ∧ pgC m' (x + 9) = (txQ m x L).2.2) := by
  refine gCo.of mwX1_takeAll (Nat.le_of_ble_eq_true rfl) ?_
  intro F hF
  have h20 := hN.2.2.2.2.2.2.1
  have h9 := hN.2.2.1.1
  have K37 : ∀ (k n : Nat) (R : pT) (g : Nat → Int32) (m1 : gMem), n + k = 161 → txQ m x L = prs (m.1 (x + 22)) L k n R g (m1.1 (x + 20) 7) (m1.1 (x + 20) 8) → rd2 x m m1 → RS (m1.1 (x + 20)) R → okTk L R → pgC m1 (x + 9) = g → okG g → (gJ E yX1_takeAll cX1_takeAll 4 (some .int) (gRm 7 0 0) F 37 ([some (.ref (x + 20)), some (.ref (x + 9)), some (.int (nI n)), some (.int (nI n))]) ([]) 0 0 σ (m1) hi) := by
    intro k
    induction k with
    | zero =>
      intro n R g m1 hn he hr hR hk hp hg
      have : n = 161 := by omega
      subst this
      refine j_iload_n (q := 38) dX1_takeAll_37 rfl (by rfl) ?_
      refine j_sipush (q := 41) (v := 160) dX1_takeAll_38 rfl (by decide) ?_
      refine j_icmp_gt (q := 44) (tgt := 72) dX1_takeAll_41 rfl (by decide) (fun h41 => ?_) (fun h41 => ?_)
      · refine j_iload_n (q := 73) dX1_takeAll_72 rfl (by rfl) ?_
        refine o_iret hF rfl dX1_takeAll_73 ?_
        rw [he]
        exact ⟨rfl, hr, hR, hp⟩
      · exact absurd (show (160 : Int32) < nI 161 by decide) h41
    | succ k ih =>
      intro n R g m1 hn he hr hR hk hp hg
      refine j_iload_n (q := 38) dX1_takeAll_37 rfl (by rfl) ?_
      refine j_sipush (q := 41) (v := 160) dX1_takeAll_38 rfl (by decide) ?_
      refine j_icmp_gt (q := 44) (tgt := 72) dX1_takeAll_41 rfl (by decide) (fun h41 => ?_) (fun h41 => ?_)
      · exact absurd h41 (nI_nlt (a := 160) (b := n) (by omega) (by omega))
      refine j_aload_n (q := 45) dX1_takeAll_44 rfl (by rfl) ?_
      refine j_geti (q := 48) dX1_takeAll_45 rfl fX1_22 (by assumption) (by rfl) ?_
      match R, hR, hk, he with
      | .inl e, hR, hk, he =>
        rw [hR.1]
        refine j_if_ne (q := 51) (tgt := 72) dX1_takeAll_48 rfl (by decide) (fun h48 => ?_) (fun h48 => ?_)
        · refine j_iload_n (q := 73) dX1_takeAll_72 rfl (by rfl) ?_
          refine o_iret hF rfl dX1_takeAll_73 ?_
          have e2 : prs (m.1 (x + 22)) L (k + 1) n (.inl e) g (m1.1 (x + 20) 7) (m1.1 (x + 20) 8) = (n, .inl e, g) := rfl
          rw [he, e2]
          exact ⟨rfl, hr, hR, hp⟩
        · exact absurd (by first | exact h48 | exact Decidable.not_not.mp h48) (nI_ne0 (by have := hk.2.1; omega) (by have := hk.1; omega))
      | .inr t, hR, hk, he =>
        rw [hR.1]
        refine j_if_ne (q := 51) (tgt := 72) dX1_takeAll_48 rfl (by decide) (fun h48 => ?_) (fun h48 => ?_)
        · exact absurd rfl h48
        refine j_aload_n (q := 52) dX1_takeAll_51 rfl (by rfl) ?_
        refine j_geti (q := 55) dX1_takeAll_52 rfl fX1_43 (by assumption) (by rfl) ?_
        rw [hR.2.1]
        by_cases h0 : t.1 = 0
        · refine j_if_eq (q := 58) (tgt := 72) dX1_takeAll_55 rfl (by decide) (fun h55 => ?_) (fun h55 => ?_)
          · refine j_iload_n (q := 73) dX1_takeAll_72 rfl (by rfl) ?_
            refine o_iret hF rfl dX1_takeAll_73 ?_
            have e2 : prs (m.1 (x + 22)) L (k + 1) n (.inr t) g (m1.1 (x + 20) 7) (m1.1 (x + 20) 8) = (n, .inr t, g) := if_pos h0
            rw [he, e2]
            exact ⟨rfl, hr, hR, hp⟩
          · exact absurd (by rw [h0]; rfl) h55
        · refine j_if_eq (q := 58) (tgt := 72) dX1_takeAll_55 rfl (by decide) (fun h55 => ?_) (fun h55 => ?_)
          · exact absurd (nI_inj (b := 0) (by have := hk.1; omega) (by omega) h55) h0
          have hL := cR_takeLine E σ m1 hi x L t hN (hT.d hr) hR hk h0 (by rw [hp]; exact hg)
          rw [hp, hr.b] at hL
          refine j_aload_n (q := 59) dX1_takeAll_58 rfl (by rfl) ?_
          refine j_aload_n (q := 60) dX1_takeAll_59 rfl (by rfl) ?_
          refine o_callVx (q := 63) dX1_takeAll_60 rfl lX1_46 mwX1_takeLine mvX1_takeLine cn1 (by assumption) (by rfl) rfl (Nat.le_of_ble_eq_true (by rfl)) (by first | decide | omega) (hL) ?_
          rintro _ m2 ⟨rfl, q1, q2, q3, q4, q5⟩
          refine j_iinc (q := 66) dX1_takeAll_63 rfl (by rfl) (by first | exact nI_inc _ | rfl) (by decide) ?_
          refine j_iinc (q := 69) dX1_takeAll_66 rfl (by rfl) (by first | exact nI_inc _ | rfl) (by decide) ?_
          refine j_goto (tgt := 37) dX1_takeAll_69 (by decide) ?_
          have e2 : prs (m.1 (x + 22)) L (k + 1) n (.inr t) g (m1.1 (x + 20) 7) (m1.1 (x + 20) 8) = prs (m.1 (x + 22)) L k (n + 1) (lnR (m.1 (x + 22)) L t g (m1.1 (x + 20) 7) (m1.1 (x + 20) 8)).1 (lnR (m.1 (x + 22)) L t g (m1.1 (x + 20) 7) (m1.1 (x + 20) 8)).2.1 (lnR (m.1 (x + 22)) L t g (m1.1 (x + 20) 7) (m1.1 (x + 20) 8)).2.2.1 (lnR (m.1 (x + 22)) L t g (m1.1 (x + 20) 7) (m1.1 (x + 20) 8)).2.2.2 := if_neg h0
          have hlk := lnR_ok (B := m.1 (x + 22)) (m1.1 (x + 20) 7) (m1.1 (x + 20) 8) hk h0 hg
          exact ih (n + 1) _ _ m2 (by omega) (by rw [he, e2, q4, q5]) (hr.tr q1) q2 hlk.1 q3 hlk.2
  have hC := cG_clear E σ (gW (gW (gW (gW (gW m (x + 20) 1 0) (x + 20) 5 0) (x + 20) 6 0) (x + 20) 7 0) (x + 20) 8 0) hi (x + 9) hN.2.2.1
  rw [pgC_w20, pgC_w20, pgC_w20, pgC_w20, pgC_w20] at hC
  have hr0 : rd2 x m (gP (gW (gW (gW (gW (gW m (x + 20) 1 0) (x + 20) 5 0) (x + 20) 6 0) (x + 20) 7 0) (x + 20) 8 0) (x + 9) (clr (pgC m (x + 9)))) := ((((((rd2.w x m 1 0).tr (rd2.w x _ 5 0)).tr (rd2.w x _ 6 0)).tr (rd2.w x _ 7 0)).tr (rd2.w x _ 8 0)).tr (rd2.p _ _))
  have hA := cR_advance E σ (gP (gW (gW (gW (gW (gW m (x + 20) 1 0) (x + 20) 5 0) (x + 20) 6 0) (x + 20) 7 0) (x + 20) 8 0) (x + 9) (clr (pgC m (x + 9)))) hi x L 0 _ hN (hT.d hr0) rfl (by rw [gP_20, gW_n (by omega), gW_n (by omega), gW_n (by omega), gW_n (by omega), gW_s]; rfl) (by omega) (by rw [gP_20, gW_n (by omega), gW_n (by omega), gW_n (by omega), gW_s])
  rw [hr0.b] at hA
  refine j_aload_n (q := 1) dX1_takeAll_0 rfl (by rfl) ?_
  refine j_iconst (q := 2) (v := 0) dX1_takeAll_1 rfl (by decide) ?_
  refine j_puti (q := 5) dX1_takeAll_2 rfl fX1_18 p1_1 (by assumption) (by rfl) ?_
  refine j_aload_n (q := 6) dX1_takeAll_5 rfl (by rfl) ?_
  refine j_iconst (q := 7) (v := 0) dX1_takeAll_6 rfl (by decide) ?_
  refine j_puti (q := 10) dX1_takeAll_7 rfl fX1_22 p1_5 (by assumption) (by rfl) ?_
  refine j_aload_n (q := 11) dX1_takeAll_10 rfl (by rfl) ?_
  refine j_iconst (q := 12) (v := 0) dX1_takeAll_11 rfl (by decide) ?_
  refine j_puti (q := 15) dX1_takeAll_12 rfl fX1_25 p1_6 (by assumption) (by rfl) ?_
  refine j_aload_n (q := 16) dX1_takeAll_15 rfl (by rfl) ?_
  refine j_iconst (q := 17) (v := 0) dX1_takeAll_16 rfl (by decide) ?_
  refine j_putz (q := 20) dX1_takeAll_17 rfl fX1_28 p1_7 (by assumption) (by rfl) (by first | assumption | exact Or.inl rfl | exact Or.inr rfl) ?_
  refine j_aload_n (q := 21) dX1_takeAll_20 rfl (by rfl) ?_
  refine j_iconst (q := 22) (v := 0) dX1_takeAll_21 rfl (by decide) ?_
  refine j_putz (q := 25) dX1_takeAll_22 rfl fX1_32 p1_8 (by assumption) (by rfl) (by first | assumption | exact Or.inl rfl | exact Or.inr rfl) ?_
  refine j_aload_n (q := 26) dX1_takeAll_25 rfl (by rfl) ?_
  refine o_callVv (q := 29) dX1_takeAll_26 rfl lX1_35 mwX0_clear mvX0_clear cn0 (by assumption) (by rfl) rfl (Nat.le_of_ble_eq_true (by rfl)) (by first | decide | omega) (hC) ?_
  refine j_iconst (q := 30) (v := 0) dX1_takeAll_29 rfl (by decide) ?_
  refine j_istore_n (q := 31) dX1_takeAll_30 rfl (by decide) ?_
  refine j_aload_n (q := 32) dX1_takeAll_31 rfl (by rfl) ?_
  refine o_callVx (q := 35) dX1_takeAll_32 rfl lX1_40 mwX1_advance mvX1_advance cn1 (by assumption) (by rfl) rfl (Nat.le_of_ble_eq_true (by rfl)) (by first | decide | omega) (hA) ?_
  rintro _ m1 ⟨rfl, q1, q2⟩
  refine j_iconst (q := 36) (v := 0) dX1_takeAll_35 rfl (by decide) ?_
  refine j_istore_n (q := 37) dX1_takeAll_36 rfl (by decide) ?_
  refine K37 161 0 _ (clr (pgC m (x + 9))) m1 (by omega) ?_ (hr0.tr q1.d) q2 (nxt_ok (by omega)) (by rw [q1.pg, pgC_gP (clr_0 (pgC_0 _ _))]) (clr_ok _)
  rw [q1.2.1, q1.2.2, gP_20, gW_s, gW_n (by omega), gW_s]
  rfl
/-- what a good text leaves -/
def txM (m : gMem) (x : Nat) (P : Nat → Int32) : gMem := gW (gW (gW (gP (gW (gW m (x + 21) 1 0) x 11 0) (x + 1) P) (x + 23) 3 0) (x + 19) 0 0) (x + 19) 1 0
def txP (m : gMem) (x : Nat) (Q : Nat × pT × (Nat → Int32)) (v : Option Value) (m' : gMem) : Prop := match Q.2.1 with
  | .inl e => v = some (.int (-10 - nI e.2)) ∧ scr x (gW (gW m (x + 21) 1 0) x 11 (nI e.1)) m'
  | .inr _ => v = some (.int (nI Q.1)) ∧ ∃ P, veq Q.2.2 P ∧ pg0 P ∧ scr x (txM m x P) m'
theorem cX_text (E : gEv) (σ : gSg) (m : gMem) (hi x L : Nat) (hN : gN σ x) (hT : okT m x L) : gCo E yX6_text cX6_text 3 (some .int) 8 [.ref x] σ m hi (fun v' m' => txP m x (txQ m x L) v' m') := by
  refine gCo.of mwX6_text (Nat.le_of_ble_eq_true rfl) ?_
  intro F hF
  have hN0 := hN
  have hx := hN.1
  have h1 := hN.2.1.1
  obtain ⟨-, hG1, hG9, -, -, h19, h20, h21, -, h23, -⟩ := hN
  have hQ := prs_ok (B := m.1 (x + 22)) (L := L) 161 0 (nxt (m.1 (x + 22)) L 0) (clr (pgC m (x + 9))) 0 0 (nxt_ok (by omega)) (clr_ok _)
  refine j_aload_n (q := 1) dX6_text_0 rfl (by rfl) ?_
  refine j_getr (q := 4) dX6_text_1 rfl fX6_33 (by assumption) (by rfl) ?_
  refine j_aload_n (q := 5) dX6_text_4 rfl (by rfl) ?_
  refine j_getr (q := 8) dX6_text_5 rfl fX6_16 (by assumption) (by rfl) ?_
  refine o_callVx (q := 11) dX6_text_8 rfl lX6_80 mwX1_takeAll mvX1_takeAll cn1 (by assumption) (by rfl) rfl (Nat.le_of_ble_eq_true (by rfl)) (by first | decide | omega) (cR_takeAll E σ m hi x L hN0 hT) ?_
  rintro _ m1 ⟨rfl, q1, q2, q3⟩
  change okTk L (txQ m x L).2.1 ∧ okG (txQ m x L).2.2 ∧ (txQ m x L).1 ≤ 161 at hQ
  generalize txQ m x L = Q at hQ q2 q3 hF ⊢
  obtain ⟨n, R, g⟩ := Q
  have hs := q1.scr
  refine j_istore_n (q := 12) dX6_text_11 rfl (by decide) ?_
  refine j_aload_n (q := 13) dX6_text_12 rfl (by rfl) ?_
  refine j_getr (q := 16) dX6_text_13 rfl fX6_41 (by assumption) (by rfl) ?_
  refine j_iconst (q := 17) (v := 0) dX6_text_16 rfl (by decide) ?_
  refine j_puti (q := 20) dX6_text_17 rfl fX6_76 p4_1 (by assumption) (by rfl) ?_
  refine j_aload_n (q := 21) dX6_text_20 rfl (by rfl) ?_
  refine j_aload_n (q := 22) dX6_text_21 rfl (by rfl) ?_
  refine j_getr (q := 25) dX6_text_22 rfl fX6_33 (by assumption) (by rfl) ?_
  refine j_geti (q := 28) dX6_text_25 rfl fX6_84 (by assumption) (by rfl) ?_
  rw [gW_n (show ¬ (x + 20 = x + 21 ∧ 5 = 1) by omega)]
  refine j_puti (q := 31) dX6_text_28 rfl fX6_87 p6_11 (by assumption) (by rfl) ?_
  refine j_aload_n (q := 32) dX6_text_31 rfl (by rfl) ?_
  refine j_geti (q := 35) dX6_text_32 rfl fX6_87 (by assumption) (by rfl) ?_
  rw [gW_s]
  match R, q2, hQ, hF with
  | .inl e, q2, hQ, hF =>
    rw [q2.1]
    have hne : ¬ nI e.1 = 0 := nI_ne0 (by have := hQ.1.2.1; omega) (by have := hQ.1.1; omega)
    refine j_if_eq (q := 38) (tgt := 49) dX6_text_35 rfl (by decide) (fun h35 => ?_) (fun h35 => ?_)
    · exact absurd h35 hne
    · refine j_bipush (q := 40) (v := (-10)) dX6_text_38 rfl (by decide) ?_
      refine j_aload_n (q := 41) dX6_text_40 rfl (by rfl) ?_
      refine j_getr (q := 44) dX6_text_41 rfl fX6_33 (by assumption) (by rfl) ?_
      refine j_geti (q := 47) dX6_text_44 rfl fX6_90 (by assumption) (by rfl) ?_
      rw [gW_n (show ¬ (x + 20 = x ∧ 6 = 11) by omega), gW_n (show ¬ (x + 20 = x + 21 ∧ 6 = 1) by omega), q2.2]
      refine j_isub (q := 48) dX6_text_47 rfl ?_
      refine o_iret hF rfl dX6_text_48 ?_
      exact ⟨rfl, (hs.w _ _ _).w _ _ _⟩
  | .inr t, q2, hQ, hF =>
    rw [q2.1]
    refine j_if_eq (q := 38) (tgt := 49) dX6_text_35 rfl (by decide) (fun h35 => ?_) (fun h35 => ?_)
    · have e9 : pgC (gW (gW m1 (x + 21) 1 0) x 11 0) (x + 9) = g := by
        have q3' : pgC m1 (x + 9) = g := q3
        rw [← q3']
        funext i
        by_cases hi : i < 53
        · have := cq_in (x + 9) i
          rw [pgC_lt hi, pgC_lt hi, gW_n (fun q => by omega), gW_n (fun q => by omega)]
        · rw [pgC_0 _ _ i (by omega), pgC_0 _ _ i (by omega)]
      have hB := cG_become E σ (gW (gW m1 (x + 21) 1 0) x 11 0) hi (x + 1) (x + 9) hG1 hG9 (by unfold gAp; omega) (by rw [e9]; exact hQ.2.1.1) (by rw [e9]; exact hQ.2.1.2)
      rw [e9] at hB
      refine j_aload_n (q := 50) dX6_text_49 rfl (by rfl) ?_
      refine j_getr (q := 53) dX6_text_50 rfl fX6_10 (by assumption) (by rfl) ?_
      refine j_aload_n (q := 54) dX6_text_53 rfl (by rfl) ?_
      refine j_getr (q := 57) dX6_text_54 rfl fX6_16 (by assumption) (by rfl) ?_
      refine o_callVv (q := 60) dX6_text_57 rfl lX6_93 mwX0_become mvX0_become cn0 (by assumption) (by rfl) rfl (Nat.le_of_ble_eq_true (by rfl)) (by first | decide | omega) (hB) ?_
      refine j_aload_n (q := 61) dX6_text_60 rfl (by rfl) ?_
      refine j_getr (q := 64) dX6_text_61 rfl fX6_47 (by assumption) (by rfl) ?_
      refine j_iconst (q := 65) (v := 0) dX6_text_64 rfl (by decide) ?_
      refine j_puti (q := 68) dX6_text_65 rfl fX6_97 p2_3 (by assumption) (by rfl) ?_
      refine j_iconst (q := 69) (v := 0) dX6_text_68 rfl (by decide) ?_
      refine j_istore_n (q := 70) dX6_text_69 rfl (by decide) ?_
      have hb0 : pg0 (bec g (pgC (gW (gW m1 (x + 21) 1 0) x 11 0) (x + 1))) := bec_0 (pgC_0 _ _)
      have K70 : ∀ (u i : Nat) (m2 : gMem), i + u = 2 → (i = 0 → m2 = gW (gP (gW (gW m1 (x + 21) 1 0) x 11 0) (x + 1) (bec g (pgC (gW (gW m1 (x + 21) 1 0) x 11 0) (x + 1)))) (x + 23) 3 0) → (i = 1 → m2 = gW (gW (gP (gW (gW m1 (x + 21) 1 0) x 11 0) (x + 1) (bec g (pgC (gW (gW m1 (x + 21) 1 0) x 11 0) (x + 1)))) (x + 23) 3 0) (x + 19) 0 0) → (i = 2 → m2 = txM m1 x (bec g (pgC (gW (gW m1 (x + 21) 1 0) x 11 0) (x + 1)))) → (gJ E yX6_text cX6_text 3 (some .int) (gRm 8 0 0) F 70 ([some (.ref x), some (.int (nI n)), some (.int (nI i))]) ([]) 0 0 σ (m2) hi) := by
        intro u
        induction u with
        | zero =>
          intro i m2 hi' _ _ e2
          have : i = 2 := by omega
          subst this
          refine j_iload_n (q := 71) dX6_text_70 rfl (by rfl) ?_
          refine j_aload_n (q := 72) dX6_text_71 rfl (by rfl) ?_
          refine j_getr (q := 75) dX6_text_72 rfl fX6_26 (by assumption) (by rfl) ?_
          refine j_alen (q := 76) dX6_text_75 rfl (by assumption) (by decide) (by rfl) ?_
          refine j_icmp_ge (q := 79) (tgt := 92) dX6_text_76 rfl (by decide) (fun h76 => ?_) (fun h76 => ?_)
          · refine j_iload_n (q := 93) dX6_text_92 rfl (by rfl) ?_
            refine o_iret hF rfl dX6_text_93 ?_
            refine ⟨rfl, _, bec_veq g _, hb0, ?_⟩
            rw [e2 rfl]
            exact ((((((hs.w _ _ _).w _ _ _).p _ _).w _ _ _).w _ _ _).w _ _ _)
          · exact absurd (show (2 : Int32) ≤ nI 2 by decide) h76
        | succ u ih =>
          intro i m2 hi' e0 e1 e2
          have hix : gIdx (nI i) 2 i := gIdx.of rfl (by omega) (by decide)
          refine j_iload_n (q := 71) dX6_text_70 rfl (by rfl) ?_
          refine j_aload_n (q := 72) dX6_text_71 rfl (by rfl) ?_
          refine j_getr (q := 75) dX6_text_72 rfl fX6_26 (by assumption) (by rfl) ?_
          refine j_alen (q := 76) dX6_text_75 rfl (by assumption) (by decide) (by rfl) ?_
          refine j_icmp_ge (q := 79) (tgt := 92) dX6_text_76 rfl (by decide) (fun h76 => ?_) (fun h76 => ?_)
          · exact absurd h76 (nI_ge (a := i) (b := 2) (by omega) (by omega))
          · refine j_aload_n (q := 80) dX6_text_79 rfl (by rfl) ?_
            refine j_getr (q := 83) dX6_text_80 rfl fX6_26 (by assumption) (by rfl) ?_
            refine j_iload_n (q := 84) dX6_text_83 rfl (by rfl) ?_
            refine j_iconst (q := 85) (v := 0) dX6_text_84 rfl (by decide) ?_
            refine j_zastore (q := 86) dX6_text_85 rfl (by assumption) (by assumption) (by first | assumption | exact Or.inl rfl | exact Or.inr rfl) ?_
            refine j_iinc (q := 89) dX6_text_86 rfl (by rfl) (by first | exact nI_inc _ | rfl) (by decide) ?_
            refine j_goto (tgt := 70) dX6_text_89 (by decide) ?_
            refine ih (i + 1) _ (by omega) (fun h => absurd h (by omega)) (fun h => ?_) (fun h => ?_)
            · have : i = 0 := by omega
              subst this
              rw [e0 rfl]
            · have : i = 1 := by omega
              subst this
              rw [e1 rfl]
              rfl
      exact K70 2 0 _ (by omega) (fun _ => rfl) (fun h => absurd h (by decide)) (fun h => absurd h (by decide))
    · exact absurd rfl h35
