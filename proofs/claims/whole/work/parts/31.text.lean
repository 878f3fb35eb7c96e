/-! a text's lines -/
def rd2 (x : Nat) (m m' : gMem) : Prop := ∀ q, q ≠ x + 20 → ¬ (x + 9 ≤ q ∧ q < x + 17) → m'.1 q = m.1 q
theorem rd2.rf (x : Nat) (m : gMem) : rd2 x m m := fun _ _ _ => rfl
theorem rd2.tr {x : Nat} {m m' m'' : gMem} (h : rd2 x m m') (h' : rd2 x m' m'') : rd2 x m m'' := fun q a b => (h' q a b).trans (h q a b)
theorem rdr.d {x : Nat} {m m' : gMem} (h : rdr x m m') : rd2 x m m' := fun q a _ => h.1 q a
theorem rd2.p {x : Nat} (m : gMem) (g : Nat → Int32) : rd2 x m (gP m (x + 9) g) := fun q _ b => gP_row (by omega)
theorem rd2.w (x : Nat) (m : gMem) (k : Nat) (v : Int32) : rd2 x m (gW m (x + 20) k v) := fun q a _ => funext fun r => gW_n (fun h => a h.1)
theorem rd2.scr {x : Nat} {m m' : gMem} (h : rd2 x m m') : scr x m m' := fun q hq => h q (by omega) (by omega)
theorem okT.d {x L : Nat} {m m' : gMem} (h : okT m x L) (hr : rd2 x m m') : okT m' x L := by
  unfold okT
  rw [hr (x + 21) (by omega) (by omega), hr (x + 22) (by omega) (by omega)]
  exact h
theorem rdr.pg {x : Nat} {m m' : gMem} (h : rdr x m m') : pgC m' (x + 9) = pgC m (x + 9) := by
  funext i
  by_cases hi : i < 53
  · have := cq_in (x + 9) i
    rw [pgC_lt hi, pgC_lt hi, h.1 (cq (x + 9) i) (by omega)]
  · rw [pgC_0 _ _ i (by omega), pgC_0 _ _ i (by omega)]
theorem rd2.b {x : Nat} {m m' : gMem} (h : rd2 x m m') : m'.1 (x + 22) = m.1 (x + 22) := h (x + 22) (by omega) (by omega)
theorem rdr.b {x : Nat} {m m' : gMem} (h : rdr x m m') : m'.1 (x + 22) = m.1 (x + 22) := h.1 (x + 22) (by omega)
abbrev lnT : Type := pT × (Nat → Int32) × Int32 × Int32
def ln1 (B : Nat → Int32) (L c : Nat) (b : Bool) (hig : Int32) (t : tkT) : pT × Int32 := (stpR B L (numR B L 0 hig (namR B L (flr c b (.inr t)))), numV 0 hig (namR B L (flr c b (.inr t))))
def ln2 (B : Nat → Int32) (L : Nat) (b : Bool) (lo h1 h2 : Int32) (t : tkT) : pT × Int32 × Int32 := (stpR B L (numR B L 0 h2 (numR B L lo h1 (namR B L (flr 5 b (.inr t))))), numV lo h1 (namR B L (flr 5 b (.inr t))), numV 0 h2 (numR B L lo h1 (namR B L (flr 5 b (.inr t)))))
def lnR (B : Nat → Int32) (L : Nat) (t : tkT) (g : Nat → Int32) (fl ca : Int32) : lnT :=
  if nmI B t = 7 then (.inl (2, t.2.1), g, fl, ca)
  else if nmI B t = 4 then ((ln1 B L 4 (decide (fl ≠ 0)) 40 t).1, upd g 50 (ln1 B L 4 (decide (fl ≠ 0)) 40 t).2, 1, ca)
  else if nmI B t = 5 then ((ln1 B L 4 (decide (ca ≠ 0)) 20 t).1, upd g 51 (ln1 B L 4 (decide (ca ≠ 0)) 20 t).2, fl, 1)
  else if nmI B t = 6 then ((ln2 B L (decide (12 ≤ rws g)) 0 9 4 t).1, if rws g < 12 then addR g (rws g) (ln2 B L (decide (12 ≤ rws g)) 0 9 4 t).2.1 (ln2 B L (decide (12 ≤ rws g)) 0 9 4 t).2.2 else g, fl, ca)
  else ((ln2 B L (decide (4 ≤ cnt g)) 1 60 9 t).1, if cnt g < 4 then opn g (cnt g) (nI (nmI B t)) (ln2 B L (decide (4 ≤ cnt g)) 1 60 9 t).2.1 (ln2 B L (decide (4 ≤ cnt g)) 1 60 9 t).2.2 else g, fl, ca)
theorem namR_ok {B : Nat → Int32} {L : Nat} {R : pT} (h : okTk L R) (hne : ∀ t, R = .inr t → t.1 ≠ 0) : okTk L (namR B L R) := by
  match R, h, hne with
  | .inl e, h, _ => exact h
  | .inr t, h, hne => exact nxt_ok (h.2.2 (hne t rfl)).2
theorem flr_ne {c : Nat} {b : Bool} {t : tkT} (h : t.1 ≠ 0) : ∀ u, flr c b (.inr t) = .inr u → u.1 ≠ 0 := by
  intro u hu
  cases b
  · have : t = u := by simpa [flr] using hu
    subst this; exact h
  · exact absurd hu (by simp [flr])
/-- what a line's method leaves -/
def lnP (x : Nat) (m : gMem) (Q : lnT) (m' : gMem) : Prop := rd2 x m m' ∧ RS (m'.1 (x + 20)) Q.1 ∧ pgC m' (x + 9) = Q.2.1 ∧ m'.1 (x + 20) 7 = Q.2.2.1 ∧ m'.1 (x + 20) 8 = Q.2.2.2
theorem RS.w {m : gMem} {a k : Nat} {v : Int32} {R : pT} (h : RS (m.1 a) R) (hk : k = 7 ∨ k = 8) : RS ((gW m a k v).1 a) R := h.c (fun j h1 h6 => gW_n (fun q => by omega))
theorem gP_20 (m : gMem) (x : Nat) (g : Nat → Int32) : (gP m (x + 9) g).1 (x + 20) = m.1 (x + 20) := gP_row (by omega)
theorem cR_takeFlow (E : gEv) (σ : gSg) (m : gMem) (hi x L : Nat) (t : tkT) (hN : gN σ x) (hT : okT m x L) (hR : RS (m.1 (x + 20)) (.inr t)) (hk : okTk L (.inr t)) (h0 : t.1 ≠ 0) : gCo E yX1_takeFlow cX1_takeFlow 2 (none) 3 [.ref (x + 20), .ref (x + 9)] σ m hi (fun v' m' => v' = none ∧ lnP x m ((ln1 (m.1 (x + 22)) L 4 (decide (m.1 (x + 20) 7 ≠ 0)) 40 t).1, upd (pgC m (x + 9)) 50 (ln1 (m.1 (x + 22)) L 4 (decide (m.1 (x + 20) 7 ≠ 0)) 40 t).2, 1, m.1 (x + 20) 8) m') := by
  refine gCo.of mwX1_takeFlow (Nat.le_of_ble_eq_true rfl) ?_
  intro F hF
  have h20 := hN.2.2.2.2.2.2.1
  have h9 := hN.2.2.1.1
  have hkf := flr_ok (L := L) (c := 4) (by decide) (b := decide (m.1 (x + 20) 7 ≠ 0)) hk
  have hne := flr_ne (c := 4) (b := decide (m.1 (x + 20) 7 ≠ 0)) h0
  have K16 : ∀ m1 : gMem, rdr x m m1 → RS (m1.1 (x + 20)) (flr 4 (decide (m.1 (x + 20) 7 ≠ 0)) (.inr t)) → (gJ E yX1_takeFlow cX1_takeFlow 2 (none) (gRm 3 0 0) F 16 ([some (.ref (x + 20)), some (.ref (x + 9))]) ([]) 0 0 σ (m1) hi) := by
    intro m1 hr1 hR1
    refine j_aload_n (q := 17) dX1_takeFlow_16 rfl (by rfl) ?_
    refine j_iconst (q := 18) (v := 1) dX1_takeFlow_17 rfl (by decide) ?_
    refine j_putz (q := 21) dX1_takeFlow_18 rfl fX1_28 p1_7 (by assumption) (by rfl) (by first | assumption | exact Or.inl rfl | exact Or.inr rfl) ?_
    refine j_aload_n (q := 22) dX1_takeFlow_21 rfl (by rfl) ?_
    have hr1' := hr1.d.tr (rd2.w x m1 7 1)
    refine o_callVx (q := 25) dX1_takeFlow_22 rfl lX1_74 mwX1_passName mvX1_passName cn1 (by assumption) (by rfl) rfl (Nat.le_of_ble_eq_true (by rfl)) (by first | decide | omega) (cR_passName E σ (gW m1 (x + 20) 7 1) hi x L _ hN (hT.d hr1') (hR1.w (Or.inl rfl)) hkf hne) ?_
    rintro _ m2 ⟨rfl, hr2, hR2⟩
    rw [hr1'.b] at hR2
    refine j_aload_n (q := 26) dX1_takeFlow_25 rfl (by rfl) ?_
    refine j_aload_n (q := 27) dX1_takeFlow_26 rfl (by rfl) ?_
    refine j_iconst (q := 28) (v := 0) dX1_takeFlow_27 rfl (by decide) ?_
    refine j_bipush (q := 30) (v := 40) dX1_takeFlow_28 rfl (by decide) ?_
    refine o_callVx (q := 33) dX1_takeFlow_30 rfl lX1_77 mwX1_takeNumber mvX1_takeNumber cn1 (by assumption) (by rfl) rfl (Nat.le_of_ble_eq_true (by rfl)) (by first | decide | omega) (cR_takeNumber E σ m2 hi x L 0 40 _ hN ((hT.d hr1').r hr2) hR2 (namR_ok hkf hne)) ?_
    rintro _ m3 ⟨rfl, hr3, hR3⟩
    rw [hr2.b, hr1'.b] at hR3
    refine j_puti (q := 36) dX1_takeFlow_33 rfl fX1_81 p0_6 (by assumption) (by rfl) ?_
    rw [gW_pg (gIxP_n6 (x + 9))]
    refine j_aload_n (q := 37) dX1_takeFlow_36 rfl (by rfl) ?_
    refine o_callVx (q := 40) dX1_takeFlow_37 rfl lX1_84 mwX1_takeStop mvX1_takeStop cn1 (by assumption) (by rfl) rfl (Nat.le_of_ble_eq_true (by rfl)) (by first | decide | omega) (cR_takeStop E σ _ hi x L _ hN (((hT.d hr1').r hr2 |>.r hr3).d (rd2.p m3 _)) (by rw [gP_20]; exact hR3) (numR_ok _ _ (namR_ok hkf hne))) ?_
    rintro _ m4 ⟨rfl, hr4, hR4⟩
    rw [(rd2.p m3 _).b, hr3.b, hr2.b, hr1'.b] at hR4
    refine o_vret hF rfl dX1_takeFlow_40 ?_
    refine ⟨rfl, ?_, hR4, ?_, ?_, ?_⟩
    · exact (hr1'.tr hr2.d).tr (hr3.d.tr ((rd2.p m3 _).tr hr4.d))
    · rw [hr4.pg, pgC_gP (upd_0 (pgC_0 _ _) (by decide) _), hr3.pg, hr2.pg]
      congr 1
      funext i
      by_cases hi : i < 53
      · have := cq_in (x + 9) i
        rw [pgC_lt hi, pgC_lt hi, gW_n (fun q => by omega), hr1.1 (cq (x + 9) i) (by omega)]
      · rw [pgC_0 _ _ i (by omega), pgC_0 _ _ i (by omega)]
    · rw [hr4.2.1, gP_20, hr3.2.1, hr2.2.1, gW_s]
    · rw [hr4.2.2, gP_20, hr3.2.2, hr2.2.2, gW_n (by omega), hr1.2.2]
  refine j_aload_n (q := 1) dX1_takeFlow_0 rfl (by rfl) ?_
  refine j_geti (q := 4) dX1_takeFlow_1 rfl fX1_28 (by assumption) (by rfl) ?_
  refine j_if_eq (q := 7) (tgt := 16) dX1_takeFlow_4 rfl (by decide) (fun h4 => ?_) (fun h4 => ?_)
  · have e : flr 4 (decide (m.1 (x + 20) 7 ≠ 0)) (.inr t) = .inr t := by rw [h4]; rfl
    exact K16 m (rdr.rf x m) (by rw [e]; exact hR)
  · have e : flr 4 (decide (m.1 (x + 20) 7 ≠ 0)) (.inr t) = .inl (4, t.2.1) := by rw [decide_eq_true h4]; rfl
    refine j_aload_n (q := 8) dX1_takeFlow_7 rfl (by rfl) ?_
    refine j_iconst (q := 9) (v := 4) dX1_takeFlow_8 rfl (by decide) ?_
    refine j_aload_n (q := 10) dX1_takeFlow_9 rfl (by rfl) ?_
    refine j_geti (q := 13) dX1_takeFlow_10 rfl fX1_54 (by assumption) (by rfl) ?_
    rw [hR.2.2.1]
    refine o_callVx (q := 16) dX1_takeFlow_13 rfl lX1_57 mwX1_fail mvX1_fail cn1 (by assumption) (by rfl) rfl (Nat.le_of_ble_eq_true (by rfl)) (by first | decide | omega) (cR_failAt E σ m hi x 4 t hN hR) ?_
    rintro _ m1 ⟨rfl, q1, q2⟩
    exact K16 m1 q1 (by rw [e]; exact q2)
theorem cR_takeCalm (E : gEv) (σ : gSg) (m : gMem) (hi x L : Nat) (t : tkT) (hN : gN σ x) (hT : okT m x L) (hR : RS (m.1 (x + 20)) (.inr t)) (hk : okTk L (.inr t)) (h0 : t.1 ≠ 0) : gCo E yX1_takeCalm cX1_takeCalm 2 (none) 3 [.ref (x + 20), .ref (x + 9)] σ m hi (fun v' m' => v' = none ∧ lnP x m ((ln1 (m.1 (x + 22)) L 4 (decide (m.1 (x + 20) 8 ≠ 0)) 20 t).1, upd (pgC m (x + 9)) 51 (ln1 (m.1 (x + 22)) L 4 (decide (m.1 (x + 20) 8 ≠ 0)) 20 t).2, m.1 (x + 20) 7, 1) m') := by
  refine gCo.of mwX1_takeCalm (Nat.le_of_ble_eq_true rfl) ?_
  intro F hF
  have h20 := hN.2.2.2.2.2.2.1
  have h9 := hN.2.2.1.1
  have hkf := flr_ok (L := L) (c := 4) (by decide) (b := decide (m.1 (x + 20) 8 ≠ 0)) hk
  have hne := flr_ne (c := 4) (b := decide (m.1 (x + 20) 8 ≠ 0)) h0
  have K16 : ∀ m1 : gMem, rdr x m m1 → RS (m1.1 (x + 20)) (flr 4 (decide (m.1 (x + 20) 8 ≠ 0)) (.inr t)) → (gJ E yX1_takeCalm cX1_takeCalm 2 (none) (gRm 3 0 0) F 16 ([some (.ref (x + 20)), some (.ref (x + 9))]) ([]) 0 0 σ (m1) hi) := by
    intro m1 hr1 hR1
    refine j_aload_n (q := 17) dX1_takeCalm_16 rfl (by rfl) ?_
    refine j_iconst (q := 18) (v := 1) dX1_takeCalm_17 rfl (by decide) ?_
    refine j_putz (q := 21) dX1_takeCalm_18 rfl fX1_32 p1_8 (by assumption) (by rfl) (by first | assumption | exact Or.inl rfl | exact Or.inr rfl) ?_
    refine j_aload_n (q := 22) dX1_takeCalm_21 rfl (by rfl) ?_
    have hr1' := hr1.d.tr (rd2.w x m1 8 1)
    refine o_callVx (q := 25) dX1_takeCalm_22 rfl lX1_74 mwX1_passName mvX1_passName cn1 (by assumption) (by rfl) rfl (Nat.le_of_ble_eq_true (by rfl)) (by first | decide | omega) (cR_passName E σ (gW m1 (x + 20) 8 1) hi x L _ hN (hT.d hr1') (hR1.w (Or.inr rfl)) hkf hne) ?_
    rintro _ m2 ⟨rfl, hr2, hR2⟩
    rw [hr1'.b] at hR2
    refine j_aload_n (q := 26) dX1_takeCalm_25 rfl (by rfl) ?_
    refine j_aload_n (q := 27) dX1_takeCalm_26 rfl (by rfl) ?_
    refine j_iconst (q := 28) (v := 0) dX1_takeCalm_27 rfl (by decide) ?_
    refine j_bipush (q := 30) (v := 20) dX1_takeCalm_28 rfl (by decide) ?_
    refine o_callVx (q := 33) dX1_takeCalm_30 rfl lX1_77 mwX1_takeNumber mvX1_takeNumber cn1 (by assumption) (by rfl) rfl (Nat.le_of_ble_eq_true (by rfl)) (by first | decide | omega) (cR_takeNumber E σ m2 hi x L 0 20 _ hN ((hT.d hr1').r hr2) hR2 (namR_ok hkf hne)) ?_
    rintro _ m3 ⟨rfl, hr3, hR3⟩
    rw [hr2.b, hr1'.b] at hR3
    refine j_puti (q := 36) dX1_takeCalm_33 rfl fX1_87 p0_7 (by assumption) (by rfl) ?_
    rw [gW_pg (gIxP_n7 (x + 9))]
    refine j_aload_n (q := 37) dX1_takeCalm_36 rfl (by rfl) ?_
    refine o_callVx (q := 40) dX1_takeCalm_37 rfl lX1_84 mwX1_takeStop mvX1_takeStop cn1 (by assumption) (by rfl) rfl (Nat.le_of_ble_eq_true (by rfl)) (by first | decide | omega) (cR_takeStop E σ _ hi x L _ hN (((hT.d hr1').r hr2 |>.r hr3).d (rd2.p m3 _)) (by rw [gP_20]; exact hR3) (numR_ok _ _ (namR_ok hkf hne))) ?_
    rintro _ m4 ⟨rfl, hr4, hR4⟩
    rw [(rd2.p m3 _).b, hr3.b, hr2.b, hr1'.b] at hR4
    refine o_vret hF rfl dX1_takeCalm_40 ?_
    refine ⟨rfl, ?_, hR4, ?_, ?_, ?_⟩
    · exact (hr1'.tr hr2.d).tr (hr3.d.tr ((rd2.p m3 _).tr hr4.d))
    · rw [hr4.pg, pgC_gP (upd_0 (pgC_0 _ _) (by decide) _), hr3.pg, hr2.pg]
      congr 1
      funext i
      by_cases hi : i < 53
      · have := cq_in (x + 9) i
        rw [pgC_lt hi, pgC_lt hi, gW_n (fun q => by omega), hr1.1 (cq (x + 9) i) (by omega)]
      · rw [pgC_0 _ _ i (by omega), pgC_0 _ _ i (by omega)]
    · rw [hr4.2.1, gP_20, hr3.2.1, hr2.2.1, gW_n (by omega), hr1.2.1]
    · rw [hr4.2.2, gP_20, hr3.2.2, hr2.2.2, gW_s]
  refine j_aload_n (q := 1) dX1_takeCalm_0 rfl (by rfl) ?_
  refine j_geti (q := 4) dX1_takeCalm_1 rfl fX1_32 (by assumption) (by rfl) ?_
  refine j_if_eq (q := 7) (tgt := 16) dX1_takeCalm_4 rfl (by decide) (fun h4 => ?_) (fun h4 => ?_)
  · have e : flr 4 (decide (m.1 (x + 20) 8 ≠ 0)) (.inr t) = .inr t := by rw [h4]; rfl
    exact K16 m (rdr.rf x m) (by rw [e]; exact hR)
  · have e : flr 4 (decide (m.1 (x + 20) 8 ≠ 0)) (.inr t) = .inl (4, t.2.1) := by rw [decide_eq_true h4]; rfl
    refine j_aload_n (q := 8) dX1_takeCalm_7 rfl (by rfl) ?_
    refine j_iconst (q := 9) (v := 4) dX1_takeCalm_8 rfl (by decide) ?_
    refine j_aload_n (q := 10) dX1_takeCalm_9 rfl (by rfl) ?_
    refine j_geti (q := 13) dX1_takeCalm_10 rfl fX1_54 (by assumption) (by rfl) ?_
    rw [hR.2.2.1]
    refine o_callVx (q := 16) dX1_takeCalm_13 rfl lX1_57 mwX1_fail mvX1_fail cn1 (by assumption) (by rfl) rfl (Nat.le_of_ble_eq_true (by rfl)) (by first | decide | omega) (cR_failAt E σ m hi x 4 t hN hR) ?_
    rintro _ m1 ⟨rfl, q1, q2⟩
    exact K16 m1 q1 (by rw [e]; exact q2)
theorem cR_takeHour (E : gEv) (σ : gSg) (m : gMem) (hi x L r : Nat) (t : tkT) (hN : gN σ x) (hT : okT m x L) (hR : RS (m.1 (x + 20)) (.inr t)) (hk : okTk L (.inr t)) (h0 : t.1 ≠ 0) (hr : pgC m (x + 9) 49 = nI r) (hr12 : r ≤ 12) : gCo E yX1_takeHour cX1_takeHour 4 (none) 3 [.ref (x + 20), .ref (x + 9)] σ m hi (fun v' m' => v' = none ∧ lnP x m ((ln2 (m.1 (x + 22)) L (decide (12 ≤ r)) 0 9 4 t).1, if r < 12 then addR (pgC m (x + 9)) r (ln2 (m.1 (x + 22)) L (decide (12 ≤ r)) 0 9 4 t).2.1 (ln2 (m.1 (x + 22)) L (decide (12 ≤ r)) 0 9 4 t).2.2 else pgC m (x + 9), m.1 (x + 20) 7, m.1 (x + 20) 8) m') := by
  refine gCo.of mwX1_takeHour (Nat.le_of_ble_eq_true rfl) ?_
  intro F hF
  have h20 := hN.2.2.2.2.2.2.1
  have h9 := hN.2.2.1.1
  have hkf := flr_ok (L := L) (c := 5) (by decide) (b := decide (12 ≤ r)) hk
  have hne := flr_ne (c := 5) (b := decide (12 ≤ r)) h0
  have K18 : ∀ m1 : gMem, rdr x m m1 → RS (m1.1 (x + 20)) (flr 5 (decide (12 ≤ r)) (.inr t)) → (gJ E yX1_takeHour cX1_takeHour 4 (none) (gRm 3 0 0) F 18 ([some (.ref (x + 20)), some (.ref (x + 9)), none, none]) ([]) 0 0 σ (m1) hi) := by
    intro m1 hr1 hR1
    refine j_aload_n (q := 19) dX1_takeHour_18 rfl (by rfl) ?_
    refine o_callVx (q := 22) dX1_takeHour_19 rfl lX1_74 mwX1_passName mvX1_passName cn1 (by assumption) (by rfl) rfl (Nat.le_of_ble_eq_true (by rfl)) (by first | decide | omega) (cR_passName E σ m1 hi x L _ hN (hT.r hr1) hR1 hkf hne) ?_
    rintro _ m2 ⟨rfl, hr2, hR2⟩
    rw [hr1.b] at hR2
    refine j_aload_n (q := 23) dX1_takeHour_22 rfl (by rfl) ?_
    refine j_iconst (q := 24) (v := 0) dX1_takeHour_23 rfl (by decide) ?_
    refine j_bipush (q := 26) (v := 9) dX1_takeHour_24 rfl (by decide) ?_
    refine o_callVx (q := 29) dX1_takeHour_26 rfl lX1_77 mwX1_takeNumber mvX1_takeNumber cn1 (by assumption) (by rfl) rfl (Nat.le_of_ble_eq_true (by rfl)) (by first | decide | omega) (cR_takeNumber E σ m2 hi x L 0 9 _ hN ((hT.r hr1).r hr2) hR2 (namR_ok hkf hne)) ?_
    rintro _ m3 ⟨rfl, hr3, hR3⟩
    rw [hr2.b, hr1.b] at hR3
    refine j_istore_n (q := 30) dX1_takeHour_29 rfl (by decide) ?_
    refine j_aload_n (q := 31) dX1_takeHour_30 rfl (by rfl) ?_
    refine j_iconst (q := 32) (v := 0) dX1_takeHour_31 rfl (by decide) ?_
    refine j_iconst (q := 33) (v := 4) dX1_takeHour_32 rfl (by decide) ?_
    refine o_callVx (q := 36) dX1_takeHour_33 rfl lX1_77 mwX1_takeNumber mvX1_takeNumber cn1 (by assumption) (by rfl) rfl (Nat.le_of_ble_eq_true (by rfl)) (by first | decide | omega) (cR_takeNumber E σ m3 hi x L 0 4 _ hN (((hT.r hr1).r hr2).r hr3) hR3 (numR_ok _ _ (namR_ok hkf hne))) ?_
    rintro _ m4 ⟨rfl, hr4, hR4⟩
    rw [hr3.b, hr2.b, hr1.b] at hR4
    refine j_istore_n (q := 37) dX1_takeHour_36 rfl (by decide) ?_
    refine j_aload_n (q := 38) dX1_takeHour_37 rfl (by rfl) ?_
    refine o_callVx (q := 41) dX1_takeHour_38 rfl lX1_84 mwX1_takeStop mvX1_takeStop cn1 (by assumption) (by rfl) rfl (Nat.le_of_ble_eq_true (by rfl)) (by first | decide | omega) (cR_takeStop E σ m4 hi x L _ hN ((((hT.r hr1).r hr2).r hr3).r hr4) hR4 (numR_ok _ _ (numR_ok _ _ (namR_ok hkf hne)))) ?_
    rintro _ m5 ⟨rfl, hr5, hR5⟩
    rw [hr4.b, hr3.b, hr2.b, hr1.b] at hR5
    have hrr := (((hr1.tr hr2).tr hr3).tr hr4).tr hr5
    have hM := cG_moreRows E σ m5 hi (x + 9) r (numV 0 9 (namR (m.1 (x + 22)) L (flr 5 (decide (12 ≤ r)) (.inr t)))) (numV 0 4 (numR (m.1 (x + 22)) L 0 9 (namR (m.1 (x + 22)) L (flr 5 (decide (12 ≤ r)) (.inr t))))) hN.2.2.1 (by rw [hrr.pg]; exact hr) hr12
    rw [hrr.pg] at hM
    refine j_aload_n (q := 42) dX1_takeHour_41 rfl (by rfl) ?_
    refine j_iload_n (q := 43) dX1_takeHour_42 rfl (by rfl) ?_
    refine j_iload_n (q := 44) dX1_takeHour_43 rfl (by rfl) ?_
    refine o_callVi (q := 47) dX1_takeHour_44 rfl lX1_93 mwX0_moreRows mvX0_moreRows cn0 (by assumption) (by rfl) rfl (Nat.le_of_ble_eq_true (by rfl)) (by first | decide | omega) (hM) ?_
    refine j_pop (q := 48) dX1_takeHour_47 rfl rfl ?_
    refine o_vret hF rfl dX1_takeHour_48 ?_
    by_cases hlt : r < 12
    · rw [if_pos hlt, if_pos hlt]
      exact ⟨rfl, hrr.d.tr (rd2.p m5 _), by rw [gP_20]; exact hR5, pgC_gP (addR_0 (pgC_0 _ _) hlt _ _) _ _, by rw [gP_20]; exact hrr.2.1, by rw [gP_20]; exact hrr.2.2⟩
    · rw [if_neg hlt, if_neg hlt]
      exact ⟨rfl, hrr.d, hR5, hrr.pg, hrr.2.1, hrr.2.2⟩
  refine j_aload_n (q := 1) dX1_takeHour_0 rfl (by rfl) ?_
  refine j_geti (q := 4) dX1_takeHour_1 rfl fX1_90 (by assumption) (by rfl) ?_
  refine j_bipush (q := 6) (v := 12) dX1_takeHour_4 rfl (by decide) ?_
  rw [pg_4, hr]
  refine j_icmp_lt (q := 9) (tgt := 18) dX1_takeHour_6 rfl (by decide) (fun h6 => ?_) (fun h6 => ?_)
  · have hlt : r < 12 := (nI_ltI (b := 12) (by omega) (by omega)).mp h6
    exact K18 m (rdr.rf x m) (by rw [decide_eq_false (by omega)]; exact hR)
  · have hge : 12 ≤ r := Nat.not_lt.mp (fun q => h6 (nI_lt (b := 12) q (by omega)))
    refine j_aload_n (q := 10) dX1_takeHour_9 rfl (by rfl) ?_
    refine j_iconst (q := 11) (v := 5) dX1_takeHour_10 rfl (by decide) ?_
    refine j_aload_n (q := 12) dX1_takeHour_11 rfl (by rfl) ?_
    refine j_geti (q := 15) dX1_takeHour_12 rfl fX1_54 (by assumption) (by rfl) ?_
    rw [hR.2.2.1]
    refine o_callVx (q := 18) dX1_takeHour_15 rfl lX1_57 mwX1_fail mvX1_fail cn1 (by assumption) (by rfl) rfl (Nat.le_of_ble_eq_true (by rfl)) (by first | decide | omega) (cR_failAt E σ m hi x 5 t hN hR) ?_
    rintro _ m1 ⟨rfl, q1, q2⟩
    exact K18 m1 q1 (by rw [decide_eq_true hge]; exact q2)
theorem opn_0 {g : Nat → Int32} (h : pg0 g) {c : Nat} (hc : c < 4) (a b u : Int32) : pg0 (opn g c a b u) := upd_0 (upd_0 (upd_0 (upd_0 (upd_0 (upd_0 (upd_0 h (by omega) _) (by omega) _) (by omega) _) (by omega) _) (by omega) _) (by omega) _) (by omega) _
theorem cR_takeVent (E : gEv) (σ : gSg) (m : gMem) (hi x L c : Nat) (kd : Int32) (t : tkT) (hN : gN σ x) (hT : okT m x L) (hR : RS (m.1 (x + 20)) (.inr t)) (hk : okTk L (.inr t)) (h0 : t.1 ≠ 0) (hr : pgC m (x + 9) 24 = nI c) (hc4 : c ≤ 4) : gCo E yX1_takeVent cX1_takeVent 5 (none) 3 [.ref (x + 20), .ref (x + 9), .int kd] σ m hi (fun v' m' => v' = none ∧ lnP x m ((ln2 (m.1 (x + 22)) L (decide (4 ≤ c)) 1 60 9 t).1, if c < 4 then opn (pgC m (x + 9)) c kd (ln2 (m.1 (x + 22)) L (decide (4 ≤ c)) 1 60 9 t).2.1 (ln2 (m.1 (x + 22)) L (decide (4 ≤ c)) 1 60 9 t).2.2 else pgC m (x + 9), m.1 (x + 20) 7, m.1 (x + 20) 8) m') := by
  refine gCo.of mwX1_takeVent (Nat.le_of_ble_eq_true rfl) ?_
  intro F hF
  have h20 := hN.2.2.2.2.2.2.1
  have h9 := hN.2.2.1.1
  have hkf := flr_ok (L := L) (c := 5) (by decide) (b := decide (4 ≤ c)) hk
  have hne := flr_ne (c := 5) (b := decide (4 ≤ c)) h0
  have K17 : ∀ m1 : gMem, rdr x m m1 → RS (m1.1 (x + 20)) (flr 5 (decide (4 ≤ c)) (.inr t)) → (gJ E yX1_takeVent cX1_takeVent 5 (none) (gRm 3 0 0) F 17 ([some (.ref (x + 20)), some (.ref (x + 9)), some (.int kd), none, none]) ([]) 0 0 σ (m1) hi) := by
    intro m1 hr1 hR1
    refine j_aload_n (q := 18) dX1_takeVent_17 rfl (by rfl) ?_
    refine o_callVx (q := 21) dX1_takeVent_18 rfl lX1_74 mwX1_passName mvX1_passName cn1 (by assumption) (by rfl) rfl (Nat.le_of_ble_eq_true (by rfl)) (by first | decide | omega) (cR_passName E σ m1 hi x L _ hN (hT.r hr1) hR1 hkf hne) ?_
    rintro _ m2 ⟨rfl, hr2, hR2⟩
    rw [hr1.b] at hR2
    refine j_aload_n (q := 22) dX1_takeVent_21 rfl (by rfl) ?_
    refine j_iconst (q := 23) (v := 1) dX1_takeVent_22 rfl (by decide) ?_
    refine j_bipush (q := 25) (v := 60) dX1_takeVent_23 rfl (by decide) ?_
    refine o_callVx (q := 28) dX1_takeVent_25 rfl lX1_77 mwX1_takeNumber mvX1_takeNumber cn1 (by assumption) (by rfl) rfl (Nat.le_of_ble_eq_true (by rfl)) (by first | decide | omega) (cR_takeNumber E σ m2 hi x L 1 60 _ hN ((hT.r hr1).r hr2) hR2 (namR_ok hkf hne)) ?_
    rintro _ m3 ⟨rfl, hr3, hR3⟩
    rw [hr2.b, hr1.b] at hR3
    refine j_istore_n (q := 29) dX1_takeVent_28 rfl (by decide) ?_
    refine j_aload_n (q := 30) dX1_takeVent_29 rfl (by rfl) ?_
    refine j_iconst (q := 31) (v := 0) dX1_takeVent_30 rfl (by decide) ?_
    refine j_bipush (q := 33) (v := 9) dX1_takeVent_31 rfl (by decide) ?_
    refine o_callVx (q := 36) dX1_takeVent_33 rfl lX1_77 mwX1_takeNumber mvX1_takeNumber cn1 (by assumption) (by rfl) rfl (Nat.le_of_ble_eq_true (by rfl)) (by first | decide | omega) (cR_takeNumber E σ m3 hi x L 0 9 _ hN (((hT.r hr1).r hr2).r hr3) hR3 (numR_ok _ _ (namR_ok hkf hne))) ?_
    rintro _ m4 ⟨rfl, hr4, hR4⟩
    rw [hr3.b, hr2.b, hr1.b] at hR4
    refine j_istore (q := 38) dX1_takeVent_36 rfl (by decide) ?_
    refine j_aload_n (q := 39) dX1_takeVent_38 rfl (by rfl) ?_
    refine o_callVx (q := 42) dX1_takeVent_39 rfl lX1_84 mwX1_takeStop mvX1_takeStop cn1 (by assumption) (by rfl) rfl (Nat.le_of_ble_eq_true (by rfl)) (by first | decide | omega) (cR_takeStop E σ m4 hi x L _ hN ((((hT.r hr1).r hr2).r hr3).r hr4) hR4 (numR_ok _ _ (numR_ok _ _ (namR_ok hkf hne)))) ?_
    rintro _ m5 ⟨rfl, hr5, hR5⟩
    rw [hr4.b, hr3.b, hr2.b, hr1.b] at hR5
    have hrr := (((hr1.tr hr2).tr hr3).tr hr4).tr hr5
    have hM := cG_moreVents E σ m5 hi (x + 9) c kd (numV 1 60 (namR (m.1 (x + 22)) L (flr 5 (decide (4 ≤ c)) (.inr t)))) (numV 0 9 (numR (m.1 (x + 22)) L 1 60 (namR (m.1 (x + 22)) L (flr 5 (decide (4 ≤ c)) (.inr t))))) hN.2.2.1 (by rw [hrr.pg]; exact hr) hc4
    rw [hrr.pg] at hM
    refine j_aload_n (q := 43) dX1_takeVent_42 rfl (by rfl) ?_
    refine j_iload_n (q := 44) dX1_takeVent_43 rfl (by rfl) ?_
    refine j_iload_n (q := 45) dX1_takeVent_44 rfl (by rfl) ?_
    refine j_iload (q := 47) dX1_takeVent_45 rfl (by rfl) ?_
    refine o_callVi (q := 50) dX1_takeVent_47 rfl lX1_100 mwX0_moreVents mvX0_moreVents cn0 (by assumption) (by rfl) rfl (Nat.le_of_ble_eq_true (by rfl)) (by first | decide | omega) (hM) ?_
    refine j_pop (q := 51) dX1_takeVent_50 rfl rfl ?_
    refine o_vret hF rfl dX1_takeVent_51 ?_
    by_cases hlt : c < 4
    · rw [if_pos hlt, if_pos hlt]
      exact ⟨rfl, hrr.d.tr (rd2.p m5 _), by rw [gP_20]; exact hR5, pgC_gP (opn_0 (pgC_0 _ _) hlt _ _ _) _ _, by rw [gP_20]; exact hrr.2.1, by rw [gP_20]; exact hrr.2.2⟩
    · rw [if_neg hlt, if_neg hlt]
      exact ⟨rfl, hrr.d, hR5, hrr.pg, hrr.2.1, hrr.2.2⟩
  refine j_aload_n (q := 1) dX1_takeVent_0 rfl (by rfl) ?_
  refine j_geti (q := 4) dX1_takeVent_1 rfl fX1_97 (by assumption) (by rfl) ?_
  refine j_iconst (q := 5) (v := 4) dX1_takeVent_4 rfl (by decide) ?_
  rw [pg_3, hr]
  refine j_icmp_lt (q := 8) (tgt := 17) dX1_takeVent_5 rfl (by decide) (fun h5 => ?_) (fun h5 => ?_)
  · have hlt : c < 4 := (nI_ltI (b := 4) (by omega) (by omega)).mp h5
    exact K17 m (rdr.rf x m) (by rw [decide_eq_false (by omega)]; exact hR)
  · have hge : 4 ≤ c := Nat.not_lt.mp (fun q => h5 (nI_lt (b := 4) q (by omega)))
    refine j_aload_n (q := 9) dX1_takeVent_8 rfl (by rfl) ?_
    refine j_iconst (q := 10) (v := 5) dX1_takeVent_9 rfl (by decide) ?_
    refine j_aload_n (q := 11) dX1_takeVent_10 rfl (by rfl) ?_
    refine j_geti (q := 14) dX1_takeVent_11 rfl fX1_54 (by assumption) (by rfl) ?_
    rw [hR.2.2.1]
    refine o_callVx (q := 17) dX1_takeVent_14 rfl lX1_57 mwX1_fail mvX1_fail cn1 (by assumption) (by rfl) rfl (Nat.le_of_ble_eq_true (by rfl)) (by first | decide | omega) (cR_failAt E σ m hi x 5 t hN hR) ?_
    rintro _ m1 ⟨rfl, q1, q2⟩
    exact K17 m1 q1 (by rw [decide_eq_true hge]; exact q2)
theorem nmI_lt (B : Nat → Int32) (t : tkT) : nmI B t < 8 := by
  unfold nmI
  repeat' split
  all_goals decide
/-- a page's counts in their bounds -/
def okG (g : Nat → Int32) : Prop := (∃ c, g 24 = nI c ∧ c ≤ 4) ∧ ∃ r, g 49 = nI r ∧ r ≤ 12
theorem cR_takeLine (E : gEv) (σ : gSg) (m : gMem) (hi x L : Nat) (t : tkT) (hN : gN σ x) (hT : okT m x L) (hR : RS (m.1 (x + 20)) (.inr t)) (hk : okTk L (.inr t)) (h0 : t.1 ≠ 0) (hg : okG (pgC m (x + 9))) : gCo E yX1_takeLine cX1_takeLine 3 (none) 6 [.ref (x + 20), .ref (x + 9)] σ m hi (fun v' m' => v' = none ∧ lnP x m (lnR (m.1 (x + 22)) L t (pgC m (x + 9)) (m.1 (x + 20) 7) (m.1 (x + 20) 8)) m') := by
  refine gCo.of mwX1_takeLine (Nat.le_of_ble_eq_true rfl) ?_
  intro F hF
  have h20 := hN.2.2.2.2.2.2.1
  obtain ⟨⟨c, hc, hc4⟩, r, hr, hr12⟩ := hg
  have hcn : cnt (pgC m (x + 9)) = c := by unfold cnt; rw [hc, nI_clamp (by omega)]
  have hrn : rws (pgC m (x + 9)) = r := by unfold rws; rw [hr, nI_clamp (by omega)]
  have h8 := nmI_lt (m.1 (x + 22)) t
  have hno : ∀ k, k < 8 → nI (nmI (m.1 (x + 22)) t) = nI k → nmI (m.1 (x + 22)) t = k := fun k hk h => nI_inj (by omega) (by omega) h
  unfold lnR at hF
  rw [hcn, hrn] at hF
  refine j_aload_n (q := 1) dX1_takeLine_0 rfl (by rfl) ?_
  refine o_callVi (q := 4) dX1_takeLine_1 rfl lX1_50 mwX1_lineOfName mvX1_lineOfName cn1 (by assumption) (by rfl) rfl (Nat.le_of_ble_eq_true (by rfl)) (by first | decide | omega) (cR_lineOfName E σ m hi x L t hN hT hR hk) ?_
  refine j_istore_n (q := 5) dX1_takeLine_4 rfl (by decide) ?_
  refine j_iload_n (q := 6) dX1_takeLine_5 rfl (by rfl) ?_
  refine j_bipush (q := 8) (v := 7) dX1_takeLine_6 rfl (by decide) ?_
  refine j_icmp_ne (q := 11) (tgt := 23) dX1_takeLine_8 rfl (by decide) (fun h8' => ?_) (fun h8' => ?_)
  · have n7 : ¬ nmI (m.1 (x + 22)) t = 7 := fun q => h8' (by rw [q]; rfl)
    rw [if_neg n7] at hF
    refine j_iload_n (q := 24) dX1_takeLine_23 rfl (by rfl) ?_
    refine j_iconst (q := 25) (v := 4) dX1_takeLine_24 rfl (by decide) ?_
    refine j_icmp_ne (q := 28) (tgt := 36) dX1_takeLine_25 rfl (by decide) (fun h25 => ?_) (fun h25 => ?_)
    · have n4 : ¬ nmI (m.1 (x + 22)) t = 4 := fun q => h25 (by rw [q]; rfl)
      rw [if_neg n4] at hF
      refine j_iload_n (q := 37) dX1_takeLine_36 rfl (by rfl) ?_
      refine j_iconst (q := 38) (v := 5) dX1_takeLine_37 rfl (by decide) ?_
      refine j_icmp_ne (q := 41) (tgt := 49) dX1_takeLine_38 rfl (by decide) (fun h38 => ?_) (fun h38 => ?_)
      · have n5 : ¬ nmI (m.1 (x + 22)) t = 5 := fun q => h38 (by rw [q]; rfl)
        rw [if_neg n5] at hF
        refine j_iload_n (q := 50) dX1_takeLine_49 rfl (by rfl) ?_
        refine j_bipush (q := 52) (v := 6) dX1_takeLine_50 rfl (by decide) ?_
        refine j_icmp_ne (q := 55) (tgt := 63) dX1_takeLine_52 rfl (by decide) (fun h52 => ?_) (fun h52 => ?_)
        · have n6 : ¬ nmI (m.1 (x + 22)) t = 6 := fun q => h52 (by rw [q]; rfl)
          rw [if_neg n6] at hF
          refine j_aload_n (q := 64) dX1_takeLine_63 rfl (by rfl) ?_
          refine j_aload_n (q := 65) dX1_takeLine_64 rfl (by rfl) ?_
          refine j_iload_n (q := 66) dX1_takeLine_65 rfl (by rfl) ?_
          refine o_callVx (q := 69) dX1_takeLine_66 rfl lX1_70 mwX1_takeVent mvX1_takeVent cn1 (by assumption) (by rfl) rfl (Nat.le_of_ble_eq_true (by rfl)) (by first | decide | omega) (cR_takeVent E σ m hi x L c _ t hN hT hR hk h0 hc hc4) ?_
          rintro _ m1 ⟨rfl, q⟩
          refine o_vret hF rfl dX1_takeLine_69 ?_
          exact ⟨rfl, q⟩
        · rw [if_pos (hno 6 (by decide) (by first | exact h52 | exact Decidable.not_not.mp h52))] at hF
          refine j_aload_n (q := 56) dX1_takeLine_55 rfl (by rfl) ?_
          refine j_aload_n (q := 57) dX1_takeLine_56 rfl (by rfl) ?_
          refine o_callVx (q := 60) dX1_takeLine_57 rfl lX1_67 mwX1_takeHour mvX1_takeHour cn1 (by assumption) (by rfl) rfl (Nat.le_of_ble_eq_true (by rfl)) (by first | decide | omega) (cR_takeHour E σ m hi x L r t hN hT hR hk h0 hr hr12) ?_
          rintro _ m1 ⟨rfl, q⟩
          refine j_goto (tgt := 69) dX1_takeLine_60 (by decide) ?_
          refine o_vret hF rfl dX1_takeLine_69 ?_
          exact ⟨rfl, q⟩
      · rw [if_pos (hno 5 (by decide) (by first | exact h38 | exact Decidable.not_not.mp h38))] at hF
        refine j_aload_n (q := 42) dX1_takeLine_41 rfl (by rfl) ?_
        refine j_aload_n (q := 43) dX1_takeLine_42 rfl (by rfl) ?_
        refine o_callVx (q := 46) dX1_takeLine_43 rfl lX1_64 mwX1_takeCalm mvX1_takeCalm cn1 (by assumption) (by rfl) rfl (Nat.le_of_ble_eq_true (by rfl)) (by first | decide | omega) (cR_takeCalm E σ m hi x L t hN hT hR hk h0) ?_
        rintro _ m1 ⟨rfl, q⟩
        refine j_goto (tgt := 69) dX1_takeLine_46 (by decide) ?_
        refine o_vret hF rfl dX1_takeLine_69 ?_
        exact ⟨rfl, q⟩
    · rw [if_pos (hno 4 (by decide) (by first | exact h25 | exact Decidable.not_not.mp h25))] at hF
      refine j_aload_n (q := 29) dX1_takeLine_28 rfl (by rfl) ?_
      refine j_aload_n (q := 30) dX1_takeLine_29 rfl (by rfl) ?_
      refine o_callVx (q := 33) dX1_takeLine_30 rfl lX1_61 mwX1_takeFlow mvX1_takeFlow cn1 (by assumption) (by rfl) rfl (Nat.le_of_ble_eq_true (by rfl)) (by first | decide | omega) (cR_takeFlow E σ m hi x L t hN hT hR hk h0) ?_
      rintro _ m1 ⟨rfl, q⟩
      refine j_goto (tgt := 69) dX1_takeLine_33 (by decide) ?_
      refine o_vret hF rfl dX1_takeLine_69 ?_
      exact ⟨rfl, q⟩
  · rw [if_pos (hno 7 (by decide) (by first | exact h8' | exact Decidable.not_not.mp h8'))] at hF
    refine j_aload_n (q := 12) dX1_takeLine_11 rfl (by rfl) ?_
    refine j_iconst (q := 13) (v := 2) dX1_takeLine_12 rfl (by decide) ?_
    refine j_aload_n (q := 14) dX1_takeLine_13 rfl (by rfl) ?_
    refine j_geti (q := 17) dX1_takeLine_14 rfl fX1_54 (by assumption) (by rfl) ?_
    rw [hR.2.2.1]
    refine o_callVx (q := 20) dX1_takeLine_17 rfl lX1_57 mwX1_fail mvX1_fail cn1 (by assumption) (by rfl) rfl (Nat.le_of_ble_eq_true (by rfl)) (by first | decide | omega) (cR_failAt E σ m hi x 2 t hN hR) ?_
    rintro _ m1 ⟨rfl, q1, q2⟩
    refine j_goto (tgt := 69) dX1_takeLine_20 (by decide) ?_
    refine o_vret hF rfl dX1_takeLine_69 ?_
    exact ⟨rfl, q1.d, q2, q1.pg, q1.2.1, q1.2.2⟩
