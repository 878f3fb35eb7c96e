/-! constructors -/
theorem gJ.cc {E : gEv} {y : MethodName} {cc : ByteArray} {nL : Nat} {ret : Option FieldType} {R : Room} {F : gFT} {pc : Nat} {l : List (Option Value)} {st : List Value} {ck cn ck' cn' : Nat} {σ : gSg} {m : gMem} {hi hi' : Nat} (h1 : ck = ck') (h2 : cn = cn') (h3 : hi = hi') (k : gJ E y cc nL ret R F pc l st ck' cn' σ m hi') : gJ E y cc nL ret R F pc l st ck cn σ m hi := by
  subst h1
  subst h2
  subst h3
  exact k
theorem cV_init (E : gEv) (σ : gSg) (m : gMem) (hi b : Nat) : gCt E yX5_init cX5_init 1 none 1 0 0 [.ref b] σ m hi (fun v σ' m' hi' => v = none ∧ σ' = σ ∧ m' = m ∧ hi' = hi) := by
  refine gCt.of mwX5_init (Nat.le_of_ble_eq_true rfl) ?_
  intro F hF
  refine j_aload_n (q := 1) dX5_init_0 rfl (by rfl) ?_
  refine j_objInit (q := 4) dX5_init_1 rfl lX5_3 ⟨by decide, Nat.le_of_ble_eq_true (by rfl)⟩ ?_
  exact j_vret hF rfl dX5_init_4 ⟨Nat.le_refl 0, Nat.le_refl 0⟩ ⟨rfl, rfl, rfl, rfl⟩
/-- what lies below stays -/
def gKp (a : Nat) (σ σ' : gSg) (m m' : gMem) : Prop := ∀ q, q < a → σ' q = σ q ∧ m'.1 q = m.1 q
theorem gKp.rf (a : Nat) (σ : gSg) (m : gMem) : gKp a σ σ m m := fun _ _ => ⟨rfl, rfl⟩
theorem gKp.tr {a : Nat} {σ σ' σ'' : gSg} {m m' m'' : gMem} (h : gKp a σ σ' m m') (h' : gKp a σ' σ'' m' m'') : gKp a σ σ'' m m'' := fun q hq => ⟨(h' q hq).1.trans (h q hq).1, (h' q hq).2.trans (h q hq).2⟩
theorem gKp.le {a b : Nat} {σ σ' : gSg} {m m' : gMem} (h : gKp b σ σ' m m') (hab : a ≤ b) : gKp a σ σ' m m' := fun q hq => h q (by omega)
theorem gKp.s {a k : Nat} {σ σ' : gSg} {m m' : gMem} (h : gKp a σ σ' m m') (hk : a ≤ k) (v : Option gSh) : gKp a σ (va_up σ' k v) m m' := fun q hq => ⟨by rw [va_up_ne _ _ (by omega)]; exact (h q hq).1, (h q hq).2⟩
theorem gKp.z {a k : Nat} {σ σ' : gSg} {m m' : gMem} (h : gKp a σ σ' m m') (hk : a ≤ k) : gKp a σ σ' m (mZ m' k) := fun q hq => ⟨(h q hq).1, by rw [(mZ_n (by omega)).1]; exact (h q hq).2⟩
theorem gKp.w {a k : Nat} {σ σ' : gSg} {m m' : gMem} (h : gKp a σ σ' m m') (hk : a ≤ k) (r : Nat) (v : Int32) : gKp a σ σ' m (gW m' k r v) := fun q hq => ⟨(h q hq).1, by rw [← (h q hq).2]; funext j; exact gW_n (fun e => by omega)⟩
abbrev oNl : Option Value := some .null
def pgI : Nat → Int32 := fun i => if i = 50 then 8 else if i = 51 then 4 else 0
/-- a Ground as far as j Vents are made -/
def gGj (σ σ' : gSg) (m m' : gMem) (a j : Nat) : Prop := gKp a σ σ' m m' ∧ σ' a = some (.inl (0, [some (.ref (a + 1)), some (.ref (a + 2)), some (.ref (a + 3)), none, none, none, none, none])) ∧ (∃ f : Nat → Option Nat, σ' (a + 1) = some (.inr (4, 4, f)) ∧ ∀ i, i < j → f i = some (a + 4 + i)) ∧ σ' (a + 2) = some (.inr (0, 12, fun _ => none)) ∧ σ' (a + 3) = some (.inr (0, 12, fun _ => none)) ∧ (∀ i, i < j → σ' (a + 4 + i) = some gVt) ∧ m'.1 a = upd (upd (fun _ => 0) 6 8) 7 4 ∧ m'.1 (a + 2) = (fun _ => 0) ∧ m'.1 (a + 3) = (fun _ => 0) ∧ ∀ i, i < j → m'.1 (a + 4 + i) = fun _ => 0
theorem gGj_pg {σ σ' : gSg} {m m' : gMem} {a : Nat} (h : gGj σ σ' m m' a 4) : gG σ' a ∧ pgC m' a = pgI := by
  obtain ⟨-, h0, h1, h2, h3, h4, r0, r2, r3, r4⟩ := h
  refine ⟨⟨h0, h1, h2, h3, h4⟩, ?_⟩
  funext i
  unfold pgI
  by_cases hi : i < 53
  · rw [pgC_lt hi]
    by_cases i1 : i < 24
    · rw [show cq a i = a + 4 + i % 4 from if_pos i1, r4 _ (by omega), if_neg (by omega), if_neg (by omega)]
    by_cases i2 : i = 24
    · subst i2
      show m'.1 a 3 = _
      rw [r0]; rfl
    by_cases i3 : i < 37
    · rw [show cq a i = a + 2 by unfold cq; rw [if_neg i1, if_neg i2, if_pos i3], r2, if_neg (by omega), if_neg (by omega)]
    by_cases i4 : i < 49
    · rw [show cq a i = a + 3 by unfold cq; rw [if_neg i1, if_neg i2, if_neg i3, if_pos i4], r3, if_neg (by omega), if_neg (by omega)]
    have i5 : i = 49 ∨ i = 50 ∨ i = 51 ∨ i = 52 := by omega
    rcases i5 with rfl | rfl | rfl | rfl
    · show m'.1 a 4 = _
      rw [r0]; rfl
    · show m'.1 a 6 = _
      rw [r0]; rfl
    · show m'.1 a 7 = _
      rw [r0]; rfl
    · show m'.1 a 5 = _
      rw [r0]; rfl
  · rw [pgC_0 _ _ i (by omega), if_neg (by omega), if_neg (by omega)]
theorem cG_init (E : gEv) (σ : gSg) (m : gMem) (a : Nat) (hs : σ a = some (.inl (0, [oNl, oNl, oNl, none, none, none, none, none]))) (hz : m.1 a = fun _ => 0) : gCt E yX0_init cX0_init 2 none 2 7 52 [.ref a] σ m (a + 1) (fun v σ' m' hi' => v = none ∧ hi' = a + 8 ∧ gKp a σ σ' m m' ∧ gG σ' a ∧ pgC m' a = pgI) := by
  refine gCt.of mwX0_init (Nat.le_of_ble_eq_true rfl) ?_
  intro F hF
  have K41 : ∀ (n j : Nat) (σ' : gSg) (m' : gMem), j + n = 4 → gGj σ σ' m m' a j → gJ E yX0_init cX0_init 2 none (gRm 2 7 52) F 41 [some (.ref a), some (.int (nI j))] [] (3 + j) (28 + 6 * j) σ' m' (a + 4 + j) := by
    intro n
    induction n with
    | zero =>
      intro j σ' m' hj hg
      have : j = 4 := by omega
      subst this
      have hr := gGj_pg hg
      obtain ⟨hk, h0, ⟨f, h1, hf⟩, h2, h3, h4, -⟩ := hg
      refine j_iload_n (q := 42) dX0_init_41 rfl (by rfl) ?_
      refine j_aload_n (q := 43) dX0_init_42 rfl (by rfl) ?_
      refine j_getr (q := 46) dX0_init_43 rfl fX0_11 (by assumption) (by rfl) ?_
      refine j_alen (q := 47) dX0_init_46 rfl (by assumption) (by decide) (by rfl) ?_
      refine j_icmp_ge (q := 50) (tgt := 69) dX0_init_47 rfl (by decide) (fun h47 => ?_) (fun h47 => ?_)
      · exact j_vret hF rfl dX0_init_69 ⟨by decide, by decide⟩ ⟨rfl, rfl, hk, hr.1, hr.2⟩
      · exact absurd (show (4 : Int32) ≤ nI 4 by decide) h47
    | succ n ih =>
      intro j σ' m' hj hg
      obtain ⟨hk, h0, ⟨f, h1, hf⟩, h2, h3, h4, r0, r2, r3, r4⟩ := hg
      have hix : gIdx (nI j) 4 j := gIdx.of rfl (by omega) (by decide)
      refine j_iload_n (q := 42) dX0_init_41 rfl (by rfl) ?_
      refine j_aload_n (q := 43) dX0_init_42 rfl (by rfl) ?_
      refine j_getr (q := 46) dX0_init_43 rfl fX0_11 (by assumption) (by rfl) ?_
      refine j_alen (q := 47) dX0_init_46 rfl (by assumption) (by decide) (by rfl) ?_
      refine j_icmp_ge (q := 50) (tgt := 69) dX0_init_47 rfl (by decide) (fun h47 => ?_) (fun h47 => ?_)
      · exact absurd h47 (nI_ge (a := j) (b := 4) (by omega) (by omega))
      refine j_aload_n (q := 51) dX0_init_50 rfl (by rfl) ?_
      refine j_getr (q := 54) dX0_init_51 rfl fX0_11 (by assumption) (by rfl) ?_
      refine j_iload_n (q := 55) dX0_init_54 rfl (by rfl) ?_
      refine j_new (q := 58) dX0_init_55 rfl qX0_9 nX5 (ci := 5) rfl tyX5 tyX5_ok [none, none, none, none, none, none] (by decide) ⟨by show 3 + j + 1 ≤ 7; omega, by show 28 + 6 * j + 6 ≤ 52; omega⟩ ?_
      refine j_dup (q := 59) dX0_init_58 rfl rfl ?_
      refine j_callIN (q := 62) dX0_init_59 rfl lX0_31 mwX5_init miX5_init (As := []) (by rfl) rfl (Nat.le_of_ble_eq_true (by rfl)) ⟨⟨by decide, Nat.le_of_ble_eq_true (by rfl)⟩, by show 3 + j + 1 + 0 ≤ 7; omega, by show 28 + 6 * j + 6 + 0 ≤ 52; omega⟩ (cV_init E _ _ _ _) ?_
      rintro v σ2 m2 hi2 ⟨rfl, rfl, rfl, rfl⟩
      refine j_aastore (q := 63) (t := 0) (ci := 5) (r := (RX5, TX5, 6)) dX0_init_62 rfl (by rw [va_up_ne _ _ (by omega)]; exact h1) rfl (va_up_self _ _ _) rfl hix ?_
      refine j_iinc (q := 66) dX0_init_63 rfl (by rfl) (by first | exact nI_inc _ | rfl) (by decide) ?_
      refine j_goto (tgt := 41) dX0_init_66 (by decide) ?_
      refine gJ.cc (by omega) (by omega) (by omega) (ih (j + 1) _ _ (by omega) ⟨?_, ?_, ?_, ?_, ?_, ?_, ?_, ?_, ?_, ?_⟩)
      · exact ((hk.s (k := a + 4 + j) (by omega) _).z (by omega)).s (by omega) _
      · rw [va_up_ne _ _ (by omega), va_up_ne _ _ (by omega)]; exact h0
      · refine ⟨_, va_up_self _ _ _, fun i hi => ?_⟩
        by_cases hij : i = j
        · subst hij; rw [va_up_self]
        · rw [va_up_ne _ _ hij]; exact hf i (by omega)
      · rw [va_up_ne _ _ (by omega), va_up_ne _ _ (by omega)]; exact h2
      · rw [va_up_ne _ _ (by omega), va_up_ne _ _ (by omega)]; exact h3
      · intro i hi
        rw [va_up_ne _ _ (by omega)]
        by_cases hij : i = j
        · subst hij; exact va_up_self _ _ _
        · rw [va_up_ne _ _ (by omega)]; exact h4 i (by omega)
      · rw [(mZ_n (by omega)).1]; exact r0
      · rw [(mZ_n (by omega)).1]; exact r2
      · rw [(mZ_n (by omega)).1]; exact r3
      · intro i hi
        by_cases hij : i = j
        · subst hij; exact mZ_a _ _
        · rw [(mZ_n (by omega)).1]; exact r4 i (by omega)
  refine j_aload_n (q := 1) dX0_init_0 rfl (by rfl) ?_
  refine j_objInit (q := 4) dX0_init_1 rfl lX0_3 ⟨by decide, Nat.le_of_ble_eq_true (by rfl)⟩ ?_
  refine j_aload_n (q := 5) dX0_init_4 rfl (by rfl) ?_
  refine j_iconst (q := 6) (v := 4) dX0_init_5 rfl (by decide) ?_
  refine j_anew (q := 9) (N := 4) (t := 0) (ci := 5) dX0_init_6 rfl qX0_9 (fun _ hK => hK.2.2.2.2.2.1) rfl rfl (by decide) ⟨by decide, by decide⟩ ?_
  refine j_putr (q := 12) (tm := [oNl, oNl, oNl, none, none, none, none, none]) dX0_init_9 rfl fX0_11 p0_0 (Or.inr ⟨rfl, cn0⟩) (by rw [va_up_ne _ _ (by omega)]; exact hs) (by rfl) (Or.inr ⟨_, rfl⟩) ?_
  refine j_aload_n (q := 13) dX0_init_12 rfl (by rfl) ?_
  refine j_bipush (q := 15) (v := 12) dX0_init_13 rfl (by decide) ?_
  refine j_newI (q := 17) (N := 12) dX0_init_15 rfl rfl (by decide) ⟨by decide, by decide⟩ ?_
  refine j_putr (q := 20) (tm := [some (.ref (a + 1)), oNl, oNl, none, none, none, none, none]) dX0_init_17 rfl fX0_17 p0_1 (Or.inr ⟨rfl, cn0⟩) (by rw [va_up_ne _ _ (by omega)]; exact va_up_self _ _ _) (by rfl) (Or.inr ⟨_, rfl⟩) ?_
  refine j_aload_n (q := 21) dX0_init_20 rfl (by rfl) ?_
  refine j_bipush (q := 23) (v := 12) dX0_init_21 rfl (by decide) ?_
  refine j_newI (q := 25) (N := 12) dX0_init_23 rfl rfl (by decide) ⟨by decide, by decide⟩ ?_
  refine j_putr (q := 28) (tm := [some (.ref (a + 1)), some (.ref (a + 2)), oNl, none, none, none, none, none]) dX0_init_25 rfl fX0_21 p0_2 (Or.inr ⟨rfl, cn0⟩) (by rw [va_up_ne _ _ (by omega)]; exact va_up_self _ _ _) (by rfl) (Or.inr ⟨_, rfl⟩) ?_
  have hself : ∀ σ' : gSg, va_up σ' a (some (.inl (0, List.set [some (.ref (a + 1)), some (.ref (a + 2)), oNl, none, none, none, none, none] 2 (some (.ref (a + 1 + 1 + 1)))))) a = some (.inl (0, [some (.ref (a + 1)), some (.ref (a + 2)), some (.ref (a + 3)), none, none, none, none, none])) := fun σ' => va_up_self _ _ _
  have hs3 := hself (va_up (va_up (va_up (va_up (va_up σ (a + 1) (some (.inr (4, 4, fun _ => none)))) a (some (.inl (0, List.set [oNl, oNl, oNl, none, none, none, none, none] 0 (some (.ref (a + 1))))))) (a + 1 + 1) (some (.inr (0, 12, fun _ => none)))) a (some (.inl (0, List.set [some (.ref (a + 1)), oNl, oNl, none, none, none, none, none] 1 (some (.ref (a + 1 + 1))))))) (a + 1 + 1 + 1) (some (.inr (0, 12, fun _ => none))))
  refine j_aload_n (q := 29) dX0_init_28 rfl (by rfl) ?_
  refine j_bipush (q := 31) (v := 8) dX0_init_29 rfl (by decide) ?_
  refine j_puti (q := 34) dX0_init_31 rfl fX0_24 p0_6 (by assumption) (by rfl) ?_
  refine j_aload_n (q := 35) dX0_init_34 rfl (by rfl) ?_
  refine j_iconst (q := 36) (v := 4) dX0_init_35 rfl (by decide) ?_
  refine j_puti (q := 39) dX0_init_36 rfl fX0_28 p0_7 (by assumption) (by rfl) ?_
  refine j_iconst (q := 40) (v := 0) dX0_init_39 rfl (by decide) ?_
  refine j_istore_n (q := 41) dX0_init_40 rfl (by decide) ?_
  refine gJ.cc (by rfl) (by rfl) (by rfl) (K41 4 0 _ _ (by omega) ⟨?_, ?_, ?_, ?_, ?_, ?_, ?_, ?_, ?_, ?_⟩)
  · exact (((((((((((gKp.rf a σ m).s (k := a + 1) (by omega) _).s (k := a) (by omega) _).s (k := a + 1 + 1) (by omega) _).s (k := a) (by omega) _).s (k := a + 1 + 1 + 1) (by omega) _).s (k := a) (by omega) _).z (k := a + 1) (by omega)).z (k := a + 1 + 1) (by omega)).z (k := a + 1 + 1 + 1) (by omega)).w (k := a) (by omega) _ _).w (by omega) _ _
  · exact hs3
  · exact ⟨fun _ => none, by rw [va_up_ne _ _ (by omega), va_up_ne _ _ (by omega), va_up_ne _ _ (by omega), va_up_ne _ _ (by omega), va_up_ne _ _ (by omega)]; exact va_up_self _ _ _, fun i hi => absurd hi (by omega)⟩
  · rw [va_up_ne _ _ (by omega), va_up_ne _ _ (by omega), va_up_ne _ _ (by omega)]; exact va_up_self _ _ _
  · rw [va_up_ne _ _ (by omega)]; exact va_up_self _ _ _
  · exact fun i hi => absurd hi (by omega)
  · funext r
    rw [gW_1, gW_1, (mZ_n (by omega)).1, (mZ_n (by omega)).1, (mZ_n (by omega)).1, hz]
    unfold upd
    by_cases h7 : r = 7
    · rw [if_pos ⟨rfl, h7⟩, if_pos h7]
    · rw [if_neg (fun e => h7 e.2), if_neg h7]
      by_cases h6 : r = 6
      · rw [if_pos ⟨rfl, h6⟩, if_pos h6]
      · rw [if_neg (fun e => h6 e.2), if_neg h6]
  · funext r
    rw [gW_n (by omega), gW_n (by omega), (mZ_n (by omega)).1]
    exact congrFun (mZ_a _ _) r
  · funext r
    rw [gW_n (by omega), gW_n (by omega)]
    exact congrFun (mZ_a _ _) r
  · exact fun i hi => absurd hi (by omega)
