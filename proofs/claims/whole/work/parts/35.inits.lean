/-! the other constructors -/
theorem cT_init (E : gEv) (σ : gSg) (m : gMem) (a : Nat) (hs : σ a = some (.inl (4, [oNl, none]))) : gCt E yX4_init cX4_init 1 none 1 1 160 [.ref a] σ m (a + 1) (fun v σ' m' hi' => v = none ∧ hi' = a + 2 ∧ gKp a σ σ' m m' ∧ m'.1 a = m.1 a ∧ σ' a = some (.inl (4, [some (.ref (a + 1)), none])) ∧ σ' (a + 1) = some (.inr (1, 160, fun _ => none)) ∧ m'.1 (a + 1) = fun _ => 0) := by
  refine gCt.of mwX4_init (Nat.le_of_ble_eq_true rfl) ?_
  intro F hF
  refine j_aload_n (q := 1) dX4_init_0 rfl (by rfl) ?_
  refine j_objInit (q := 4) dX4_init_1 rfl lX4_3 ⟨by decide, Nat.le_of_ble_eq_true (by rfl)⟩ ?_
  refine j_aload_n (q := 5) dX4_init_4 rfl (by rfl) ?_
  refine j_sipush (q := 8) (v := 160) dX4_init_5 rfl (by decide) ?_
  refine j_newB (q := 10) (N := 160) dX4_init_8 rfl rfl (by decide) ⟨by decide, by decide⟩ ?_
  refine j_putr (q := 13) (tm := [oNl, none]) dX4_init_10 rfl fX4_9 p4_0 (Or.inr ⟨rfl, cn4⟩) (by rw [va_up_ne _ _ (by omega)]; exact hs) (by rfl) (Or.inr ⟨_, rfl⟩) ?_
  refine j_vret hF rfl dX4_init_13 ⟨by decide, by decide⟩ ⟨rfl, rfl, ?_, ?_, ?_, ?_, ?_⟩
  · exact (((gKp.rf a σ m).s (k := a + 1) (by omega) _).s (k := a) (by omega) _).z (by omega)
  · exact (mZ_n (by omega)).1
  · exact va_up_self _ _ _
  · rw [va_up_ne _ _ (by omega)]; exact va_up_self _ _ _
  · exact mZ_a _ _
theorem cR_init (E : gEv) (σ : gSg) (m : gMem) (a : Nat) (hs : σ a = some (.inl (1, [oNl, none, none, none, none, none, none, none, none]))) : gCt E yX1_init cX1_init 1 none 2 2 162 [.ref a] σ m (a + 1) (fun v σ' m' hi' => v = none ∧ hi' = a + 3 ∧ gKp a σ σ' m m' ∧ σ' a = some (.inl (1, [some (.ref (a + 1)), none, none, none, none, none, none, none, none])) ∧ σ' (a + 1) = some (.inl (4, [some (.ref (a + 2)), none])) ∧ σ' (a + 2) = some (.inr (1, 160, fun _ => none)) ∧ m'.1 (a + 1) = (fun _ => 0) ∧ m'.1 (a + 2) = fun _ => 0) := by
  refine gCt.of mwX1_init (Nat.le_of_ble_eq_true rfl) ?_
  intro F hF
  refine j_aload_n (q := 1) dX1_init_0 rfl (by rfl) ?_
  refine j_objInit (q := 4) dX1_init_1 rfl lX1_3 ⟨by decide, Nat.le_of_ble_eq_true (by rfl)⟩ ?_
  refine j_aload_n (q := 5) dX1_init_4 rfl (by rfl) ?_
  refine j_new (q := 8) dX1_init_5 rfl qX1_9 nX4 (ci := 4) rfl tyX4 tyX4_ok [oNl, none] (by decide) ⟨by decide, by decide⟩ ?_
  refine j_dup (q := 9) dX1_init_8 rfl rfl ?_
  refine j_callIN (q := 12) dX1_init_9 rfl lX1_11 mwX4_init miX4_init (As := []) (by rfl) rfl (Nat.le_of_ble_eq_true (by rfl)) ⟨⟨by decide, Nat.le_of_ble_eq_true (by rfl)⟩, by decide, by decide⟩ (cT_init E _ _ (a + 1) (va_up_self _ _ _)) ?_
  rintro v σ2 m2 hi2 ⟨rfl, rfl, hk, hm, h0, h1, hb⟩
  have hsa : σ2 a = some (.inl (1, [oNl, none, none, none, none, none, none, none, none])) := by rw [(hk a (by omega)).1, va_up_ne _ _ (by omega)]; exact hs
  refine j_putr (q := 15) (tm := [oNl, none, none, none, none, none, none, none, none]) dX1_init_12 rfl fX1_12 p1_0 (Or.inr ⟨rfl, cn1⟩) hsa (by rfl) (Or.inl ⟨_, rfl⟩) ?_
  refine j_vret hF rfl dX1_init_15 ⟨by decide, by decide⟩ ⟨rfl, by omega, ?_, ?_, ?_, ?_, ?_, hb⟩
  · exact ((((gKp.rf a σ m).s (k := a + 1) (by omega) _).z (k := a + 1) (by omega)).tr (hk.le (by omega))).s (by omega) _
  · exact va_up_self _ _ _
  · rw [va_up_ne _ _ (by omega)]; exact h0
  · rw [va_up_ne _ _ (by omega)]; exact h1
  · rw [hm]; exact mZ_a _ _
theorem cS_init (E : gEv) (σ : gSg) (m : gMem) (a : Nat) (hs : σ a = some (.inl (2, [oNl, oNl, oNl, none]))) : gCt E yX2_init cX2_init 1 none 1 3 18 [.ref a] σ m (a + 1) (fun v σ' m' hi' => v = none ∧ hi' = a + 4 ∧ gKp a σ σ' m m' ∧ m'.1 a = m.1 a ∧ σ' a = some (.inl (2, [some (.ref (a + 1)), some (.ref (a + 2)), some (.ref (a + 3)), none])) ∧ σ' (a + 1) = some (.inr (0, 6, fun _ => none)) ∧ σ' (a + 2) = some (.inr (0, 6, fun _ => none)) ∧ σ' (a + 3) = some (.inr (0, 6, fun _ => none))) := by
  refine gCt.of mwX2_init (Nat.le_of_ble_eq_true rfl) ?_
  intro F hF
  refine j_aload_n (q := 1) dX2_init_0 rfl (by rfl) ?_
  refine j_objInit (q := 4) dX2_init_1 rfl lX2_3 ⟨by decide, Nat.le_of_ble_eq_true (by rfl)⟩ ?_
  refine j_aload_n (q := 5) dX2_init_4 rfl (by rfl) ?_
  refine j_bipush (q := 7) (v := 6) dX2_init_5 rfl (by decide) ?_
  refine j_newI (q := 9) (N := 6) dX2_init_7 rfl rfl (by decide) ⟨by decide, by decide⟩ ?_
  refine j_putr (q := 12) (tm := [oNl, oNl, oNl, none]) dX2_init_9 rfl fX2_9 p2_0 (Or.inr ⟨rfl, cn2⟩) (by rw [va_up_ne _ _ (by omega)]; exact hs) (by rfl) (Or.inr ⟨_, rfl⟩) ?_
  refine j_aload_n (q := 13) dX2_init_12 rfl (by rfl) ?_
  refine j_bipush (q := 15) (v := 6) dX2_init_13 rfl (by decide) ?_
  refine j_newI (q := 17) (N := 6) dX2_init_15 rfl rfl (by decide) ⟨by decide, by decide⟩ ?_
  refine j_putr (q := 20) (tm := [some (.ref (a + 1)), oNl, oNl, none]) dX2_init_17 rfl fX2_15 p2_1 (Or.inr ⟨rfl, cn2⟩) (by rw [va_up_ne _ _ (by omega)]; exact va_up_self _ _ _) (by rfl) (Or.inr ⟨_, rfl⟩) ?_
  refine j_aload_n (q := 21) dX2_init_20 rfl (by rfl) ?_
  refine j_bipush (q := 23) (v := 6) dX2_init_21 rfl (by decide) ?_
  refine j_newI (q := 25) (N := 6) dX2_init_23 rfl rfl (by decide) ⟨by decide, by decide⟩ ?_
  refine j_putr (q := 28) (tm := [some (.ref (a + 1)), some (.ref (a + 2)), oNl, none]) dX2_init_25 rfl fX2_18 p2_2 (Or.inr ⟨rfl, cn2⟩) (by rw [va_up_ne _ _ (by omega)]; exact va_up_self _ _ _) (by rfl) (Or.inr ⟨_, rfl⟩) ?_
  refine j_vret hF rfl dX2_init_28 ⟨by decide, by decide⟩ ⟨rfl, rfl, ?_, ?_, ?_, ?_, ?_, ?_⟩
  · exact ((((((((gKp.rf a σ m).s (k := a + 1) (by omega) _).s (k := a) (by omega) _).s (k := a + 1 + 1) (by omega) _).s (k := a) (by omega) _).s (k := a + 1 + 1 + 1) (by omega) _).s (k := a) (by omega) _).z (k := a + 1) (by omega)).z (k := a + 1 + 1) (by omega) |>.z (by omega)
  · rw [(mZ_n (by omega)).1, (mZ_n (by omega)).1, (mZ_n (by omega)).1]
  · exact va_up_self _ _ _
  · rw [va_up_ne _ _ (by omega), va_up_ne _ _ (by omega), va_up_ne _ _ (by omega), va_up_ne _ _ (by omega), va_up_ne _ _ (by omega)]; exact va_up_self _ _ _
  · rw [va_up_ne _ _ (by omega), va_up_ne _ _ (by omega), va_up_ne _ _ (by omega)]; exact va_up_self _ _ _
  · rw [va_up_ne _ _ (by omega)]; exact va_up_self _ _ _
theorem cH_init (E : gEv) (σ : gSg) (m : gMem) (a : Nat) (hs : σ a = some (.inl (3, [oNl, none, none]))) : gCt E yX3_init cX3_init 1 none 1 1 40 [.ref a] σ m (a + 1) (fun v σ' m' hi' => v = none ∧ hi' = a + 2 ∧ gKp a σ σ' m m' ∧ m'.1 a = upd (m.1 a) 2 (-4) ∧ gSt σ' a ∧ m'.1 (a + 1) = fun _ => 0) := by
  refine gCt.of mwX3_init (Nat.le_of_ble_eq_true rfl) ?_
  intro F hF
  refine j_aload_n (q := 1) dX3_init_0 rfl (by rfl) ?_
  refine j_objInit (q := 4) dX3_init_1 rfl lX3_3 ⟨by decide, Nat.le_of_ble_eq_true (by rfl)⟩ ?_
  refine j_aload_n (q := 5) dX3_init_4 rfl (by rfl) ?_
  refine j_bipush (q := 7) (v := 40) dX3_init_5 rfl (by decide) ?_
  refine j_newI (q := 9) (N := 40) dX3_init_7 rfl rfl (by decide) ⟨by decide, by decide⟩ ?_
  refine j_putr (q := 12) (tm := [oNl, none, none]) dX3_init_9 rfl fX3_9 p3_0 (Or.inr ⟨rfl, cn3⟩) (by rw [va_up_ne _ _ (by omega)]; exact hs) (by rfl) (Or.inr ⟨_, rfl⟩) ?_
  have hs2 : va_up (va_up σ (a + 1) (some (.inr (0, 40, fun _ => none)))) a (some (.inl (3, List.set [oNl, none, none] 0 (some (.ref (a + 1)))))) a = some (.inl (3, [some (.ref (a + 1)), none, none])) := va_up_self _ _ _
  refine j_aload_n (q := 13) dX3_init_12 rfl (by rfl) ?_
  refine j_bipush (q := 15) (v := (-4)) dX3_init_13 rfl (by decide) ?_
  refine j_puti (q := 18) dX3_init_15 rfl fX3_15 p3_2 (by first | with_reducible assumption | assumption) (by rfl) ?_
  refine j_vret hF rfl dX3_init_18 ⟨by decide, by decide⟩ ⟨rfl, rfl, ?_, ?_, ⟨hs2, ?_⟩, ?_⟩
  · exact ((((gKp.rf a σ m).s (k := a + 1) (by omega) _).s (k := a) (by omega) _).z (k := a + 1) (by omega)).w (by omega) _ _
  · funext r
    rw [gW_1, (mZ_n (by omega)).1]
    unfold upd
    by_cases h2 : r = 2
    · rw [if_pos ⟨rfl, h2⟩, if_pos h2]
    · rw [if_neg (fun e => h2 e.2), if_neg h2]
  · rw [va_up_ne _ _ (by omega)]; exact va_up_self _ _ _
  · funext r
    rw [gW_n (fun e => by omega), mZ_a]
/-! the class's own constructor -/
def gFa (x : Nat) (i : Nat) (σ : gSg) (m : gMem) : Prop := match i with
  | 0 => gG σ (x + 1) ∧ pgC m (x + 1) = pgI
  | 1 => gG σ (x + 9)
  | 2 => ∃ f : Nat → Option Nat, σ (x + 17) = some (.inr (5, 5, f))
  | 3 => ∃ f : Nat → Option Nat, σ (x + 18) = some (.inr (5, 2, f))
  | 4 => σ (x + 19) = some (.inr (2, 2, fun _ => none)) ∧ m.1 (x + 19) = fun _ => 0
  | 5 => σ (x + 20) = some (.inl (1, [some (.ref (x + 21)), none, none, none, none, none, none, none, none])) ∧ σ (x + 21) = some (.inl (4, [some (.ref (x + 22)), none])) ∧ σ (x + 22) = some (.inr (1, 160, fun _ => none)) ∧ m.1 (x + 21) = (fun _ => 0) ∧ m.1 (x + 22) = fun _ => 0
  | 6 => σ (x + 23) = some (.inl (2, [some (.ref (x + 24)), some (.ref (x + 25)), some (.ref (x + 26)), none])) ∧ σ (x + 24) = some (.inr (0, 6, fun _ => none)) ∧ σ (x + 25) = some (.inr (0, 6, fun _ => none)) ∧ σ (x + 26) = some (.inr (0, 6, fun _ => none)) ∧ m.1 (x + 23) = fun _ => 0
  | 7 => σ (x + 27) = some (.inr (0, 41, fun _ => none))
  | 8 => σ (x + 28) = some (.inr (3, 10, fun _ => none))
  | _ => ∃ f : Nat → Option Nat, σ (x + 29) = some (.inr (6, 4, f))
def gBd : List Nat := [9, 17, 18, 19, 20, 23, 27, 28, 29, 30]
theorem gG.kp {σ σ' : gSg} {a : Nat} (h : gG σ a) (hk : ∀ q, a ≤ q → q < a + 8 → σ' q = σ q) : gG σ' a := by
  obtain ⟨h0, ⟨f, h1, hf⟩, h2, h3, h4⟩ := h
  exact ⟨by rw [hk a (by omega) (by omega)]; exact h0, ⟨f, by rw [hk (a + 1) (by omega) (by omega)]; exact h1, hf⟩, by rw [hk (a + 2) (by omega) (by omega)]; exact h2, by rw [hk (a + 3) (by omega) (by omega)]; exact h3, fun j hj => by rw [hk (a + 4 + j) (by omega) (by omega)]; exact h4 j hj⟩
theorem pgC_kp {m m' : gMem} {a : Nat} (hk : ∀ q, a ≤ q → q < a + 8 → m'.1 q = m.1 q) : pgC m' a = pgC m a := by
  funext i
  by_cases hi : i < 53
  · have := cq_in a i
    rw [pgC_lt hi, pgC_lt hi, hk (cq a i) (by omega) (by omega)]
  · rw [pgC_0 _ _ i (by omega), pgC_0 _ _ i (by omega)]
theorem gFa.tr {x i : Nat} {σ σ' : gSg} {m m' : gMem} (h : gFa x i σ m) (hi : i < 10) (hk : ∀ q, x < q → q < x + gBd.getD i 0 → σ' q = σ q ∧ m'.1 q = m.1 q) : gFa x i σ' m' := by
  match i, hi, h, hk with
  | 0, _, h, hk =>
    have hk : ∀ q, x < q → q < x + 9 → σ' q = σ q ∧ m'.1 q = m.1 q := hk
    exact ⟨h.1.kp (fun q h1 h2 => (hk q (by omega) (by omega)).1), by rw [pgC_kp (fun q h1 h2 => (hk q (by omega) (by omega)).2)]; exact h.2⟩
  | 1, _, h, hk =>
    have hk : ∀ q, x < q → q < x + 17 → σ' q = σ q ∧ m'.1 q = m.1 q := hk
    exact gG.kp h (fun q h1 h2 => (hk q (by omega) (by omega)).1)
  | 2, _, h, hk =>
    have hk : ∀ q, x < q → q < x + 18 → σ' q = σ q ∧ m'.1 q = m.1 q := hk
    obtain ⟨f, h⟩ := h
    exact ⟨f, by rw [(hk (x + 17) (by omega) (by omega)).1]; exact h⟩
  | 3, _, h, hk =>
    have hk : ∀ q, x < q → q < x + 19 → σ' q = σ q ∧ m'.1 q = m.1 q := hk
    obtain ⟨f, h⟩ := h
    exact ⟨f, by rw [(hk (x + 18) (by omega) (by omega)).1]; exact h⟩
  | 4, _, h, hk =>
    have hk : ∀ q, x < q → q < x + 20 → σ' q = σ q ∧ m'.1 q = m.1 q := hk
    exact ⟨by rw [(hk (x + 19) (by omega) (by omega)).1]; exact h.1, by rw [(hk (x + 19) (by omega) (by omega)).2]; exact h.2⟩
  | 5, _, h, hk =>
    have hk : ∀ q, x < q → q < x + 23 → σ' q = σ q ∧ m'.1 q = m.1 q := hk
    exact ⟨by rw [(hk (x + 20) (by omega) (by omega)).1]; exact h.1, by rw [(hk (x + 21) (by omega) (by omega)).1]; exact h.2.1, by rw [(hk (x + 22) (by omega) (by omega)).1]; exact h.2.2.1, by rw [(hk (x + 21) (by omega) (by omega)).2]; exact h.2.2.2.1, by rw [(hk (x + 22) (by omega) (by omega)).2]; exact h.2.2.2.2⟩
  | 6, _, h, hk =>
    have hk : ∀ q, x < q → q < x + 27 → σ' q = σ q ∧ m'.1 q = m.1 q := hk
    exact ⟨by rw [(hk (x + 23) (by omega) (by omega)).1]; exact h.1, by rw [(hk (x + 24) (by omega) (by omega)).1]; exact h.2.1, by rw [(hk (x + 25) (by omega) (by omega)).1]; exact h.2.2.1, by rw [(hk (x + 26) (by omega) (by omega)).1]; exact h.2.2.2.1, by rw [(hk (x + 23) (by omega) (by omega)).2]; exact h.2.2.2.2⟩
  | 7, _, h, hk =>
    have hk : ∀ q, x < q → q < x + 28 → σ' q = σ q ∧ m'.1 q = m.1 q := hk
    show σ' (x + 27) = _
    rw [(hk (x + 27) (by omega) (by omega)).1]; exact h
  | 8, _, h, hk =>
    have hk : ∀ q, x < q → q < x + 29 → σ' q = σ q ∧ m'.1 q = m.1 q := hk
    show σ' (x + 28) = _
    rw [(hk (x + 28) (by omega) (by omega)).1]; exact h
  | 9, _, h, hk =>
    have hk : ∀ q, x < q → q < x + 30 → σ' q = σ q ∧ m'.1 q = m.1 q := hk
    obtain ⟨f, h⟩ := h
    exact ⟨f, by rw [(hk (x + 29) (by omega) (by omega)).1]; exact h⟩
  | i + 10, hi, _, _ => exact absurd hi (by omega)
theorem gBd_mono : ∀ i, i < 10 → ∀ j, j < 10 → i ≤ j → gBd.getD i 0 ≤ gBd.getD j 0 := by decide
/-- as far as k things are made -/
def gFk (x : Nat) (σ0 : gSg) (m0 : gMem) (tm : List (Option Value)) (k : Nat) (σ' : gSg) (m' : gMem) : Prop := σ' x = some (.inl (6, tm)) ∧ m'.1 x = (fun _ => 0) ∧ gKp x σ0 σ' m0 m' ∧ ∀ i, i < k → gFa x i σ' m'
/-- one thing more: all below b stays; then the field is put -/
theorem gFk.on {x : Nat} {σ0 : gSg} {m0 : gMem} {tm tm' : List (Option Value)} {k b : Nat} {σ' σ2 : gSg} {m' m2 : gMem} (h : gFk x σ0 m0 tm k σ' m') (hk : gKp b σ' σ2 m' m2) (hx : x < b) (hk10 : k < 10) (hb : k = 0 ∨ x + gBd.getD (k - 1) 0 ≤ b) (hn : gFa x k σ2 m2) : gFk x σ0 m0 tm' (k + 1) (va_up σ2 x (some (.inl (6, tm')))) m2 := by
  refine ⟨va_up_self _ _ _, by rw [(hk x hx).2]; exact h.2.1, ((h.2.2.1.tr (hk.le (by omega))).s (Nat.le_refl _) _), fun i hi => ?_⟩
  have e : ∀ q, x < q → va_up σ2 x (some (.inl (6, tm'))) q = σ2 q ∧ m2.1 q = m2.1 q := fun q hq => ⟨va_up_ne _ _ (by omega), rfl⟩
  by_cases hik : i = k
  · subst hik
    exact hn.tr hk10 (fun q h1 _ => e q h1)
  · refine ((h.2.2.2 i (by omega)).tr (by omega) (σ' := σ2) (m' := m2) (fun q h1 h2 => hk q ?_)).tr (by omega) (fun q h1 _ => e q h1)
    have := gBd_mono i (by omega) (k - 1) (by omega) (by omega)
    omega
