/-! the actor and the crowd by turns -/
theorem orb : ∀ j, j < 4 → ∀ k, k < 2 ^ j → nI k ||| ((1 : Int32) <<< (nI j &&& 31)) = nI (k + 2 ^ j) := by decide +kernel
theorem hrUj_n (g : Nat → Int32) (w c : Int32) : ∀ j, j ≤ 4 → ∃ k, k < 2 ^ j ∧ hrUj g w c j = nI k
  | 0, _ => ⟨0, by decide, rfl⟩
  | j + 1, hj => by
    obtain ⟨k, h1, h2⟩ := hrUj_n g w c j (by omega)
    have hp : 2 ^ (j + 1) = 2 * 2 ^ j := by rw [Nat.pow_succ]; omega
    rw [hrUj, h2]
    by_cases h : g (4 + j) + vF g w c j ≤ vH g j
    · rw [if_pos h, orb j (by omega) k h1]; exact ⟨k + 2 ^ j, by omega, rfl⟩
    · rw [if_neg h]; exact ⟨k, by omega, rfl⟩
theorem hrU_n {g : Nat → Int32} (hc : okC g) (w c : Int32) : ∃ k, k < 16 ∧ hrU g w c = nI k := by
  have h4 := cnt_le hc
  obtain ⟨k, h1, h2⟩ := hrUj_n g w c (cnt g) h4
  have := Nat.pow_le_pow_right (show 0 < 2 by decide) h4
  exact ⟨k, by omega, h2⟩
theorem sBc_n : ∀ k, k < 16 → sBc (nI k) = nI (k % 2 + k / 2 % 2 + k / 4 % 2 + k / 8 % 2) := by decide +kernel
def uN (g : Nat → Int32) (w c : Int32) : Nat := (sBc (hrU g w c)).toNatClampNeg
theorem uN_e {g : Nat → Int32} (hc : okC g) (w c : Int32) : sBc (hrU g w c) = nI (uN g w c) ∧ uN g w c ≤ 4 := by
  obtain ⟨k, h1, h2⟩ := hrU_n hc w c
  unfold uN
  rw [h2, sBc_n k h1, nI_clamp (by omega)]
  exact ⟨rfl, by omega⟩
def stq (g T : Nat → Int32) : Prop := T 24 = g 24 ∧ T 50 = g 50 ∧ T 51 = g 51 ∧ ∀ j k, j < cnt g → k < 3 → T (4 * k + j) = g (4 * k + j)
def moq (g T : Nat → Int32) : Prop := ∀ j k, j < cnt g → 3 ≤ k → k < 6 → T (4 * k + j) = g (4 * k + j)
def mq (g T : Nat → Int32) : Prop := stq g T ∧ moq g T
theorem mq.v {g T : Nat → Int32} (h : mq g T) {j : Nat} (k : Nat) (hj : j < cnt g) (hk : k < 6) : T (4 * k + j) = g (4 * k + j) := by
  by_cases h3 : k < 3
  · exact h.1.2.2.2 j k hj h3
  · exact h.2 j k hj (by omega) hk
theorem stq.c {g T : Nat → Int32} (h : stq g T) : cnt T = cnt g := by unfold cnt; rw [h.1]
theorem stq.ok {g T : Nat → Int32} (h : stq g T) (hc : okC g) : okC T := by
  obtain ⟨c, e, h4⟩ := hc
  exact ⟨c, by rw [h.1]; exact e, h4⟩
theorem hr_lo {g : Nat → Int32} (w c : Int32) {i : Nat} (h : i < 12 ∨ 24 ≤ i) (h2 : i ≠ 52) : hr g w c i = g i := by
  unfold hr
  rw [pk_un h2, hrJ_ge h]
theorem stq.hr1 {g T : Nat → Int32} (h : stq g T) (hc : okC g) (w c : Int32) : stq (hr g w c) T := by
  have h4 := cnt_le hc
  refine ⟨?_, ?_, ?_, ?_⟩
  · rw [hr_lo w c (by omega) (by omega)]; exact h.1
  · rw [hr_lo w c (by omega) (by omega)]; exact h.2.1
  · rw [hr_lo w c (by omega) (by omega)]; exact h.2.2.1
  · intro j k hj hk
    rw [hr_cnt] at hj
    rw [hr_lo w c (by omega) (by omega)]; exact h.2.2.2 j k hj hk
theorem stq.hr2 {g T : Nat → Int32} (h : stq g T) (hc : okC g) (w c : Int32) : stq g (hr T w c) := by
  have h4 := cnt_le hc
  refine ⟨?_, ?_, ?_, ?_⟩
  · rw [hr_lo w c (by omega) (by omega)]; exact h.1
  · rw [hr_lo w c (by omega) (by omega)]; exact h.2.1
  · rw [hr_lo w c (by omega) (by omega)]; exact h.2.2.1
  · intro j k hj hk
    rw [hr_lo w c (by omega) (by omega)]; exact h.2.2.2 j k hj hk
theorem stq.un {g T : Nat → Int32} {w c : Int32} (h : stq (hr g w c) T) (hc : okC g) : stq g T := by
  have h4 := cnt_le hc
  refine ⟨?_, ?_, ?_, ?_⟩
  · rw [h.1, hr_lo w c (by omega) (by omega)]
  · rw [h.2.1, hr_lo w c (by omega) (by omega)]
  · rw [h.2.2.1, hr_lo w c (by omega) (by omega)]
  · intro j k hj hk
    rw [h.2.2.2 j k (by rw [hr_cnt]; exact hj) hk, hr_lo w c (by omega) (by omega)]
theorem sShr_mq {g T : Nat → Int32} (h : stq g T) (v : Nat) : sShr T v = sShr g v := by
  unfold sShr
  rw [h.1, h.2.1]
theorem vH_mq {g T : Nat → Int32} (h : mq g T) {v : Nat} (hv : v < cnt g) : vH T v = vH g v := by
  unfold vH
  rw [sShr_mq h.1, show 12 + v = 4 * 3 + v by omega, h.v 3 hv (by decide)]
theorem vF_mq {g T : Nat → Int32} (h : mq g T) (w c : Int32) {v : Nat} (hv : v < cnt g) : vF T w c v = vF g w c v := by
  have e0 : T v = g v := by have := h.v 0 hv (by decide); simpa using this
  unfold vF
  rw [e0, show 8 + v = 4 * 2 + v by omega, h.v 2 hv (by decide), show 16 + v = 4 * 4 + v by omega, h.v 4 hv (by decide), h.1.2.2.1]
theorem vN_mq {g T : Nat → Int32} (h : mq g T) {v : Nat} (hv : v < cnt g) : T (4 + v) = g (4 + v) := by
  have := h.v 1 hv (by decide)
  simpa using this
theorem vX_mq {g T : Nat → Int32} (h : mq g T) (w c : Int32) {v : Nat} (hv : v < cnt g) (k : Nat) : vX T w c v k = vX g w c v k := by
  unfold vX
  rw [vH_mq h hv, vF_mq h w c hv, vN_mq h hv, show 20 + v = 4 * 5 + v by omega, h.v 5 hv (by decide)]
theorem hrUj_mq {g T : Nat → Int32} (h : mq g T) (w c : Int32) : ∀ j, j ≤ cnt g → hrUj T w c j = hrUj g w c j
  | 0, _ => rfl
  | j + 1, hj => by rw [hrUj, hrUj, hrUj_mq h w c j (by omega), vN_mq h (by omega), vF_mq h w c (by omega), vH_mq h (by omega)]
theorem hrU_mq {g T : Nat → Int32} (h : mq g T) (w c : Int32) : hrU T w c = hrU g w c := by
  unfold hrU
  rw [h.1.c]
  exact hrUj_mq h w c _ (Nat.le_refl _)
theorem hr_mq {g T : Nat → Int32} (h : mq g T) (hc : okC g) (w c : Int32) : mq (hr g w c) (hr T w c) := by
  have h4 := cnt_le hc
  refine ⟨(h.1.hr1 hc w c).hr2 (hc.hr w c) w c, ?_⟩
  intro j k hj h3 h6
  rw [hr_cnt] at hj
  have hd : (4 * k + j) % 4 = j := by omega
  have hq : (4 * k + j) / 4 = k := by omega
  unfold hr
  rw [pk_un (by omega), pk_un (by omega)]
  unfold hrJ
  rw [hd, hq, h.1.c, if_pos (by omega), if_pos (by omega), vX_mq h w c hj]
theorem moo_mq {g S T : Nat → Int32} (hS : mq g S) (hT : stq g T) (hc : okC g) : mq g (moo (cnt T) S T) := by
  have h4 := cnt_le hc
  have e : ∀ i, (i < 12 ∨ 24 ≤ i) → moo (cnt T) S T i = T i := fun i hi => if_neg (by omega)
  refine ⟨⟨?_, ?_, ?_, ?_⟩, ?_⟩
  · rw [e _ (by omega)]; exact hT.1
  · rw [e _ (by omega)]; exact hT.2.1
  · rw [e _ (by omega)]; exact hT.2.2.1
  · intro j k hj hk
    rw [e _ (by omega)]; exact hT.2.2.2 j k hj hk
  · intro j k hj h3 h6
    rw [← hS.2 j k hj h3 h6]
    unfold moo
    exact if_pos (by rw [hT.c]; omega)
theorem mq_veq {g T : Nat → Int32} (h : veq g T) (hc : okC g) : mq g T := by
  have h4 := cnt_le hc
  exact ⟨⟨h.a24, h.a50, h.a51, fun j k hj hk => h.v hj (by omega) (by omega)⟩, fun j k hj h3 h6 => h.v hj h6 (by omega)⟩
def mxv (f : Nat → Nat) : Nat → Nat
  | 0 => 0
  | k + 1 => max (mxv f k) (f k)
def mfv : Nat → (Nat → Int32) → Nat
  | 0, _ => 0
  | d + 1, g => mxv (fun k => min (uN g 9 (sCho g (nI k)) + mfv d (hr g 9 (sCho g (nI k)))) (uN g 0 (sCho g (nI k)) + mfv d (hr g 0 (sCho g (nI k))))) (cnt g + 1)
def lfv (d : Nat) (g : Nat → Int32) (c : Int32) : Nat := min (uN g 9 c + mfv d (hr g 9 c)) (uN g 0 c + mfv d (hr g 0 c))
theorem mfv_s (d : Nat) (g : Nat → Int32) : mfv (d + 1) g = mxv (fun k => lfv d g (sCho g (nI k))) (cnt g + 1) := rfl
theorem mxv_le {f : Nat → Nat} {B : Nat} (h : ∀ k, f k ≤ B) : ∀ k, mxv f k ≤ B
  | 0 => Nat.zero_le _
  | k + 1 => by
    have := mxv_le h k
    have := h k
    rw [mxv]
    omega
theorem mfv_le : ∀ d {g : Nat → Int32}, okC g → mfv d g ≤ 4 * d
  | 0, _, _ => Nat.le_refl 0
  | d + 1, g, hc => by
    rw [mfv_s]
    refine mxv_le (fun k => ?_) _
    have a := (uN_e hc 9 (sCho g (nI k))).2
    have b := mfv_le d (hc.hr 9 (sCho g (nI k)))
    unfold lfv
    omega
theorem lfv_le (d : Nat) {g : Nat → Int32} (hc : okC g) (c : Int32) : lfv d g c ≤ 4 * (d + 1) := by
  have a := (uN_e hc 9 c).2
  have b := mfv_le d (hc.hr 9 c)
  unfold lfv
  omega
/-- before a turn of the play; behind one -/
def plI (x : Nat) (g : Nat → Int32) (m : gMem) : Prop := pgC m (x + 1) 24 = g 24 ∧ ∀ i, i < 5 → stq g (pgC m (x + 30 + 8 * i))
def plK (x j : Nat) (g : Nat → Int32) (m m' : gMem) : Prop := scr x m m' ∧ (∀ i, i ≤ j → pgC m' (x + 30 + 8 * i) = pgC m (x + 30 + 8 * i)) ∧ ∀ i, i < 5 → stq g (pgC m' (x + 30 + 8 * i))
theorem plK.i {x j : Nat} {g : Nat → Int32} {m m' : gMem} (h : plK x j g m m') (hi : plI x g m) : plI x g m' := ⟨by rw [h.1.n]; exact hi.1, h.2.2⟩
theorem plK.tr {x j : Nat} {g : Nat → Int32} {m m' m'' : gMem} (h : plK x j g m m') (h' : plK x j g m' m'') : plK x j g m m'' := ⟨h.1.tr h'.1, fun i hi => (h'.2.1 i hi).trans (h.2.1 i hi), h'.2.2⟩
/-- a turn of the crowd's: moods, an hour, on the next level -/
theorem plK_lv {x j : Nat} {g : Nat → Int32} {m : gMem} (hI : plI x g m) (hj : j < 4) {P : Nat → Int32} (hP0 : pg0 P) (hP : stq g P) : plK x j g m (gP m (x + 30 + 8 * (j + 1)) P) := by
  refine ⟨(scr.rf x m).l (by omega) _, fun i hi => pgC_ne (by unfold gAp; omega) _ _, fun i hi => ?_⟩
  by_cases h : i = j + 1
  · subst h; rw [pgC_gP hP0]; exact hP
  · rw [pgC_ne (by unfold gAp; omega)]; exact hI.2 i hi
theorem moo_0' {j : Nat} {s d : Nat → Int32} (h : pg0 d) : pg0 (moo j s d) := by
  intro i hi
  unfold moo
  rw [if_neg (by omega)]
  exact h i hi
def gMF (E : gEv) (σ : gSg) (hi x d : Nat) : Prop := ∀ (j : Nat) (m : gMem) (g : Nat → Int32), j + d ≤ 4 → plI x g m → okC g → mq g (pgC m (x + 30 + 8 * j)) → gCo E yX6_mostFrom cX6_mostFrom 5 (some .int) (5 + 2 * d) [.ref x, .int (nI j), .int (nI (j + d))] σ m hi (fun v m' => v = some (.int (nI (mfv d g))) ∧ plK x j g m m')
def gLF (E : gEv) (σ : gSg) (hi x d : Nat) : Prop := ∀ (j : Nat) (m : gMem) (g : Nat → Int32) (c mo : Int32), j + d + 1 ≤ 4 → plI x g m → okC g → mq g (pgC m (x + 30 + 8 * j)) → gCo E yX6_leastFor cX6_leastFor 8 (some .int) (6 + 2 * d) [.ref x, .int (nI j), .int (nI (j + d + 1)), .int c, .int mo] σ m hi (fun v m' => (∃ r, v = some (.int (nI r)) ∧ r < 2 ^ 30 ∧ (r = lfv d g c ∨ (nI r ≤ mo ∧ nI (lfv d g c) ≤ mo))) ∧ plK x j g m m')
theorem cX_leastFor {E : gEv} {σ : gSg} {hi x d : Nat} (hN : gN σ x) (hM : gMF E σ hi x d) : gLF E σ hi x d := by
  intro j m g c mo hjd hI hc hmq
  refine gCo.of mwX6_leastFor (Nat.le_of_ble_eq_true rfl) ?_
  intro F hF
  have hx := hN.1
  obtain ⟨-, -, -, ⟨fl, h17, hfl⟩, -, -, -, -, -, -, -, -, -, -, -, -, hGl, -⟩ := hN
  have hj4 : j < 4 := by omega
  have hix : gIdx (nI j) 5 j := gIdx.of rfl (by omega) (by decide)
  have hix1 : gIdx (nI (j + 1)) 5 (j + 1) := gIdx.of rfl (by omega) (by decide)
  have hfj := hfl j (by omega)
  have hfj1 := hfl (j + 1) (by omega)
  have hg1 := (hGl (j + 1) (by omega)).1
  have hGa := hGl (j + 1) (by omega)
  have hGb := hGl j (by omega)
  have hap : gAp (x + 30 + 8 * (j + 1)) (x + 30 + 8 * j) := by unfold gAp; omega
  -- one trial: moods of level j on level j + 1
  have hTM : ∀ mi : gMem, plK x j g m mi → gCo E yX0_takeMoods cX0_takeMoods 3 (none) 1 [.ref (x + 30 + 8 * (j + 1)), .ref (x + 30 + 8 * j)] σ mi hi (gX none (gP mi (x + 30 + 8 * (j + 1)) (moo (cnt (pgC mi (x + 30 + 8 * (j + 1)))) (pgC m (x + 30 + 8 * j)) (pgC mi (x + 30 + 8 * (j + 1)))))) := by
    intro mi hk
    have := cG_takeMoods E σ mi hi (x + 30 + 8 * (j + 1)) (x + 30 + 8 * j) hGa hGb hap ((hk.2.2 (j + 1) (by omega)).ok hc)
    rw [hk.2.1 j (Nat.le_refl _)] at this
    exact this
  have hS : ∀ mi : gMem, plK x j g m mi → mq g (moo (cnt (pgC mi (x + 30 + 8 * (j + 1)))) (pgC m (x + 30 + 8 * j)) (pgC mi (x + 30 + 8 * (j + 1)))) := fun mi hk => moo_mq hmq (hk.2.2 (j + 1) (by omega)) hc
  have hPS : ∀ (mi : gMem) (w : Int32), plK x j g m mi → gCo E yX0_pass cX0_pass 5 (some .int) 2 [.ref (x + 30 + 8 * (j + 1)), .int w, .int c] σ (gP mi (x + 30 + 8 * (j + 1)) (moo (cnt (pgC mi (x + 30 + 8 * (j + 1)))) (pgC m (x + 30 + 8 * j)) (pgC mi (x + 30 + 8 * (j + 1))))) hi (gX (some (.int (hrU g w c))) (gP mi (x + 30 + 8 * (j + 1)) (hr (moo (cnt (pgC mi (x + 30 + 8 * (j + 1)))) (pgC m (x + 30 + 8 * j)) (pgC mi (x + 30 + 8 * (j + 1)))) w c))) := by
    intro mi w hk
    have hp := pgC_gP (moo_0' (j := cnt (pgC mi (x + 30 + 8 * (j + 1)))) (s := pgC m (x + 30 + 8 * j)) (pgC_0 mi (x + 30 + 8 * (j + 1)))) mi (x + 30 + 8 * (j + 1))
    have := cG_pass E σ (gP mi (x + 30 + 8 * (j + 1)) (moo (cnt (pgC mi (x + 30 + 8 * (j + 1)))) (pgC m (x + 30 + 8 * j)) (pgC mi (x + 30 + 8 * (j + 1))))) hi (x + 30 + 8 * (j + 1)) w c hGa (by rw [hp]; exact (hS mi hk).1.ok hc)
    rw [hp, gP_gP, hrU_mq (hS mi hk)] at this
    exact this
  have hK1 : ∀ (mi : gMem) (w : Int32), plK x j g m mi → plK x j g m (gP mi (x + 30 + 8 * (j + 1)) (hr (moo (cnt (pgC mi (x + 30 + 8 * (j + 1)))) (pgC m (x + 30 + 8 * j)) (pgC mi (x + 30 + 8 * (j + 1)))) w c)) := by
    intro mi w hk
    exact hk.tr (plK_lv (hk.i hI) hj4 (hr_0 (moo_0' (pgC_0 _ _)) w c) ((hS mi hk).1.hr2 hc w c))
  have hMo : ∀ (mi : gMem) (w : Int32), plK x j g m mi → gCo E yX6_mostFrom cX6_mostFrom 5 (some .int) (5 + 2 * d) [.ref x, .int (nI (j + 1)), .int (nI (j + d + 1))] σ (gP mi (x + 30 + 8 * (j + 1)) (hr (moo (cnt (pgC mi (x + 30 + 8 * (j + 1)))) (pgC m (x + 30 + 8 * j)) (pgC mi (x + 30 + 8 * (j + 1)))) w c)) hi (fun v m' => v = some (.int (nI (mfv d (hr g w c)))) ∧ plK x j g m m') := by
    intro mi w hk
    have hk1 := hK1 mi w hk
    have hI1 := hk1.i hI
    have hp := pgC_gP (hr_0 (moo_0' (j := cnt (pgC mi (x + 30 + 8 * (j + 1)))) (s := pgC m (x + 30 + 8 * j)) (pgC_0 mi (x + 30 + 8 * (j + 1)))) w c) mi (x + 30 + 8 * (j + 1))
    have := hM (j + 1) (gP mi (x + 30 + 8 * (j + 1)) (hr (moo (cnt (pgC mi (x + 30 + 8 * (j + 1)))) (pgC m (x + 30 + 8 * j)) (pgC mi (x + 30 + 8 * (j + 1)))) w c)) (hr g w c) (by omega) ⟨by rw [hI1.1, hr_24], fun i hi => (hI1.2 i hi).hr1 hc w c⟩ (hc.hr w c) (by rw [hp]; exact hr_mq (hS mi hk) hc w c)
    rw [show j + 1 + d = j + d + 1 by omega] at this
    refine gCo.wk this ?_
    rintro v m' ⟨rfl, q1, q2, q3⟩
    exact ⟨rfl, hk1.tr ⟨q1, fun i hi => q2 i (by omega), fun i hi => (q3 i hi).un hc⟩⟩
  have hk0 : plK x j g m m := ⟨scr.rf x m, fun _ _ => rfl, hI.2⟩
  have u9 := uN_e hc 9 c
  have u0 := uN_e hc 0 c
  have b9 := mfv_le d (hc.hr 9 c)
  have b0 := mfv_le d (hc.hr 0 c)
  refine j_iload_n (q := 1) dX6_leastFor_0 rfl (by rfl) ?_
  refine j_if_lt (q := 4) (tgt := 9) dX6_leastFor_1 rfl (by decide) (fun h1 => ?_) (fun h1 => ?_)
  · exact absurd h1 (nI_pos (by omega))
  refine j_iload_n (q := 5) dX6_leastFor_4 rfl (by rfl) ?_
  refine j_iconst (q := 6) (v := 4) dX6_leastFor_5 rfl (by decide) ?_
  refine j_icmp_lt (q := 9) (tgt := 11) dX6_leastFor_6 rfl (by decide) (fun h6 => ?_) (fun h6 => ?_)
  · refine j_aload_n (q := 12) dX6_leastFor_11 rfl (by rfl) ?_
    refine j_getr (q := 15) dX6_leastFor_12 rfl fX6_19 (by assumption) (by rfl) ?_
    refine j_iload_n (q := 16) dX6_leastFor_15 rfl (by rfl) ?_
    refine j_iconst (q := 17) (v := 1) dX6_leastFor_16 rfl (by decide) ?_
    refine j_iadd (q := 18) dX6_leastFor_17 rfl ?_
    rw [nI_1]
    refine j_aaload (q := 19) dX6_leastFor_18 rfl (by assumption) (by decide) (by assumption) (by assumption) ?_
    refine j_astore (q := 21) dX6_leastFor_19 rfl (by decide) ?_
    refine j_aload (q := 23) dX6_leastFor_21 rfl (by rfl) ?_
    refine j_aload_n (q := 24) dX6_leastFor_23 rfl (by rfl) ?_
    refine j_getr (q := 27) dX6_leastFor_24 rfl fX6_19 (by assumption) (by rfl) ?_
    refine j_iload_n (q := 28) dX6_leastFor_27 rfl (by rfl) ?_
    refine j_aaload (q := 29) dX6_leastFor_28 rfl (by assumption) (by decide) (by assumption) (by assumption) ?_
    refine o_callVv (q := 32) dX6_leastFor_29 rfl lX6_240 mwX0_takeMoods mvX0_takeMoods cn0 (by assumption) (by rfl) rfl (Nat.le_of_ble_eq_true (by rfl)) (by first | decide | omega) (hTM m hk0) ?_
    refine j_aload (q := 34) dX6_leastFor_32 rfl (by rfl) ?_
    refine j_bipush (q := 36) (v := 9) dX6_leastFor_34 rfl (by decide) ?_
    refine j_iload_n (q := 37) dX6_leastFor_36 rfl (by rfl) ?_
    refine o_callVi (q := 40) dX6_leastFor_37 rfl lX6_214 mwX0_pass mvX0_pass cn0 (by assumption) (by rfl) rfl (Nat.le_of_ble_eq_true (by rfl)) (by first | decide | omega) (hPS m 9 hk0) ?_
    refine o_callSi (q := 43) dX6_leastFor_40 rfl lX6_217 mwJ6_bitCount_0f7a4 msJ6_bitCount_0f7a4 (by rfl) rfl (Nat.le_of_ble_eq_true (by rfl)) (by first | decide | omega) (cJ_bitCount E σ _ hi _) ?_
    rw [u9.1]
    refine j_aload_n (q := 44) dX6_leastFor_43 rfl (by rfl) ?_
    refine j_iload_n (q := 45) dX6_leastFor_44 rfl (by rfl) ?_
    refine j_iconst (q := 46) (v := 1) dX6_leastFor_45 rfl (by decide) ?_
    refine j_iadd (q := 47) dX6_leastFor_46 rfl ?_
    rw [nI_1]
    refine j_iload_n (q := 48) dX6_leastFor_47 rfl (by rfl) ?_
    refine o_callVx (q := 51) dX6_leastFor_48 rfl lX6_243 mwX6_mostFrom mvX6_mostFrom cn6 (by assumption) (by rfl) rfl (Nat.le_of_ble_eq_true (by rfl)) (by first | decide | omega) (hMo m 9 hk0) ?_
    rintro _ m1 ⟨rfl, hk1⟩
    refine j_iadd (q := 52) dX6_leastFor_51 rfl ?_
    rw [nI_add]
    refine j_istore (q := 54) dX6_leastFor_52 rfl (by decide) ?_
    refine j_iload (q := 56) dX6_leastFor_54 rfl (by rfl) ?_
    refine j_iload (q := 58) dX6_leastFor_56 rfl (by rfl) ?_
    refine j_icmp_gt (q := 61) (tgt := 64) dX6_leastFor_58 rfl (by decide) (fun h58 => ?_) (fun h58 => ?_)
    · refine j_aload (q := 66) dX6_leastFor_64 rfl (by rfl) ?_
      refine j_aload_n (q := 67) dX6_leastFor_66 rfl (by rfl) ?_
      refine j_getr (q := 70) dX6_leastFor_67 rfl fX6_19 (by assumption) (by rfl) ?_
      refine j_iload_n (q := 71) dX6_leastFor_70 rfl (by rfl) ?_
      refine j_aaload (q := 72) dX6_leastFor_71 rfl (by assumption) (by decide) (by assumption) (by assumption) ?_
      refine o_callVv (q := 75) dX6_leastFor_72 rfl lX6_240 mwX0_takeMoods mvX0_takeMoods cn0 (by assumption) (by rfl) rfl (Nat.le_of_ble_eq_true (by rfl)) (by first | decide | omega) (hTM m1 hk1) ?_
      refine j_aload (q := 77) dX6_leastFor_75 rfl (by rfl) ?_
      refine j_iconst (q := 78) (v := 0) dX6_leastFor_77 rfl (by decide) ?_
      refine j_iload_n (q := 79) dX6_leastFor_78 rfl (by rfl) ?_
      refine o_callVi (q := 82) dX6_leastFor_79 rfl lX6_214 mwX0_pass mvX0_pass cn0 (by assumption) (by rfl) rfl (Nat.le_of_ble_eq_true (by rfl)) (by first | decide | omega) (hPS m1 0 hk1) ?_
      refine o_callSi (q := 85) dX6_leastFor_82 rfl lX6_217 mwJ6_bitCount_0f7a4 msJ6_bitCount_0f7a4 (by rfl) rfl (Nat.le_of_ble_eq_true (by rfl)) (by first | decide | omega) (cJ_bitCount E σ _ hi _) ?_
      rw [u0.1]
      refine j_aload_n (q := 86) dX6_leastFor_85 rfl (by rfl) ?_
      refine j_iload_n (q := 87) dX6_leastFor_86 rfl (by rfl) ?_
      refine j_iconst (q := 88) (v := 1) dX6_leastFor_87 rfl (by decide) ?_
      refine j_iadd (q := 89) dX6_leastFor_88 rfl ?_
      rw [nI_1]
      refine j_iload_n (q := 90) dX6_leastFor_89 rfl (by rfl) ?_
      refine o_callVx (q := 93) dX6_leastFor_90 rfl lX6_243 mwX6_mostFrom mvX6_mostFrom cn6 (by assumption) (by rfl) rfl (Nat.le_of_ble_eq_true (by rfl)) (by first | decide | omega) (hMo m1 0 hk1) ?_
      rintro _ m2 ⟨rfl, hk2⟩
      refine j_iadd (q := 94) dX6_leastFor_93 rfl ?_
      rw [nI_add]
      refine j_istore (q := 96) dX6_leastFor_94 rfl (by decide) ?_
      refine j_iload (q := 98) dX6_leastFor_96 rfl (by rfl) ?_
      refine j_iload (q := 100) dX6_leastFor_98 rfl (by rfl) ?_
      refine j_mmin (q := 103) dX6_leastFor_100 rfl lX6_246 ⟨⟨by first | decide | (dsimp only [gRm]; omega), by first | exact Nat.le_of_ble_eq_true (by rfl) | (show 0 + 13 ≤ 40 * _; omega)⟩, by first | decide | exact Nat.zero_le _, by first | decide | exact Nat.zero_le _⟩ ?_
      by_cases hle : uN g 0 c + mfv d (hr g 0 c) < uN g 9 c + mfv d (hr g 9 c)
      · rw [if_pos (nI_lt hle (by omega))]
        refine o_iret hF rfl dX6_leastFor_103 ?_
        exact ⟨⟨_, rfl, by omega, Or.inl (by unfold lfv; omega)⟩, hk2⟩
      · rw [if_neg (nI_nlt (by omega) (by omega))]
        refine o_iret hF rfl dX6_leastFor_103 ?_
        exact ⟨⟨_, rfl, by omega, Or.inl (by unfold lfv; omega)⟩, hk2⟩
    · refine j_iload (q := 63) dX6_leastFor_61 rfl (by rfl) ?_
      refine o_iret hF rfl dX6_leastFor_63 ?_
      have hle : nI (uN g 9 c + mfv d (hr g 9 c)) ≤ mo := Int32.not_lt.mp h58
      exact ⟨⟨_, rfl, by omega, Or.inr ⟨hle, Int32.le_trans (nI_le (by unfold lfv; omega) (by omega)) hle⟩⟩, hk1⟩
  · exact absurd (show nI j < 4 from nI_lt (b := 4) (by omega) (by decide)) h6
theorem cX_mostFrom {E : gEv} {σ : gSg} {hi x d : Nat} (hN : gN σ x) (hL : gLF E σ hi x d) : gMF E σ hi x (d + 1) := by
  intro j m g hjd hI hc hmq
  refine gCo.of mwX6_mostFrom (Nat.le_of_ble_eq_true rfl) ?_
  intro F hF
  have hx := hN.1
  have h1 := hN.2.1.1
  have hG1 := hN.2.1
  obtain ⟨c, ec, hc4⟩ := id hc
  have hcn : cnt g = c := by unfold cnt; rw [ec]; exact nI_clamp (by omega)
  have K10 : ∀ (u k : Nat) (mi : gMem), k + u = c + 1 → plK x j g m mi → (gJ E yX6_mostFrom cX6_mostFrom 5 (some .int) (gRm (5 + 2 * (d + 1)) 0 0) F 10 ([some (.ref x), some (.int (nI j)), some (.int (nI (j + (d + 1)))), some (.int (nI (mxv (fun k => lfv d g (sCho g (nI k))) k))), some (.int (nI k))]) ([]) 0 0 σ (mi) hi) := by
    intro u
    induction u with
    | zero =>
      intro k mi hk hK
      have : k = c + 1 := by omega
      subst this
      refine j_iload (q := 12) dX6_mostFrom_10 rfl (by rfl) ?_
      refine j_aload_n (q := 13) dX6_mostFrom_12 rfl (by rfl) ?_
      refine j_getr (q := 16) dX6_mostFrom_13 rfl fX6_10 (by assumption) (by rfl) ?_
      refine j_geti (q := 19) dX6_mostFrom_16 rfl fX6_100 (by assumption) (by rfl) ?_
      rw [pg_3, (hK.i hI).1, ec]
      refine j_icmp_gt (q := 22) (tgt := 49) dX6_mostFrom_19 rfl (by decide) (fun h19 => ?_) (fun h19 => ?_)
      · refine j_iload_n (q := 50) dX6_mostFrom_49 rfl (by rfl) ?_
        refine o_iret hF rfl dX6_mostFrom_50 ?_
        exact ⟨by rw [mfv_s, hcn], hK⟩
      · exact absurd (nI_lt (by omega) (by omega)) h19
    | succ u ih =>
      intro k mi hk hK
      refine j_iload (q := 12) dX6_mostFrom_10 rfl (by rfl) ?_
      refine j_aload_n (q := 13) dX6_mostFrom_12 rfl (by rfl) ?_
      refine j_getr (q := 16) dX6_mostFrom_13 rfl fX6_10 (by assumption) (by rfl) ?_
      refine j_geti (q := 19) dX6_mostFrom_16 rfl fX6_100 (by assumption) (by rfl) ?_
      rw [pg_3, (hK.i hI).1, ec]
      refine j_icmp_gt (q := 22) (tgt := 49) dX6_mostFrom_19 rfl (by decide) (fun h19 => ?_) (fun h19 => ?_)
      · exact absurd h19 (nI_nlt (by omega) (by omega))
      · have hch := cG_choice E σ mi hi (x + 1) (nI k) hG1
        rw [show sCho (pgC mi (x + 1)) (nI k) = sCho g (nI k) by unfold sCho; rw [(hK.i hI).1]] at hch
        refine j_iload_n (q := 23) dX6_mostFrom_22 rfl (by rfl) ?_
        refine j_aload_n (q := 24) dX6_mostFrom_23 rfl (by rfl) ?_
        refine j_iload_n (q := 25) dX6_mostFrom_24 rfl (by rfl) ?_
        refine j_iload_n (q := 26) dX6_mostFrom_25 rfl (by rfl) ?_
        refine j_aload_n (q := 27) dX6_mostFrom_26 rfl (by rfl) ?_
        refine j_getr (q := 30) dX6_mostFrom_27 rfl fX6_10 (by assumption) (by rfl) ?_
        refine j_iload (q := 32) dX6_mostFrom_30 rfl (by rfl) ?_
        refine o_callVi (q := 35) dX6_mostFrom_32 rfl lX6_204 mwX0_choice mvX0_choice cn0 (by assumption) (by rfl) rfl (Nat.le_of_ble_eq_true (by rfl)) (by first | decide | omega) (hch) ?_
        refine j_iload_n (q := 36) dX6_mostFrom_35 rfl (by rfl) ?_
        have hLL := hL j mi g (sCho g (nI k)) (nI (mxv (fun k => lfv d g (sCho g (nI k))) k)) (by omega) (hK.i hI) hc (by rw [hK.2.1 j (Nat.le_refl _)]; exact hmq)
        refine o_callVx (q := 39) dX6_mostFrom_36 rfl lX6_236 mwX6_leastFor mvX6_leastFor cn6 (by assumption) (by rfl) rfl (Nat.le_of_ble_eq_true (by rfl)) (by first | decide | omega) (hLL) ?_
        rintro _ m1 ⟨⟨r, rfl, hr30, hr⟩, hK1⟩
        have hb : mxv (fun k => lfv d g (sCho g (nI k))) k ≤ 4 * (d + 1) := mxv_le (fun k => lfv_le d hc _) k
        have hb2 := lfv_le d hc (sCho g (nI k))
        have hmx : (if nI (mxv (fun k => lfv d g (sCho g (nI k))) k) < nI r then nI r else nI (mxv (fun k => lfv d g (sCho g (nI k))) k)) = nI (mxv (fun k => lfv d g (sCho g (nI k))) (k + 1)) := by
          rw [mxv]
          rcases hr with h | ⟨h, h'⟩
          · subst h
            by_cases hlt : mxv (fun k => lfv d g (sCho g (nI k))) k < lfv d g (sCho g (nI k))
            · rw [if_pos (nI_lt hlt (by omega))]; congr 1; omega
            · rw [if_neg (nI_nlt (by omega) (by omega))]; congr 1; omega
          · rw [nI_leI (by omega) (by omega)] at h h'
            rw [if_neg (nI_nlt h (by omega))]; congr 1; omega
        refine j_mmax (q := 42) dX6_mostFrom_39 rfl lX6_222 ⟨⟨by first | decide | (dsimp only [gRm]; omega), by first | exact Nat.le_of_ble_eq_true (by rfl) | (show 0 + 13 ≤ 40 * _; omega)⟩, by first | decide | exact Nat.zero_le _, by first | decide | exact Nat.zero_le _⟩ ?_
        rw [hmx]
        refine j_istore_n (q := 43) dX6_mostFrom_42 rfl (by decide) ?_
        refine j_iinc (q := 46) dX6_mostFrom_43 rfl (by rfl) (by first | exact nI_inc _ | rfl) (by decide) ?_
        refine j_goto (tgt := 10) dX6_mostFrom_46 (by decide) ?_
        exact ih (k + 1) m1 (by omega) (hK.tr hK1)
  refine j_iconst (q := 1) (v := 0) dX6_mostFrom_0 rfl (by decide) ?_
  refine j_istore_n (q := 2) dX6_mostFrom_1 rfl (by decide) ?_
  refine j_iload_n (q := 3) dX6_mostFrom_2 rfl (by rfl) ?_
  refine j_iload_n (q := 4) dX6_mostFrom_3 rfl (by rfl) ?_
  refine j_icmp_ge (q := 7) (tgt := 49) dX6_mostFrom_4 rfl (by decide) (fun h4 => ?_) (fun h4 => ?_)
  · exact absurd h4 (nI_ge (by omega) (by omega))
  · refine j_iconst (q := 8) (v := 0) dX6_mostFrom_7 rfl (by decide) ?_
    refine j_istore (q := 10) dX6_mostFrom_8 rfl (by decide) ?_
    exact K10 (c + 1) 0 m (by omega) ⟨scr.rf x m, fun _ _ => rfl, hI.2⟩
theorem cX_mostFrom0 {E : gEv} {σ : gSg} {hi x : Nat} : gMF E σ hi x 0 := by
  intro j m g hjd hI hc hmq
  refine gCo.of mwX6_mostFrom (Nat.le_of_ble_eq_true rfl) ?_
  intro F hF
  refine j_iconst (q := 1) (v := 0) dX6_mostFrom_0 rfl (by decide) ?_
  refine j_istore_n (q := 2) dX6_mostFrom_1 rfl (by decide) ?_
  refine j_iload_n (q := 3) dX6_mostFrom_2 rfl (by rfl) ?_
  refine j_iload_n (q := 4) dX6_mostFrom_3 rfl (by rfl) ?_
  refine j_icmp_ge (q := 7) (tgt := 49) dX6_mostFrom_4 rfl (by decide) (fun h4 => ?_) (fun h4 => ?_)
  · refine j_iload_n (q := 50) dX6_mostFrom_49 rfl (by rfl) ?_
    refine o_iret hF rfl dX6_mostFrom_50 ?_
    exact ⟨rfl, scr.rf x m, fun _ _ => rfl, hI.2⟩
  · exact absurd (Int32.le_refl _) h4
theorem cX_MF {E : gEv} {σ : gSg} {hi x : Nat} (hN : gN σ x) : ∀ d, gMF E σ hi x d
  | 0 => cX_mostFrom0
  | d + 1 => cX_mostFrom hN (cX_leastFor hN (cX_MF hN d))
def plF (g : Nat → Int32) (d : Nat) (k : Nat) : Int32 := nI (lfv d g (sCho g (nI k)))
def plB (g : Nat → Int32) (d : Nat) : Int32 × Int32 := bst (plF g d) (fun k => sCho g (nI k)) 4 (-1) (cnt g + 1)
def xPlay (g : Nat → Int32) (n k : Int32) : Int32 := if (0 ≤ n ∧ n ≤ 4) ∧ (0 ≤ k ∧ k ≤ 1) then (if n = 0 then (if k = 0 then 0 else -4) else (if k = 0 then (plB g (n.toNatClampNeg - 1)).2 else (plB g (n.toNatClampNeg - 1)).1)) else -1
theorem cX_play (E : gEv) (σ : gSg) (m : gMem) (hi x : Nat) (n k : Int32) (hN : gN σ x) (ho : okN m x) : gCo E yX6_play cX6_play 7 (some .int) 13 [.ref x, .int n, .int k] σ m hi (fun v' m' => v' = some (.int (xPlay (pgC m (x + 1)) n k)) ∧ scr x m m') := by
  refine gCo.of mwX6_play (Nat.le_of_ble_eq_true rfl) ?_
  intro F hF
  have hN0 := hN
  have hx := hN.1
  have h1 := hN.2.1.1
  have hG1 := hN.2.1
  obtain ⟨-, -, -, ⟨fl, h17, hfl⟩, -, -, -, -, -, -, -, -, -, -, -, -, hGl, -⟩ := hN
  obtain ⟨c, hc, hc4⟩ := ho.1
  have hcn : cnt (pgC m (x + 1)) = c := by unfold cnt; rw [hc]; exact nI_clamp (by omega)
  obtain ⟨r, h, er, hr12, -, -⟩ := ho.2
  unfold xPlay at hF
  refine j_iload_n (q := 1) dX6_play_0 rfl (by rfl) ?_
  refine j_iconst (q := 2) (v := 0) dX6_play_1 rfl (by decide) ?_
  refine j_iconst (q := 3) (v := 4) dX6_play_2 rfl (by decide) ?_
  refine o_callSi (q := 6) dX6_play_3 rfl lX6_66 mwX6_within msX6_within (by rfl) rfl (Nat.le_of_ble_eq_true (by rfl)) (by first | decide | omega) (cX_within E σ m hi _ _ _) ?_
  refine j_if_eq (q := 9) (tgt := 18) dX6_play_6 rfl (by decide) (fun h6 => ?_) (fun h6 => ?_)
  · refine j_iconst (q := 19) (v := (-1)) dX6_play_18 rfl (by decide) ?_
    refine o_iret hF rfl dX6_play_19 ?_
    rw [if_neg (fun h => sWi_0 h6 h.1)]
    exact ⟨rfl, scr.rf x m⟩
  refine j_iload_n (q := 10) dX6_play_9 rfl (by rfl) ?_
  refine j_iconst (q := 11) (v := 0) dX6_play_10 rfl (by decide) ?_
  refine j_iconst (q := 12) (v := 1) dX6_play_11 rfl (by decide) ?_
  refine o_callSi (q := 15) dX6_play_12 rfl lX6_66 mwX6_within msX6_within (by rfl) rfl (Nat.le_of_ble_eq_true (by rfl)) (by first | decide | omega) (cX_within E σ m hi _ _ _) ?_
  refine j_if_ne (q := 18) (tgt := 20) dX6_play_15 rfl (by decide) (fun h15 => ?_) (fun h15 => ?_)
  · rw [if_pos ⟨sWi_1 h6, sWi_1 h15⟩] at hF
    obtain ⟨t, ht, et⟩ := swN_wi (n := 4) (by decide) h6
    subst et
    refine j_iload_n (q := 21) dX6_play_20 rfl (by rfl) ?_
    refine j_if_ne (q := 24) (tgt := 35) dX6_play_21 rfl (by decide) (fun h21 => ?_) (fun h21 => ?_)
    · rw [if_neg h21, nI_clamp (by omega)] at hF
      have ht0 : 0 < t := by
        rcases Nat.eq_zero_or_pos t with h | h
        · subst h; exact absurd rfl h21
        · exact h
      obtain ⟨d, rfl⟩ : ∃ d, t = d + 1 := ⟨t - 1, by omega⟩
      rw [show d + 1 - 1 = d by omega] at hF
      have K73 : ∀ (u b : Nat) (mi : gMem) (o6 : Option Value), b + u = c + 1 → plK x 0 (pgC m (x + 1)) mi mi → scr x m mi → mq (pgC m (x + 1)) (pgC mi (x + 30 + 8 * 0)) → (gJ E yX6_play cX6_play 7 (some .int) (gRm 13 0 0) F 73 ([some (.ref x), some (.int (nI (d + 1))), some (.int k), some (.int (bst (plF (pgC m (x + 1)) d) (fun k => sCho (pgC m (x + 1)) (nI k)) 4 (-1) b).1), some (.int (bst (plF (pgC m (x + 1)) d) (fun k => sCho (pgC m (x + 1)) (nI k)) 4 (-1) b).2), some (.int (nI b)), o6]) ([]) 0 0 σ (mi) hi) := by
        intro u
        induction u with
        | zero =>
          intro b mi o6 hb hK hsc hq
          have : b = c + 1 := by omega
          subst this
          have hB : plB (pgC m (x + 1)) d = bst (plF (pgC m (x + 1)) d) (fun k => sCho (pgC m (x + 1)) (nI k)) 4 (-1) (c + 1) := by unfold plB; rw [hcn]
          rw [hB] at hF
          refine j_iload (q := 75) dX6_play_73 rfl (by rfl) ?_
          refine j_aload_n (q := 76) dX6_play_75 rfl (by rfl) ?_
          refine j_getr (q := 79) dX6_play_76 rfl fX6_10 (by assumption) (by rfl) ?_
          refine j_geti (q := 82) dX6_play_79 rfl fX6_100 (by assumption) (by rfl) ?_
          rw [pg_3, hsc.n, hc]
          refine j_icmp_gt (q := 85) (tgt := 131) dX6_play_82 rfl (by decide) (fun h82 => ?_) (fun h82 => ?_)
          · refine j_iload_n (q := 132) dX6_play_131 rfl (by rfl) ?_
            refine j_if_ne (q := 135) (tgt := 140) dX6_play_132 rfl (by decide) (fun h132 => ?_) (fun h132 => ?_)
            · rw [if_neg h132] at hF
              refine j_iload_n (q := 141) dX6_play_140 rfl (by rfl) ?_
              refine o_iret hF rfl dX6_play_141 ?_
              exact ⟨rfl, hsc⟩
            · rw [if_pos (by first | exact h132 | exact Decidable.not_not.mp h132)] at hF
              refine j_iload (q := 137) dX6_play_135 rfl (by rfl) ?_
              refine j_goto (tgt := 141) dX6_play_137 (by decide) ?_
              refine o_iret hF rfl dX6_play_141 ?_
              exact ⟨rfl, hsc⟩
          · exact absurd (nI_lt (by omega) (by omega)) h82
        | succ u ih =>
          intro b mi o6 hb hK hsc hq
          have hch := cG_choice E σ mi hi (x + 1) (nI b) hG1
          rw [hsc.n] at hch
          refine j_iload (q := 75) dX6_play_73 rfl (by rfl) ?_
          refine j_aload_n (q := 76) dX6_play_75 rfl (by rfl) ?_
          refine j_getr (q := 79) dX6_play_76 rfl fX6_10 (by assumption) (by rfl) ?_
          refine j_geti (q := 82) dX6_play_79 rfl fX6_100 (by assumption) (by rfl) ?_
          rw [pg_3, hsc.n, hc]
          refine j_icmp_gt (q := 85) (tgt := 131) dX6_play_82 rfl (by decide) (fun h82 => ?_) (fun h82 => ?_)
          · exact absurd h82 (nI_nlt (by omega) (by omega))
          · refine j_aload_n (q := 86) dX6_play_85 rfl (by rfl) ?_
            refine j_iconst (q := 87) (v := 0) dX6_play_86 rfl (by decide) ?_
            refine j_iload_n (q := 88) dX6_play_87 rfl (by rfl) ?_
            refine j_aload_n (q := 89) dX6_play_88 rfl (by rfl) ?_
            refine j_getr (q := 92) dX6_play_89 rfl fX6_10 (by assumption) (by rfl) ?_
            refine j_iload (q := 94) dX6_play_92 rfl (by rfl) ?_
            refine o_callVi (q := 97) dX6_play_94 rfl lX6_204 mwX0_choice mvX0_choice cn0 (by assumption) (by rfl) rfl (Nat.le_of_ble_eq_true (by rfl)) (by first | decide | omega) (hch) ?_
            refine j_iload (q := 99) dX6_play_97 rfl (by rfl) ?_
            have hL := cX_leastFor hN0 (cX_MF (E := E) (hi := hi) hN0 d) 0 mi (pgC m (x + 1)) (sCho (pgC m (x + 1)) (nI b)) (bst (plF (pgC m (x + 1)) d) (fun k => sCho (pgC m (x + 1)) (nI k)) 4 (-1) b).2 (by omega) ⟨by rw [hsc.n], hK.2.2⟩ ho.1 hq
            rw [show 0 + d + 1 = d + 1 by omega] at hL
            refine o_callVx (q := 102) dX6_play_99 rfl lX6_236 mwX6_leastFor mvX6_leastFor cn6 (by assumption) (by rfl) rfl (Nat.le_of_ble_eq_true (by rfl)) (by first | decide | omega) (hL) ?_
            rintro _ m1 ⟨⟨q, rfl, hq30, hv⟩, hK1⟩
            have hsc1 := hsc.tr hK1.1
            have hK2 : plK x 0 (pgC m (x + 1)) m1 m1 := ⟨scr.rf x m1, fun _ _ => rfl, hK1.2.2⟩
            have hq1 : mq (pgC m (x + 1)) (pgC m1 (x + 30 + 8 * 0)) := by rw [hK1.2.1 0 (Nat.le_refl _)]; exact hq
            have := ih (b + 1) m1 (some (.int (nI q))) (by omega) hK2 hsc1 hq1
            refine j_istore (q := 104) dX6_play_102 rfl (by decide) ?_
            refine j_iload (q := 106) dX6_play_104 rfl (by rfl) ?_
            refine j_iload (q := 108) dX6_play_106 rfl (by rfl) ?_
            refine j_icmp_le (q := 111) (tgt := 125) dX6_play_108 rfl (by decide) (fun h108 => ?_) (fun h108 => ?_)
            · have hno : ¬ (bst (plF (pgC m (x + 1)) d) (fun k => sCho (pgC m (x + 1)) (nI k)) 4 (-1) b).2 < plF (pgC m (x + 1)) d b := by
                rcases hv with hv | ⟨-, hv⟩
                · rw [hv] at h108; exact Int32.not_lt.mpr h108
                · exact Int32.not_lt.mpr hv
              refine j_iinc (q := 128) dX6_play_125 rfl (by rfl) (by first | exact nI_inc _ | rfl) (by decide) ?_
              refine j_goto (tgt := 73) dX6_play_128 (by decide) ?_
              rw [bst, if_neg hno] at this
              exact this
            · have hv2 : q = lfv d (pgC m (x + 1)) (sCho (pgC m (x + 1)) (nI b)) := by
                rcases hv with hv | ⟨hv, -⟩
                · exact hv
                · exact absurd hv h108
              have hyes : (bst (plF (pgC m (x + 1)) d) (fun k => sCho (pgC m (x + 1)) (nI k)) 4 (-1) b).2 < plF (pgC m (x + 1)) d b := by
                unfold plF
                rw [← hv2]
                exact Int32.not_le.mp h108
              have hch1 := cG_choice E σ m1 hi (x + 1) (nI b) hG1
              rw [hsc1.n] at hch1
              refine j_iload (q := 113) dX6_play_111 rfl (by rfl) ?_
              refine j_istore (q := 115) dX6_play_113 rfl (by decide) ?_
              refine j_aload_n (q := 116) dX6_play_115 rfl (by rfl) ?_
              refine j_getr (q := 119) dX6_play_116 rfl fX6_10 (by assumption) (by rfl) ?_
              refine j_iload (q := 121) dX6_play_119 rfl (by rfl) ?_
              refine o_callVi (q := 124) dX6_play_121 rfl lX6_204 mwX0_choice mvX0_choice cn0 (by assumption) (by rfl) rfl (Nat.le_of_ble_eq_true (by rfl)) (by first | decide | omega) (hch1) ?_
              refine j_istore_n (q := 125) dX6_play_124 rfl (by decide) ?_
              refine j_iinc (q := 128) dX6_play_125 rfl (by rfl) (by first | exact nI_inc _ | rfl) (by decide) ?_
              refine j_goto (tgt := 73) dX6_play_128 (by decide) ?_
              rw [bst, if_pos hyes] at this
              unfold plF at this
              rw [← hv2] at this
              exact this
      have K37 : ∀ (u i : Nat) (mi : gMem), i + u = 5 → scr x m mi → (∀ q, q < i → mq (pgC m (x + 1)) (pgC mi (x + 30 + 8 * q))) → (gJ E yX6_play cX6_play 7 (some .int) (gRm 13 0 0) F 37 ([some (.ref x), some (.int (nI (d + 1))), some (.int k), some (.int (nI i)), none, none, none]) ([]) 0 0 σ (mi) hi) := by
        intro u
        induction u with
        | zero =>
          intro i mi hi' hsc hall
          have : i = 5 := by omega
          subst this
          refine j_iload_n (q := 38) dX6_play_37 rfl (by rfl) ?_
          refine j_aload_n (q := 39) dX6_play_38 rfl (by rfl) ?_
          refine j_getr (q := 42) dX6_play_39 rfl fX6_19 (by assumption) (by rfl) ?_
          refine j_alen (q := 43) dX6_play_42 rfl (by assumption) (by decide) (by rfl) ?_
          refine j_icmp_ge (q := 46) (tgt := 65) dX6_play_43 rfl (by decide) (fun h43 => ?_) (fun h43 => ?_)
          · refine j_iconst (q := 66) (v := 4) dX6_play_65 rfl (by decide) ?_
            refine j_istore_n (q := 67) dX6_play_66 rfl (by decide) ?_
            refine j_iconst (q := 68) (v := (-1)) dX6_play_67 rfl (by decide) ?_
            refine j_istore (q := 70) dX6_play_68 rfl (by decide) ?_
            refine j_iconst (q := 71) (v := 0) dX6_play_70 rfl (by decide) ?_
            refine j_istore (q := 73) dX6_play_71 rfl (by decide) ?_
            exact K73 (c + 1) 0 mi _ (by omega) ⟨scr.rf x mi, fun _ _ => rfl, fun i hi => (hall i hi).1⟩ hsc (hall 0 (by omega))
          · exact absurd (show (5 : Int32) ≤ nI 5 by decide) h43
        | succ u ih =>
          intro i mi hi' hsc hall
          have hix : gIdx (nI i) 5 i := gIdx.of rfl (by omega) (by decide)
          have hfi := hfl i (by omega)
          have hgi := (hGl i (by omega)).1
          have hB := cG_become E σ mi hi (x + 30 + 8 * i) (x + 1) (hGl i (by omega)) hG1 (by unfold gAp; omega) (by rw [hsc.n]; exact ho.1) (by rw [hsc.n]; exact ⟨r, er, hr12⟩)
          rw [hsc.n] at hB
          refine j_iload_n (q := 38) dX6_play_37 rfl (by rfl) ?_
          refine j_aload_n (q := 39) dX6_play_38 rfl (by rfl) ?_
          refine j_getr (q := 42) dX6_play_39 rfl fX6_19 (by assumption) (by rfl) ?_
          refine j_alen (q := 43) dX6_play_42 rfl (by assumption) (by decide) (by rfl) ?_
          refine j_icmp_ge (q := 46) (tgt := 65) dX6_play_43 rfl (by decide) (fun h43 => ?_) (fun h43 => ?_)
          · exact absurd h43 (nI_ge (a := i) (b := 5) (by omega) (by omega))
          · refine j_aload_n (q := 47) dX6_play_46 rfl (by rfl) ?_
            refine j_getr (q := 50) dX6_play_47 rfl fX6_19 (by assumption) (by rfl) ?_
            refine j_iload_n (q := 51) dX6_play_50 rfl (by rfl) ?_
            refine j_aaload (q := 52) dX6_play_51 rfl (by assumption) (by decide) (by assumption) (by assumption) ?_
            refine j_aload_n (q := 53) dX6_play_52 rfl (by rfl) ?_
            refine j_getr (q := 56) dX6_play_53 rfl fX6_10 (by assumption) (by rfl) ?_
            refine o_callVv (q := 59) dX6_play_56 rfl lX6_93 mwX0_become mvX0_become cn0 (by assumption) (by rfl) rfl (Nat.le_of_ble_eq_true (by rfl)) (by first | decide | omega) (hB) ?_
            refine j_iinc (q := 62) dX6_play_59 rfl (by rfl) (by first | exact nI_inc _ | rfl) (by decide) ?_
            refine j_goto (tgt := 37) dX6_play_62 (by decide) ?_
            refine ih (i + 1) _ (by omega) (hsc.l (by omega) _) (fun q hq => ?_)
            by_cases hqi : q = i
            · subst hqi
              rw [pgC_gP (bec_0 (pgC_0 _ _))]
              exact mq_veq (bec_veq _ _) ho.1
            · rw [pgC_ne (by unfold gAp; omega)]
              exact hall q (by omega)
      refine j_iconst (q := 36) (v := 0) dX6_play_35 rfl (by decide) ?_
      refine j_istore_n (q := 37) dX6_play_36 rfl (by decide) ?_
      exact K37 5 0 m (by omega) (scr.rf x m) (fun q hq => absurd hq (by omega))
    · rw [if_pos (by first | exact h21 | exact Decidable.not_not.mp h21)] at hF
      refine j_iload_n (q := 25) dX6_play_24 rfl (by rfl) ?_
      refine j_if_ne (q := 28) (tgt := 32) dX6_play_25 rfl (by decide) (fun h25 => ?_) (fun h25 => ?_)
      · rw [if_neg h25] at hF
        refine j_bipush (q := 34) (v := (-4)) dX6_play_32 rfl (by decide) ?_
        refine o_iret hF rfl dX6_play_34 ?_
        exact ⟨rfl, scr.rf x m⟩
      · rw [if_pos (by first | exact h25 | exact Decidable.not_not.mp h25)] at hF
        refine j_iconst (q := 29) (v := 0) dX6_play_28 rfl (by decide) ?_
        refine j_goto (tgt := 34) dX6_play_29 (by decide) ?_
        refine o_iret hF rfl dX6_play_34 ?_
        exact ⟨rfl, scr.rf x m⟩
  · refine j_iconst (q := 19) (v := (-1)) dX6_play_18 rfl (by decide) ?_
    refine o_iret hF rfl dX6_play_19 ?_
    rw [if_neg (fun h => sWi_0 h15 h.2)]
    exact ⟨rfl, scr.rf x m⟩
