/-! the class's constructor -/
abbrev tmX (x : Nat) : List (Option Value) := [some (.ref (x + 1)), some (.ref (x + 9)), some (.ref (x + 17)), some (.ref (x + 18)), some (.ref (x + 19)), some (.ref (x + 20)), some (.ref (x + 21)), some (.ref (x + 23)), some (.ref (x + 27)), some (.ref (x + 28)), some (.ref (x + 29)), none, none]
theorem gFk.ld {x : Nat} {σ0 : gSg} {m0 : gMem} {tm : List (Option Value)} {b : Nat} {σ' σ2 : gSg} {m' m2 : gMem} (h : gFk x σ0 m0 tm 10 σ' m') (hk : gKp b σ' σ2 m' m2) (hb : x + 30 ≤ b) : gFk x σ0 m0 tm 10 σ2 m2 := by
  refine ⟨by rw [(hk x (by omega)).1]; exact h.1, by rw [(hk x (by omega)).2]; exact h.2.1, h.2.2.1.tr (hk.le (by omega)), fun i hi => (h.2.2.2 i hi).tr hi (fun q h1 h2 => hk q ?_)⟩
  have : gBd.getD i 0 ≤ gBd.getD 9 0 := gBd_mono i hi 9 (by omega) (by omega)
  have e9 : gBd.getD 9 0 = 30 := rfl
  omega
theorem gFk.ar {x p t n : Nat} {f : Nat → Option Nat} {σ0 : gSg} {m0 : gMem} {tm : List (Option Value)} {σ' : gSg} {m' : gMem} (h : gFk x σ0 m0 tm 10 σ' m') (hp : (p = 17 ∧ t = 5 ∧ n = 5) ∨ (p = 18 ∧ t = 5 ∧ n = 2) ∨ (p = 29 ∧ t = 6 ∧ n = 4)) : gFk x σ0 m0 tm 10 (va_up σ' (x + p) (some (.inr (t, n, f)))) m' := by
  have hne : ∀ q, q ≠ x + p → va_up σ' (x + p) (some (.inr (t, n, f))) q = σ' q := fun q hq => va_up_ne _ _ hq
  refine ⟨by rw [hne x (by omega)]; exact h.1, h.2.1, h.2.2.1.s (by omega) _, fun i hi => ?_⟩
  have hf := h.2.2.2 i hi
  match i, hi, hf with
  | 0, _, hf => exact ⟨hf.1.kp (fun q h1 h2 => hne q (by omega)), hf.2⟩
  | 1, _, hf => exact gG.kp hf (fun q h1 h2 => hne q (by omega))
  | 2, _, hf =>
    obtain ⟨g, hf⟩ := hf
    rcases hp with ⟨rfl, rfl, rfl⟩ | ⟨rfl, rfl, rfl⟩ | ⟨rfl, rfl, rfl⟩
    · exact ⟨f, va_up_self _ _ _⟩
    · exact ⟨g, by rw [hne _ (by omega)]; exact hf⟩
    · exact ⟨g, by rw [hne _ (by omega)]; exact hf⟩
  | 3, _, hf =>
    obtain ⟨g, hf⟩ := hf
    rcases hp with ⟨rfl, rfl, rfl⟩ | ⟨rfl, rfl, rfl⟩ | ⟨rfl, rfl, rfl⟩
    · exact ⟨g, by rw [hne _ (by omega)]; exact hf⟩
    · exact ⟨f, va_up_self _ _ _⟩
    · exact ⟨g, by rw [hne _ (by omega)]; exact hf⟩
  | 4, _, hf => exact ⟨by rw [hne _ (by omega)]; exact hf.1, hf.2⟩
  | 5, _, hf => exact ⟨by rw [hne _ (by omega)]; exact hf.1, by rw [hne _ (by omega)]; exact hf.2.1, by rw [hne _ (by omega)]; exact hf.2.2.1, hf.2.2.2⟩
  | 6, _, hf => exact ⟨by rw [hne _ (by omega)]; exact hf.1, by rw [hne _ (by omega)]; exact hf.2.1, by rw [hne _ (by omega)]; exact hf.2.2.1, by rw [hne _ (by omega)]; exact hf.2.2.2.1, hf.2.2.2.2⟩
  | 7, _, hf =>
    show va_up σ' (x + p) (some (.inr (t, n, f))) (x + 27) = _
    rw [hne _ (by omega)]; exact hf
  | 8, _, hf =>
    show va_up σ' (x + p) (some (.inr (t, n, f))) (x + 28) = _
    rw [hne _ (by omega)]; exact hf
  | 9, _, hf =>
    obtain ⟨g, hf⟩ := hf
    rcases hp with ⟨rfl, rfl, rfl⟩ | ⟨rfl, rfl, rfl⟩ | ⟨rfl, rfl, rfl⟩
    · exact ⟨g, by rw [hne _ (by omega)]; exact hf⟩
    · exact ⟨g, by rw [hne _ (by omega)]; exact hf⟩
    · exact ⟨f, va_up_self _ _ _⟩
  | i + 10, hi, _ => exact absurd hi (by omega)
/-- the rows of levels, images, sheets as far as they are filled -/
def gXl (x : Nat) (σ : gSg) (m : gMem) (l i s : Nat) : Prop := (∃ f : Nat → Option Nat, σ (x + 17) = some (.inr (5, 5, f)) ∧ ∀ j, j < l → f j = some (x + 30 + 8 * j)) ∧ (∃ f : Nat → Option Nat, σ (x + 18) = some (.inr (5, 2, f)) ∧ ∀ j, j < i → f j = some (x + 70 + 8 * j)) ∧ (∃ f : Nat → Option Nat, σ (x + 29) = some (.inr (6, 4, f)) ∧ ∀ j, j < s → f j = some (x + 86 + 2 * j)) ∧ (∀ j, j < l → gG σ (x + 30 + 8 * j)) ∧ (∀ j, j < i → gG σ (x + 70 + 8 * j)) ∧ ∀ j, j < s → gSt σ (x + 86 + 2 * j) ∧ m.1 (x + 86 + 2 * j) 2 = -4 ∧ m.1 (x + 86 + 2 * j + 1) = fun _ => 0
theorem gSt.kp {σ σ' : gSg} {a : Nat} (h : gSt σ a) (hk : ∀ q, a ≤ q → q < a + 2 → σ' q = σ q) : gSt σ' a := ⟨by rw [hk a (by omega) (by omega)]; exact h.1, by rw [hk (a + 1) (by omega) (by omega)]; exact h.2⟩
theorem gXl.ld {x : Nat} {σ σ' : gSg} {m m' : gMem} {l i s b : Nat} (h : gXl x σ m l i s) (hk : gKp b σ σ' m m') (h30 : x + 30 ≤ b) (hl : l = 0 ∨ x + 30 + 8 * l ≤ b) (hi : i = 0 ∨ x + 70 + 8 * i ≤ b) (hs : s = 0 ∨ x + 86 + 2 * s ≤ b) : gXl x σ' m' l i s := by
  obtain ⟨⟨f1, a1, b1⟩, ⟨f2, a2, b2⟩, ⟨f3, a3, b3⟩, c1, c2, c3⟩ := h
  refine ⟨⟨f1, by rw [(hk _ (by omega)).1]; exact a1, b1⟩, ⟨f2, by rw [(hk _ (by omega)).1]; exact a2, b2⟩, ⟨f3, by rw [(hk _ (by omega)).1]; exact a3, b3⟩, fun j hj => ?_, fun j hj => ?_, fun j hj => ?_⟩
  · exact (c1 j hj).kp (fun q h1 h2 => (hk q (by omega)).1)
  · exact (c2 j hj).kp (fun q h1 h2 => (hk q (by omega)).1)
  · exact ⟨(c3 j hj).1.kp (fun q h1 h2 => (hk q (by omega)).1), by rw [(hk _ (by omega)).2]; exact (c3 j hj).2.1, by rw [(hk _ (by omega)).2]; exact (c3 j hj).2.2⟩
/-- all is made -/
theorem gN_of {x : Nat} {σ0 σ' : gSg} {m0 m' : gMem} (h : gFk x σ0 m0 (tmX x) 10 σ' m') (hl : gXl x σ' m' 5 2 4) : gN σ' x := by
  obtain ⟨h0, -, -, hF⟩ := h
  have f0 := hF 0 (by omega)
  have f1 := hF 1 (by omega)
  have f4 := hF 4 (by omega)
  have f5 := hF 5 (by omega)
  have f6 := hF 6 (by omega)
  have f7 := hF 7 (by omega)
  have f8 := hF 8 (by omega)
  obtain ⟨l1, l2, l3, l4, l5, l6⟩ := hl
  refine ⟨h0, f0.1, f1, l1, l2, f4.1, f5.1, f5.2.1, f5.2.2.1, f6.1, f6.2.1, f6.2.2.1, f6.2.2.2.1, f7, f8, l3, l4, l5, fun j hj => ?_⟩
  have := (l6 j hj).1
  rw [show x + 87 + 2 * j = x + 86 + 2 * j + 1 by omega]
  exact this
theorem cX_init (E : gEv) (σ : gSg) (m : gMem) (x : Nat) (hs : σ x = some (.inl (6, [oNl, oNl, oNl, oNl, oNl, oNl, oNl, oNl, oNl, oNl, oNl, none, none]))) (hz : m.1 x = fun _ => 0) : gCt E yX6_init cX6_init 2 none 3 93 969 [.ref x] σ m (x + 1) (fun v σ' m' hi' => v = none ∧ hi' = x + 94 ∧ gFk x σ m (tmX x) 10 σ' m' ∧ gXl x σ' m' 5 2 4) := by
  refine gCt.of mwX6_init (Nat.le_of_ble_eq_true rfl) ?_
  intro F hF
  have K168 : ∀ (n j : Nat) (σ' : gSg) (m' : gMem), j + n = 4 → gFk x σ m (tmX x) 10 σ' m' → gXl x σ' m' 5 2 j → gJ E yX6_init cX6_init 2 none (gRm 3 93 969) F 168 [some (.ref x), some (.int (nI j))] [] (85 + 2 * j) (797 + 43 * j) σ' m' (x + 86 + 2 * j) := by
    intro n
    induction n with
    | zero =>
      intro j σ' m' hj hf hl
      have : j = 4 := by omega
      subst this
      have hx := hf.1
      obtain ⟨f, a3, b3⟩ := hl.2.2.1
      refine j_iload_n (q := 169) dX6_init_168 rfl (by rfl) ?_
      refine j_aload_n (q := 170) dX6_init_169 rfl (by rfl) ?_
      refine j_getr (q := 173) dX6_init_170 rfl fX6_61 (by first | with_reducible assumption | assumption) (by rfl) ?_
      refine j_alen (q := 174) dX6_init_173 rfl (by first | with_reducible assumption | assumption) (by decide) (by rfl) ?_
      refine j_icmp_ge (q := 177) (tgt := 196) dX6_init_174 rfl (by decide) (fun h174 => ?_) (fun h174 => ?_)
      · exact j_vret hF rfl dX6_init_196 ⟨by decide, by decide⟩ ⟨rfl, rfl, hf, hl⟩
      · exact absurd (show (4 : Int32) ≤ nI 4 by decide) h174
    | succ n ih =>
      intro j σ' m' hj hf hl
      have hx := hf.1
      obtain ⟨f, a3, b3⟩ := hl.2.2.1
      have hix : gIdx (nI j) 4 j := gIdx.of rfl (by omega) (by decide)
      refine j_iload_n (q := 169) dX6_init_168 rfl (by rfl) ?_
      refine j_aload_n (q := 170) dX6_init_169 rfl (by rfl) ?_
      refine j_getr (q := 173) dX6_init_170 rfl fX6_61 (by first | with_reducible assumption | assumption) (by rfl) ?_
      refine j_alen (q := 174) dX6_init_173 rfl (by first | with_reducible assumption | assumption) (by decide) (by rfl) ?_
      refine j_icmp_ge (q := 177) (tgt := 196) dX6_init_174 rfl (by decide) (fun h174 => ?_) (fun h174 => ?_)
      · exact absurd h174 (nI_ge (a := j) (b := 4) (by omega) (by omega))
      refine j_aload_n (q := 178) dX6_init_177 rfl (by rfl) ?_
      refine j_getr (q := 181) dX6_init_178 rfl fX6_61 (by first | with_reducible assumption | assumption) (by rfl) ?_
      refine j_iload_n (q := 182) dX6_init_181 rfl (by rfl) ?_
      refine j_new (q := 185) dX6_init_182 rfl qX6_59 nX3 (ci := 3) rfl tyX3 tyX3_ok [oNl, none, none] (by decide) ⟨by show 85 + 2 * j + 1 ≤ 93; omega, by show 797 + 43 * j + 3 ≤ 969; omega⟩ ?_
      refine j_dup (q := 186) dX6_init_185 rfl rfl ?_
      refine j_callIN (q := 189) dX6_init_186 rfl lX6_65 mwX3_init miX3_init (As := []) (by rfl) rfl (Nat.le_of_ble_eq_true (by rfl)) ⟨⟨by decide, Nat.le_of_ble_eq_true (by rfl)⟩, by show 85 + 2 * j + 1 + 1 ≤ 93; omega, by show 797 + 43 * j + 3 + 40 ≤ 969; omega⟩ (cH_init E _ _ (x + 86 + 2 * j) (va_up_self _ _ _)) ?_
      rintro v σ2 m2 hi2 ⟨rfl, rfl, hk, hm, hst, hcl⟩
      have hk2 : gKp (x + 86 + 2 * j) σ' σ2 m' m2 := (((gKp.rf _ σ' m').s (Nat.le_refl _) _).z (Nat.le_refl _)).tr hk
      have hf2 := hf.ld hk2 (by omega)
      have hl2 := hl.ld hk2 (by omega) (Or.inr (by omega)) (Or.inr (by omega)) (Or.inr (by omega))
      refine j_aastore (q := 190) (t := 2) (ci := 3) (r := (RX3, TX3, 3)) dX6_init_189 rfl (by rw [(hk2 _ (by omega)).1]; exact a3) rfl hst.1 rfl hix ?_
      refine j_iinc (q := 193) dX6_init_190 rfl (by rfl) (by first | exact nI_inc _ | rfl) (by decide) ?_
      refine j_goto (tgt := 168) dX6_init_193 (by decide) ?_
      refine gJ.cc (by omega) (by omega) (by omega) (ih (j + 1) _ _ (by omega) (hf2.ar (p := 29) (t := 6) (n := 4) (Or.inr (Or.inr ⟨rfl, rfl, rfl⟩))) ?_)
      have hne : ∀ q, q ≠ x + 29 → va_up σ2 (x + 29) (some (.inr (6, 4, va_up f j (some (x + 86 + 2 * j))))) q = σ2 q := fun q hq => va_up_ne _ _ hq
      obtain ⟨⟨f1, d1, e1⟩, ⟨f2, d2, e2⟩, -, c1, c2, c3⟩ := hl2
      refine ⟨⟨f1, by rw [hne _ (by omega)]; exact d1, e1⟩, ⟨f2, by rw [hne _ (by omega)]; exact d2, e2⟩, ⟨_, va_up_self _ _ _, fun i hi => ?_⟩, fun i hi => (c1 i hi).kp (fun q h1 h2 => hne q (by omega)), fun i hi => (c2 i hi).kp (fun q h1 h2 => hne q (by omega)), fun i hi => ?_⟩
      · by_cases hij : i = j
        · subst hij; rw [va_up_self]
        · rw [va_up_ne _ _ hij]; exact b3 i (by omega)
      · by_cases hij : i = j
        · subst hij
          exact ⟨hst.kp (fun q h1 h2 => hne q (by omega)), by rw [hm, mZ_a, pk_us], hcl⟩
        · exact ⟨(c3 i (by omega)).1.kp (fun q h1 h2 => hne q (by omega)), (c3 i (by omega)).2⟩
  have K138 : ∀ (n j : Nat) (σ' : gSg) (m' : gMem), j + n = 2 → gFk x σ m (tmX x) 10 σ' m' → gXl x σ' m' 5 j 0 → gJ E yX6_init cX6_init 2 none (gRm 3 93 969) F 138 [some (.ref x), some (.int (nI j))] [] (69 + 8 * j) (677 + 60 * j) σ' m' (x + 70 + 8 * j) := by
    intro n
    induction n with
    | zero =>
      intro j σ' m' hj hf hl
      have : j = 2 := by omega
      subst this
      have hx := hf.1
      obtain ⟨f, a3, b3⟩ := hl.2.1
      refine j_iload_n (q := 139) dX6_init_138 rfl (by rfl) ?_
      refine j_aload_n (q := 140) dX6_init_139 rfl (by rfl) ?_
      refine j_getr (q := 143) dX6_init_140 rfl fX6_23 (by first | with_reducible assumption | assumption) (by rfl) ?_
      refine j_alen (q := 144) dX6_init_143 rfl (by first | with_reducible assumption | assumption) (by decide) (by rfl) ?_
      refine j_icmp_ge (q := 147) (tgt := 166) dX6_init_144 rfl (by decide) (fun h144 => ?_) (fun h144 => ?_)
      · refine j_iconst (q := 167) (v := 0) dX6_init_166 rfl (by decide) ?_
        refine j_istore_n (q := 168) dX6_init_167 rfl (by decide) ?_
        exact gJ.cc (by rfl) (by rfl) (by omega) (K168 4 0 σ' m' (by omega) hf hl)
      · exact absurd (show (2 : Int32) ≤ nI 2 by decide) h144
    | succ n ih =>
      intro j σ' m' hj hf hl
      have hx := hf.1
      obtain ⟨f, a3, b3⟩ := hl.2.1
      have hix : gIdx (nI j) 2 j := gIdx.of rfl (by omega) (by decide)
      refine j_iload_n (q := 139) dX6_init_138 rfl (by rfl) ?_
      refine j_aload_n (q := 140) dX6_init_139 rfl (by rfl) ?_
      refine j_getr (q := 143) dX6_init_140 rfl fX6_23 (by first | with_reducible assumption | assumption) (by rfl) ?_
      refine j_alen (q := 144) dX6_init_143 rfl (by first | with_reducible assumption | assumption) (by decide) (by rfl) ?_
      refine j_icmp_ge (q := 147) (tgt := 166) dX6_init_144 rfl (by decide) (fun h144 => ?_) (fun h144 => ?_)
      · exact absurd h144 (nI_ge (a := j) (b := 2) (by omega) (by omega))
      refine j_aload_n (q := 148) dX6_init_147 rfl (by rfl) ?_
      refine j_getr (q := 151) dX6_init_148 rfl fX6_23 (by first | with_reducible assumption | assumption) (by rfl) ?_
      refine j_iload_n (q := 152) dX6_init_151 rfl (by rfl) ?_
      refine j_new (q := 155) dX6_init_152 rfl qX6_7 nX0 (ci := 0) rfl tyX0 tyX0_ok [oNl, oNl, oNl, none, none, none, none, none] (by decide) ⟨by show 69 + 8 * j + 1 ≤ 93; omega, by show 677 + 60 * j + 8 ≤ 969; omega⟩ ?_
      refine j_dup (q := 156) dX6_init_155 rfl rfl ?_
      refine j_callI (q := 159) dX6_init_156 rfl lX6_9 mwX0_init miX0_init (As := []) (by rfl) rfl (Nat.le_of_ble_eq_true (by rfl)) ⟨⟨by decide, Nat.le_of_ble_eq_true (by rfl)⟩, by show 69 + 8 * j + 1 + 7 ≤ 93; omega, by show 677 + 60 * j + 8 + 52 ≤ 969; omega⟩ (cG_init E _ _ (x + 70 + 8 * j) (va_up_self _ _ _) (mZ_a _ _)) ?_
      rintro v σ2 m2 hi2 ⟨rfl, rfl, hk, hst, -⟩
      have hk2 : gKp (x + 70 + 8 * j) σ' σ2 m' m2 := (((gKp.rf _ σ' m').s (Nat.le_refl _) _).z (Nat.le_refl _)).tr hk
      have hf2 := hf.ld hk2 (by omega)
      have hl2 := hl.ld hk2 (by omega) (by omega) (by omega) (by omega)
      refine j_aastore (q := 160) (t := 1) (ci := 0) (r := (RX0, TX0, 8)) dX6_init_159 rfl (by rw [(hk2 _ (by omega)).1]; exact a3) rfl hst.1 rfl hix ?_
      refine j_iinc (q := 163) dX6_init_160 rfl (by rfl) (by first | exact nI_inc _ | rfl) (by decide) ?_
      refine j_goto (tgt := 138) dX6_init_163 (by decide) ?_
      refine gJ.cc (by omega) (by omega) (by omega) (ih (j + 1) _ _ (by omega) (hf2.ar (p := 18) (t := 5) (n := 2) (Or.inr (Or.inl ⟨rfl, rfl, rfl⟩))) ?_)
      have hne : ∀ q, q ≠ x + 18 → va_up σ2 (x + 18) (some (.inr (5, 2, va_up f j (some (x + 70 + 8 * j))))) q = σ2 q := fun q hq => va_up_ne _ _ hq
      obtain ⟨⟨f1, d1, e1⟩, ⟨f2, d2, e2⟩, ⟨f3, d3, e3⟩, c1, c2, c3⟩ := hl2
      refine ⟨⟨f1, by rw [hne _ (by omega)]; exact d1, e1⟩, ⟨_, va_up_self _ _ _, fun i hi => ?_⟩, ⟨f3, by rw [hne _ (by omega)]; exact d3, e3⟩, fun i hi => (c1 i hi).kp (fun q h1 h2 => hne q (by omega)), fun i hi => ?_, fun i hi => absurd hi (by omega)⟩
      · by_cases hij : i = j
        · subst hij; rw [va_up_self]
        · rw [va_up_ne _ _ hij]; exact b3 i (by omega)
      · by_cases hij : i = j
        · subst hij; exact hst.kp (fun q h1 h2 => hne q (by omega))
        · exact (c2 i (by omega)).kp (fun q h1 h2 => hne q (by omega))
  have K108 : ∀ (n j : Nat) (σ' : gSg) (m' : gMem), j + n = 5 → gFk x σ m (tmX x) 10 σ' m' → gXl x σ' m' j 0 0 → gJ E yX6_init cX6_init 2 none (gRm 3 93 969) F 108 [some (.ref x), some (.int (nI j))] [] (29 + 8 * j) (377 + 60 * j) σ' m' (x + 30 + 8 * j) := by
    intro n
    induction n with
    | zero =>
      intro j σ' m' hj hf hl
      have : j = 5 := by omega
      subst this
      have hx := hf.1
      obtain ⟨f, a3, b3⟩ := hl.1
      refine j_iload_n (q := 109) dX6_init_108 rfl (by rfl) ?_
      refine j_aload_n (q := 110) dX6_init_109 rfl (by rfl) ?_
      refine j_getr (q := 113) dX6_init_110 rfl fX6_19 (by first | with_reducible assumption | assumption) (by rfl) ?_
      refine j_alen (q := 114) dX6_init_113 rfl (by first | with_reducible assumption | assumption) (by decide) (by rfl) ?_
      refine j_icmp_ge (q := 117) (tgt := 136) dX6_init_114 rfl (by decide) (fun h114 => ?_) (fun h114 => ?_)
      · refine j_iconst (q := 137) (v := 0) dX6_init_136 rfl (by decide) ?_
        refine j_istore_n (q := 138) dX6_init_137 rfl (by decide) ?_
        exact gJ.cc (by rfl) (by rfl) (by omega) (K138 2 0 σ' m' (by omega) hf hl)
      · exact absurd (show (5 : Int32) ≤ nI 5 by decide) h114
    | succ n ih =>
      intro j σ' m' hj hf hl
      have hx := hf.1
      obtain ⟨f, a3, b3⟩ := hl.1
      have hix : gIdx (nI j) 5 j := gIdx.of rfl (by omega) (by decide)
      refine j_iload_n (q := 109) dX6_init_108 rfl (by rfl) ?_
      refine j_aload_n (q := 110) dX6_init_109 rfl (by rfl) ?_
      refine j_getr (q := 113) dX6_init_110 rfl fX6_19 (by first | with_reducible assumption | assumption) (by rfl) ?_
      refine j_alen (q := 114) dX6_init_113 rfl (by first | with_reducible assumption | assumption) (by decide) (by rfl) ?_
      refine j_icmp_ge (q := 117) (tgt := 136) dX6_init_114 rfl (by decide) (fun h114 => ?_) (fun h114 => ?_)
      · exact absurd h114 (nI_ge (a := j) (b := 5) (by omega) (by omega))
      refine j_aload_n (q := 118) dX6_init_117 rfl (by rfl) ?_
      refine j_getr (q := 121) dX6_init_118 rfl fX6_19 (by first | with_reducible assumption | assumption) (by rfl) ?_
      refine j_iload_n (q := 122) dX6_init_121 rfl (by rfl) ?_
      refine j_new (q := 125) dX6_init_122 rfl qX6_7 nX0 (ci := 0) rfl tyX0 tyX0_ok [oNl, oNl, oNl, none, none, none, none, none] (by decide) ⟨by show 29 + 8 * j + 1 ≤ 93; omega, by show 377 + 60 * j + 8 ≤ 969; omega⟩ ?_
      refine j_dup (q := 126) dX6_init_125 rfl rfl ?_
      refine j_callI (q := 129) dX6_init_126 rfl lX6_9 mwX0_init miX0_init (As := []) (by rfl) rfl (Nat.le_of_ble_eq_true (by rfl)) ⟨⟨by decide, Nat.le_of_ble_eq_true (by rfl)⟩, by show 29 + 8 * j + 1 + 7 ≤ 93; omega, by show 377 + 60 * j + 8 + 52 ≤ 969; omega⟩ (cG_init E _ _ (x + 30 + 8 * j) (va_up_self _ _ _) (mZ_a _ _)) ?_
      rintro v σ2 m2 hi2 ⟨rfl, rfl, hk, hst, -⟩
      have hk2 : gKp (x + 30 + 8 * j) σ' σ2 m' m2 := (((gKp.rf _ σ' m').s (Nat.le_refl _) _).z (Nat.le_refl _)).tr hk
      have hf2 := hf.ld hk2 (by omega)
      have hl2 := hl.ld hk2 (by omega) (by omega) (by omega) (by omega)
      refine j_aastore (q := 130) (t := 1) (ci := 0) (r := (RX0, TX0, 8)) dX6_init_129 rfl (by rw [(hk2 _ (by omega)).1]; exact a3) rfl hst.1 rfl hix ?_
      refine j_iinc (q := 133) dX6_init_130 rfl (by rfl) (by first | exact nI_inc _ | rfl) (by decide) ?_
      refine j_goto (tgt := 108) dX6_init_133 (by decide) ?_
      refine gJ.cc (by omega) (by omega) (by omega) (ih (j + 1) _ _ (by omega) (hf2.ar (p := 17) (t := 5) (n := 5) (Or.inl ⟨rfl, rfl, rfl⟩)) ?_)
      have hne : ∀ q, q ≠ x + 17 → va_up σ2 (x + 17) (some (.inr (5, 5, va_up f j (some (x + 30 + 8 * j))))) q = σ2 q := fun q hq => va_up_ne _ _ hq
      obtain ⟨⟨f1, d1, e1⟩, ⟨f2, d2, e2⟩, ⟨f3, d3, e3⟩, c1, c2, c3⟩ := hl2
      refine ⟨⟨_, va_up_self _ _ _, fun i hi => ?_⟩, ⟨f2, by rw [hne _ (by omega)]; exact d2, e2⟩, ⟨f3, by rw [hne _ (by omega)]; exact d3, e3⟩, fun i hi => ?_, fun i hi => absurd hi (by omega), fun i hi => absurd hi (by omega)⟩
      · by_cases hij : i = j
        · subst hij; rw [va_up_self]
        · rw [va_up_ne _ _ hij]; exact b3 i (by omega)
      · by_cases hij : i = j
        · subst hij; exact hst.kp (fun q h1 h2 => hne q (by omega))
        · exact (c1 i (by omega)).kp (fun q h1 h2 => hne q (by omega))
  have K98 : ∀ (σ' : gSg) (m' : gMem), gFk x σ m [some (.ref (x + 1)), some (.ref (x + 9)), some (.ref (x + 17)), some (.ref (x + 18)), some (.ref (x + 19)), some (.ref (x + 20)), some (.ref (x + 21)), some (.ref (x + 23)), some (.ref (x + 27)), some (.ref (x + 28)), oNl, none, none] 9 σ' m' → gJ E yX6_init cX6_init 2 none (gRm 3 93 969) F 98 [some (.ref x), none] [] 28 373 σ' m' (x + 29) := by
    intro σ' m' hf
    have hx := hf.1
    refine j_aload_n (q := 99) dX6_init_98 rfl (by rfl) ?_
    refine j_iconst (q := 100) (v := 4) dX6_init_99 rfl (by decide) ?_
    refine j_anew (q := 103) (N := 4) (t := 2) (ci := 3) dX6_init_100 rfl qX6_59 (fun _ hK => hK.2.2.2.2.2.2.2) rfl rfl (by decide) ⟨by decide, by decide⟩ ?_
    have hk : gKp (x + 29) σ' (va_up σ' (x + 29) (some (.inr (6, 4, fun _ => none)))) m' (mZ m' (x + 29)) := ((gKp.rf _ σ' m').s (Nat.le_refl _) _).z (Nat.le_refl _)
    have hf2 := hf.on (tm' := tmX x) hk (by omega) (by omega) (Or.inr (by show x + 29 ≤ x + 29; omega)) ⟨_, va_up_self _ _ _⟩
    refine j_putr (q := 106) (tm := [some (.ref (x + 1)), some (.ref (x + 9)), some (.ref (x + 17)), some (.ref (x + 18)), some (.ref (x + 19)), some (.ref (x + 20)), some (.ref (x + 21)), some (.ref (x + 23)), some (.ref (x + 27)), some (.ref (x + 28)), oNl, none, none]) dX6_init_103 rfl fX6_61 p6_10 (Or.inr ⟨rfl, cn6⟩) (by rw [(hk x (by omega)).1]; exact hx) (by rfl) (Or.inr ⟨_, rfl⟩) ?_
    refine j_iconst (q := 107) (v := 0) dX6_init_106 rfl (by decide) ?_
    refine j_istore_n (q := 108) dX6_init_107 rfl (by decide) ?_
    refine gJ.cc (by rfl) (by rfl) (by rfl) (K108 5 0 _ _ (by omega) hf2 ?_)
    obtain ⟨f1, d1⟩ := hf2.2.2.2 2 (by omega)
    obtain ⟨f2, d2⟩ := hf2.2.2.2 3 (by omega)
    obtain ⟨f3, d3⟩ := hf2.2.2.2 9 (by omega)
    exact ⟨⟨f1, d1, fun i hi => absurd hi (by omega)⟩, ⟨f2, d2, fun i hi => absurd hi (by omega)⟩, ⟨f3, d3, fun i hi => absurd hi (by omega)⟩, fun i hi => absurd hi (by omega), fun i hi => absurd hi (by omega), fun i hi => absurd hi (by omega)⟩
  have K90 : ∀ (σ' : gSg) (m' : gMem), gFk x σ m [some (.ref (x + 1)), some (.ref (x + 9)), some (.ref (x + 17)), some (.ref (x + 18)), some (.ref (x + 19)), some (.ref (x + 20)), some (.ref (x + 21)), some (.ref (x + 23)), some (.ref (x + 27)), oNl, oNl, none, none] 8 σ' m' → gJ E yX6_init cX6_init 2 none (gRm 3 93 969) F 90 [some (.ref x), none] [] 27 363 σ' m' (x + 28) := by
    intro σ' m' hf
    have hx := hf.1
    refine j_aload_n (q := 91) dX6_init_90 rfl (by rfl) ?_
    refine j_bipush (q := 93) (v := 10) dX6_init_91 rfl (by decide) ?_
    refine j_newL (q := 95) (N := 10) dX6_init_93 rfl rfl (by decide) ⟨by decide, by decide⟩ ?_
    have hk : gKp (x + 28) σ' (va_up σ' (x + 28) (some (.inr (3, 10, fun _ => none)))) m' (mZ m' (x + 28)) := ((gKp.rf _ σ' m').s (Nat.le_refl _) _).z (Nat.le_refl _)
    have hf2 := hf.on (tm' := [some (.ref (x + 1)), some (.ref (x + 9)), some (.ref (x + 17)), some (.ref (x + 18)), some (.ref (x + 19)), some (.ref (x + 20)), some (.ref (x + 21)), some (.ref (x + 23)), some (.ref (x + 27)), some (.ref (x + 28)), oNl, none, none]) hk (by omega) (by omega) (Or.inr (by show x + 28 ≤ x + 28; omega)) (show gFa x 8 _ _ from va_up_self _ _ _)
    refine j_putr (q := 98) (tm := [some (.ref (x + 1)), some (.ref (x + 9)), some (.ref (x + 17)), some (.ref (x + 18)), some (.ref (x + 19)), some (.ref (x + 20)), some (.ref (x + 21)), some (.ref (x + 23)), some (.ref (x + 27)), oNl, oNl, none, none]) dX6_init_95 rfl fX6_55 p6_9 (Or.inr ⟨rfl, cn6⟩) (by rw [(hk x (by omega)).1]; exact hx) (by rfl) (Or.inr ⟨_, rfl⟩) ?_
    exact gJ.cc (by rfl) (by rfl) (by rfl) (K98 _ _ hf2)
  have K82 : ∀ (σ' : gSg) (m' : gMem), gFk x σ m [some (.ref (x + 1)), some (.ref (x + 9)), some (.ref (x + 17)), some (.ref (x + 18)), some (.ref (x + 19)), some (.ref (x + 20)), some (.ref (x + 21)), some (.ref (x + 23)), oNl, oNl, oNl, none, none] 7 σ' m' → gJ E yX6_init cX6_init 2 none (gRm 3 93 969) F 82 [some (.ref x), none] [] 26 322 σ' m' (x + 27) := by
    intro σ' m' hf
    have hx := hf.1
    refine j_aload_n (q := 83) dX6_init_82 rfl (by rfl) ?_
    refine j_bipush (q := 85) (v := 41) dX6_init_83 rfl (by decide) ?_
    refine j_newI (q := 87) (N := 41) dX6_init_85 rfl rfl (by decide) ⟨by decide, by decide⟩ ?_
    have hk : gKp (x + 27) σ' (va_up σ' (x + 27) (some (.inr (0, 41, fun _ => none)))) m' (mZ m' (x + 27)) := ((gKp.rf _ σ' m').s (Nat.le_refl _) _).z (Nat.le_refl _)
    have hf2 := hf.on (tm' := [some (.ref (x + 1)), some (.ref (x + 9)), some (.ref (x + 17)), some (.ref (x + 18)), some (.ref (x + 19)), some (.ref (x + 20)), some (.ref (x + 21)), some (.ref (x + 23)), some (.ref (x + 27)), oNl, oNl, none, none]) hk (by omega) (by omega) (Or.inr (by show x + 27 ≤ x + 27; omega)) (show gFa x 7 _ _ from va_up_self _ _ _)
    refine j_putr (q := 90) (tm := [some (.ref (x + 1)), some (.ref (x + 9)), some (.ref (x + 17)), some (.ref (x + 18)), some (.ref (x + 19)), some (.ref (x + 20)), some (.ref (x + 21)), some (.ref (x + 23)), oNl, oNl, oNl, none, none]) dX6_init_87 rfl fX6_51 p6_8 (Or.inr ⟨rfl, cn6⟩) (by rw [(hk x (by omega)).1]; exact hx) (by rfl) (Or.inr ⟨_, rfl⟩) ?_
    exact gJ.cc (by rfl) (by rfl) (by rfl) (K90 _ _ hf2)
  have K71 : ∀ (σ' : gSg) (m' : gMem), gFk x σ m [some (.ref (x + 1)), some (.ref (x + 9)), some (.ref (x + 17)), some (.ref (x + 18)), some (.ref (x + 19)), some (.ref (x + 20)), some (.ref (x + 21)), oNl, oNl, oNl, oNl, none, none] 6 σ' m' → gJ E yX6_init cX6_init 2 none (gRm 3 93 969) F 71 [some (.ref x), none] [] 22 300 σ' m' (x + 23) := by
    intro σ' m' hf
    have hx := hf.1
    refine j_aload_n (q := 72) dX6_init_71 rfl (by rfl) ?_
    refine j_new (q := 75) dX6_init_72 rfl qX6_44 nX2 (ci := 2) rfl tyX2 tyX2_ok [oNl, oNl, oNl, none] (by decide) ⟨by decide, by decide⟩ ?_
    refine j_dup (q := 76) dX6_init_75 rfl rfl ?_
    refine j_callIN (q := 79) dX6_init_76 rfl lX6_46 mwX2_init miX2_init (As := []) (by rfl) rfl (Nat.le_of_ble_eq_true (by rfl)) ⟨⟨by decide, Nat.le_of_ble_eq_true (by rfl)⟩, by decide, by decide⟩ (cS_init E _ _ (x + 23) (va_up_self _ _ _)) ?_
    rintro v σ2 m2 hi2 ⟨rfl, rfl, hk, hm, a0, a1, a2, a3⟩
    have hk2 : gKp (x + 23) σ' σ2 m' m2 := (((gKp.rf _ σ' m').s (Nat.le_refl _) _).z (Nat.le_refl _)).tr hk
    have hf2 := hf.on (tm' := [some (.ref (x + 1)), some (.ref (x + 9)), some (.ref (x + 17)), some (.ref (x + 18)), some (.ref (x + 19)), some (.ref (x + 20)), some (.ref (x + 21)), some (.ref (x + 23)), oNl, oNl, oNl, none, none]) hk2 (by omega) (by omega) (Or.inr (by show x + 23 ≤ x + 23; omega)) (⟨a0, a1, a2, a3, by rw [hm]; exact mZ_a _ _⟩)
    refine j_putr (q := 82) (tm := [some (.ref (x + 1)), some (.ref (x + 9)), some (.ref (x + 17)), some (.ref (x + 18)), some (.ref (x + 19)), some (.ref (x + 20)), some (.ref (x + 21)), oNl, oNl, oNl, oNl, none, none]) dX6_init_79 rfl fX6_47 p6_7 (Or.inr ⟨rfl, cn6⟩) (by rw [(hk2 x (by omega)).1]; exact hx) (by rfl) (Or.inl ⟨_, rfl⟩) ?_
    exact gJ.cc (by rfl) (by rfl) (by rfl) (K82 _ _ hf2)
  have K60 : ∀ (σ' : gSg) (m' : gMem), gFk x σ m [some (.ref (x + 1)), some (.ref (x + 9)), some (.ref (x + 17)), some (.ref (x + 18)), some (.ref (x + 19)), some (.ref (x + 20)), oNl, oNl, oNl, oNl, oNl, none, none] 6 σ' m' → gJ E yX6_init cX6_init 2 none (gRm 3 93 969) F 60 [some (.ref x), none] [] 22 300 σ' m' (x + 23) := by
    intro σ' m' hf
    have hx := hf.1
    have h20 := (hf.2.2.2 5 (by omega)).1
    refine j_aload_n (q := 61) dX6_init_60 rfl (by rfl) ?_
    refine j_aload_n (q := 62) dX6_init_61 rfl (by rfl) ?_
    refine j_getr (q := 65) dX6_init_62 rfl fX6_33 (by first | with_reducible assumption | assumption) (by rfl) ?_
    refine j_getr (q := 68) dX6_init_65 rfl fX6_37 (by first | with_reducible assumption | assumption) (by rfl) ?_
    refine j_putr (q := 71) (tm := [some (.ref (x + 1)), some (.ref (x + 9)), some (.ref (x + 17)), some (.ref (x + 18)), some (.ref (x + 19)), some (.ref (x + 20)), oNl, oNl, oNl, oNl, oNl, none, none]) dX6_init_68 rfl fX6_41 p6_6 (Or.inr ⟨rfl, cn6⟩) hx (by rfl) (Or.inl ⟨_, rfl⟩) ?_
    refine gJ.cc (by rfl) (by rfl) (by rfl) (K71 _ _ ⟨va_up_self _ _ _, hf.2.1, hf.2.2.1.s (Nat.le_refl _) _, fun i hi => (hf.2.2.2 i hi).tr (by omega) (fun q h1 _ => ⟨va_up_ne _ _ (by omega), rfl⟩)⟩)
  have K49 : ∀ (σ' : gSg) (m' : gMem), gFk x σ m [some (.ref (x + 1)), some (.ref (x + 9)), some (.ref (x + 17)), some (.ref (x + 18)), some (.ref (x + 19)), oNl, oNl, oNl, oNl, oNl, oNl, none, none] 5 σ' m' → gJ E yX6_init cX6_init 2 none (gRm 3 93 969) F 49 [some (.ref x), none] [] 19 129 σ' m' (x + 20) := by
    intro σ' m' hf
    have hx := hf.1
    refine j_aload_n (q := 50) dX6_init_49 rfl (by rfl) ?_
    refine j_new (q := 53) dX6_init_50 rfl qX6_30 nX1 (ci := 1) rfl tyX1 tyX1_ok [oNl, none, none, none, none, none, none, none, none] (by decide) ⟨by decide, by decide⟩ ?_
    refine j_dup (q := 54) dX6_init_53 rfl rfl ?_
    refine j_callIN (q := 57) dX6_init_54 rfl lX6_32 mwX1_init miX1_init (As := []) (by rfl) rfl (Nat.le_of_ble_eq_true (by rfl)) ⟨⟨by decide, Nat.le_of_ble_eq_true (by rfl)⟩, by decide, by decide⟩ (cR_init E _ _ (x + 20) (va_up_self _ _ _)) ?_
    rintro v σ2 m2 hi2 ⟨rfl, rfl, hk, a0, a1, a2, a3, a4⟩
    have hk2 : gKp (x + 20) σ' σ2 m' m2 := (((gKp.rf _ σ' m').s (Nat.le_refl _) _).z (Nat.le_refl _)).tr hk
    have hf2 := hf.on (tm' := [some (.ref (x + 1)), some (.ref (x + 9)), some (.ref (x + 17)), some (.ref (x + 18)), some (.ref (x + 19)), some (.ref (x + 20)), oNl, oNl, oNl, oNl, oNl, none, none]) hk2 (by omega) (by omega) (Or.inr (by show x + 20 ≤ x + 20; omega)) (⟨a0, a1, a2, a3, a4⟩)
    refine j_putr (q := 60) (tm := [some (.ref (x + 1)), some (.ref (x + 9)), some (.ref (x + 17)), some (.ref (x + 18)), some (.ref (x + 19)), oNl, oNl, oNl, oNl, oNl, oNl, none, none]) dX6_init_57 rfl fX6_33 p6_5 (Or.inr ⟨rfl, cn6⟩) (by rw [(hk2 x (by omega)).1]; exact hx) (by rfl) (Or.inl ⟨_, rfl⟩) ?_
    exact gJ.cc (by rfl) (by rfl) (by rfl) (K60 _ _ hf2)
  have K42 : ∀ (σ' : gSg) (m' : gMem), gFk x σ m [some (.ref (x + 1)), some (.ref (x + 9)), some (.ref (x + 17)), some (.ref (x + 18)), oNl, oNl, oNl, oNl, oNl, oNl, oNl, none, none] 4 σ' m' → gJ E yX6_init cX6_init 2 none (gRm 3 93 969) F 42 [some (.ref x), none] [] 18 127 σ' m' (x + 19) := by
    intro σ' m' hf
    have hx := hf.1
    refine j_aload_n (q := 43) dX6_init_42 rfl (by rfl) ?_
    refine j_iconst (q := 44) (v := 2) dX6_init_43 rfl (by decide) ?_
    refine j_newZ (q := 46) (N := 2) dX6_init_44 rfl rfl (by decide) ⟨by decide, by decide⟩ ?_
    have hk : gKp (x + 19) σ' (va_up σ' (x + 19) (some (.inr (2, 2, fun _ => none)))) m' (mZ m' (x + 19)) := ((gKp.rf _ σ' m').s (Nat.le_refl _) _).z (Nat.le_refl _)
    have hf2 := hf.on (tm' := [some (.ref (x + 1)), some (.ref (x + 9)), some (.ref (x + 17)), some (.ref (x + 18)), some (.ref (x + 19)), oNl, oNl, oNl, oNl, oNl, oNl, none, none]) hk (by omega) (by omega) (Or.inr (by show x + 19 ≤ x + 19; omega)) (⟨va_up_self _ _ _, mZ_a _ _⟩)
    refine j_putr (q := 49) (tm := [some (.ref (x + 1)), some (.ref (x + 9)), some (.ref (x + 17)), some (.ref (x + 18)), oNl, oNl, oNl, oNl, oNl, oNl, oNl, none, none]) dX6_init_46 rfl fX6_26 p6_4 (Or.inr ⟨rfl, cn6⟩) (by rw [(hk x (by omega)).1]; exact hx) (by rfl) (Or.inr ⟨_, rfl⟩) ?_
    exact gJ.cc (by rfl) (by rfl) (by rfl) (K49 _ _ hf2)
  have K34 : ∀ (σ' : gSg) (m' : gMem), gFk x σ m [some (.ref (x + 1)), some (.ref (x + 9)), some (.ref (x + 17)), oNl, oNl, oNl, oNl, oNl, oNl, oNl, oNl, none, none] 3 σ' m' → gJ E yX6_init cX6_init 2 none (gRm 3 93 969) F 34 [some (.ref x), none] [] 17 125 σ' m' (x + 18) := by
    intro σ' m' hf
    have hx := hf.1
    refine j_aload_n (q := 35) dX6_init_34 rfl (by rfl) ?_
    refine j_iconst (q := 36) (v := 2) dX6_init_35 rfl (by decide) ?_
    refine j_anew (q := 39) (N := 2) (t := 1) (ci := 0) dX6_init_36 rfl qX6_7 (fun _ hK => hK.2.2.2.2.2.2.1) rfl rfl (by decide) ⟨by decide, by decide⟩ ?_
    have hk : gKp (x + 18) σ' (va_up σ' (x + 18) (some (.inr (5, 2, fun _ => none)))) m' (mZ m' (x + 18)) := ((gKp.rf _ σ' m').s (Nat.le_refl _) _).z (Nat.le_refl _)
    have hf2 := hf.on (tm' := [some (.ref (x + 1)), some (.ref (x + 9)), some (.ref (x + 17)), some (.ref (x + 18)), oNl, oNl, oNl, oNl, oNl, oNl, oNl, none, none]) hk (by omega) (by omega) (Or.inr (by show x + 18 ≤ x + 18; omega)) (⟨_, va_up_self _ _ _⟩)
    refine j_putr (q := 42) (tm := [some (.ref (x + 1)), some (.ref (x + 9)), some (.ref (x + 17)), oNl, oNl, oNl, oNl, oNl, oNl, oNl, oNl, none, none]) dX6_init_39 rfl fX6_23 p6_3 (Or.inr ⟨rfl, cn6⟩) (by rw [(hk x (by omega)).1]; exact hx) (by rfl) (Or.inr ⟨_, rfl⟩) ?_
    exact gJ.cc (by rfl) (by rfl) (by rfl) (K42 _ _ hf2)
  have K26 : ∀ (σ' : gSg) (m' : gMem), gFk x σ m [some (.ref (x + 1)), some (.ref (x + 9)), oNl, oNl, oNl, oNl, oNl, oNl, oNl, oNl, oNl, none, none] 2 σ' m' → gJ E yX6_init cX6_init 2 none (gRm 3 93 969) F 26 [some (.ref x), none] [] 16 120 σ' m' (x + 17) := by
    intro σ' m' hf
    have hx := hf.1
    refine j_aload_n (q := 27) dX6_init_26 rfl (by rfl) ?_
    refine j_iconst (q := 28) (v := 5) dX6_init_27 rfl (by decide) ?_
    refine j_anew (q := 31) (N := 5) (t := 1) (ci := 0) dX6_init_28 rfl qX6_7 (fun _ hK => hK.2.2.2.2.2.2.1) rfl rfl (by decide) ⟨by decide, by decide⟩ ?_
    have hk : gKp (x + 17) σ' (va_up σ' (x + 17) (some (.inr (5, 5, fun _ => none)))) m' (mZ m' (x + 17)) := ((gKp.rf _ σ' m').s (Nat.le_refl _) _).z (Nat.le_refl _)
    have hf2 := hf.on (tm' := [some (.ref (x + 1)), some (.ref (x + 9)), some (.ref (x + 17)), oNl, oNl, oNl, oNl, oNl, oNl, oNl, oNl, none, none]) hk (by omega) (by omega) (Or.inr (by show x + 17 ≤ x + 17; omega)) (⟨_, va_up_self _ _ _⟩)
    refine j_putr (q := 34) (tm := [some (.ref (x + 1)), some (.ref (x + 9)), oNl, oNl, oNl, oNl, oNl, oNl, oNl, oNl, oNl, none, none]) dX6_init_31 rfl fX6_19 p6_2 (Or.inr ⟨rfl, cn6⟩) (by rw [(hk x (by omega)).1]; exact hx) (by rfl) (Or.inr ⟨_, rfl⟩) ?_
    exact gJ.cc (by rfl) (by rfl) (by rfl) (K34 _ _ hf2)
  have K15 : ∀ (σ' : gSg) (m' : gMem), gFk x σ m [some (.ref (x + 1)), oNl, oNl, oNl, oNl, oNl, oNl, oNl, oNl, oNl, oNl, none, none] 1 σ' m' → gJ E yX6_init cX6_init 2 none (gRm 3 93 969) F 15 [some (.ref x), none] [] 8 60 σ' m' (x + 9) := by
    intro σ' m' hf
    have hx := hf.1
    refine j_aload_n (q := 16) dX6_init_15 rfl (by rfl) ?_
    refine j_new (q := 19) dX6_init_16 rfl qX6_7 nX0 (ci := 0) rfl tyX0 tyX0_ok [oNl, oNl, oNl, none, none, none, none, none] (by decide) ⟨by decide, by decide⟩ ?_
    refine j_dup (q := 20) dX6_init_19 rfl rfl ?_
    refine j_callI (q := 23) dX6_init_20 rfl lX6_9 mwX0_init miX0_init (As := []) (by rfl) rfl (Nat.le_of_ble_eq_true (by rfl)) ⟨⟨by decide, Nat.le_of_ble_eq_true (by rfl)⟩, by decide, by decide⟩ (cG_init E _ _ (x + 9) (va_up_self _ _ _) (mZ_a _ _)) ?_
    rintro v σ2 m2 hi2 ⟨rfl, rfl, hk, a0, a1⟩
    have hk2 : gKp (x + 9) σ' σ2 m' m2 := (((gKp.rf _ σ' m').s (Nat.le_refl _) _).z (Nat.le_refl _)).tr hk
    have hf2 := hf.on (tm' := [some (.ref (x + 1)), some (.ref (x + 9)), oNl, oNl, oNl, oNl, oNl, oNl, oNl, oNl, oNl, none, none]) hk2 (by omega) (by omega) (Or.inr (by show x + 9 ≤ x + 9; omega)) (a0)
    refine j_putr (q := 26) (tm := [some (.ref (x + 1)), oNl, oNl, oNl, oNl, oNl, oNl, oNl, oNl, oNl, oNl, none, none]) dX6_init_23 rfl fX6_16 p6_1 (Or.inr ⟨rfl, cn6⟩) (by rw [(hk2 x (by omega)).1]; exact hx) (by rfl) (Or.inl ⟨_, rfl⟩) ?_
    exact gJ.cc (by rfl) (by rfl) (by rfl) (K26 _ _ hf2)
  have K4 : ∀ (σ' : gSg) (m' : gMem), gFk x σ m [oNl, oNl, oNl, oNl, oNl, oNl, oNl, oNl, oNl, oNl, oNl, none, none] 0 σ' m' → gJ E yX6_init cX6_init 2 none (gRm 3 93 969) F 4 [some (.ref x), none] [] 0 0 σ' m' (x + 1) := by
    intro σ' m' hf
    have hx := hf.1
    refine j_aload_n (q := 5) dX6_init_4 rfl (by rfl) ?_
    refine j_new (q := 8) dX6_init_5 rfl qX6_7 nX0 (ci := 0) rfl tyX0 tyX0_ok [oNl, oNl, oNl, none, none, none, none, none] (by decide) ⟨by decide, by decide⟩ ?_
    refine j_dup (q := 9) dX6_init_8 rfl rfl ?_
    refine j_callI (q := 12) dX6_init_9 rfl lX6_9 mwX0_init miX0_init (As := []) (by rfl) rfl (Nat.le_of_ble_eq_true (by rfl)) ⟨⟨by decide, Nat.le_of_ble_eq_true (by rfl)⟩, by decide, by decide⟩ (cG_init E _ _ (x + 1) (va_up_self _ _ _) (mZ_a _ _)) ?_
    rintro v σ2 m2 hi2 ⟨rfl, rfl, hk, a0, a1⟩
    have hk2 : gKp (x + 1) σ' σ2 m' m2 := (((gKp.rf _ σ' m').s (Nat.le_refl _) _).z (Nat.le_refl _)).tr hk
    have hf2 := hf.on (tm' := [some (.ref (x + 1)), oNl, oNl, oNl, oNl, oNl, oNl, oNl, oNl, oNl, oNl, none, none]) hk2 (by omega) (by omega) (Or.inl rfl) (⟨a0, a1⟩)
    refine j_putr (q := 15) (tm := [oNl, oNl, oNl, oNl, oNl, oNl, oNl, oNl, oNl, oNl, oNl, none, none]) dX6_init_12 rfl fX6_10 p6_0 (Or.inr ⟨rfl, cn6⟩) (by rw [(hk2 x (by omega)).1]; exact hx) (by rfl) (Or.inl ⟨_, rfl⟩) ?_
    exact gJ.cc (by rfl) (by rfl) (by rfl) (K15 _ _ hf2)
  refine j_aload_n (q := 1) dX6_init_0 rfl (by rfl) ?_
  refine j_objInit (q := 4) dX6_init_1 rfl lX6_1 ⟨by decide, Nat.le_of_ble_eq_true (by rfl)⟩ ?_
  exact K4 σ m ⟨hs, hz, gKp.rf x σ m, fun i hi => absurd hi (by omega)⟩
