/-! a text's tokens: kind (0 end, 1 name, 2 number, 3 stop, 4 no token), where it begins, where it ends, its value -/
def mR (m : gMem) (a : Nat) (f : Nat → Int32) : gMem := (fun q => if q = a then f else m.1 q, m.2)
theorem mR_a (m : gMem) (a : Nat) (f : Nat → Int32) : (mR m a f).1 a = f := if_pos rfl
theorem mR_n {m : gMem} {a q : Nat} (h : q ≠ a) (f : Nat → Int32) : (mR m a f).1 q = m.1 q := if_neg h
theorem mR_self (m : gMem) (a : Nat) : mR m a (m.1 a) = m := by
  apply gMem_ext
  · intro q r
    by_cases h : q = a
    · subst h; rw [mR_a]
    · rw [mR_n h]
  · rfl
theorem gW_mR (m : gMem) (a k : Nat) (f : Nat → Int32) (v : Int32) : gW (mR m a f) a k v = mR m a (upd f k v) := by
  apply gMem_ext
  · intro q r
    rw [gW_1]
    by_cases h : q = a
    · subst h
      rw [mR_a, mR_a]
      by_cases h2 : r = k
      · subst h2; rw [if_pos ⟨rfl, rfl⟩, pk_us]
      · rw [if_neg (fun z => h2 z.2), pk_un h2]
    · rw [if_neg (fun z => h z.1), mR_n h, mR_n h]
  · rfl
theorem mR_mR (m : gMem) (a : Nat) (f g : Nat → Int32) : mR (mR m a f) a g = mR m a g := by
  apply gMem_ext
  · intro q r
    by_cases h : q = a
    · subst h; rw [mR_a, mR_a]
    · rw [mR_n h, mR_n h, mR_n h]
  · rfl
abbrev tkT : Type := Nat × Nat × Nat × Int32
abbrev pT : Type := (Nat × Nat) ⊕ tkT
abbrev isSp (b : Int32) : Prop := b = 32
abbrev isLe (b : Int32) : Prop := 97 ≤ b ∧ b ≤ 122
abbrev isFg (b : Int32) : Prop := 48 ≤ b ∧ b ≤ 57
def spn (P : Int32 → Prop) [DecidablePred P] (B : Nat → Int32) : Nat → Nat → Nat
  | 0, p => p
  | k + 1, p => if P (B p) then spn P B k (p + 1) else p
def rn (P : Int32 → Prop) [DecidablePred P] (B : Nat → Int32) (L p : Nat) : Nat := spn P B (L - p) p
/-- the byte at a place, or z -/
def bA (z : Int32) (B : Nat → Int32) (L p : Nat) : Int32 := if p < L then B p else z
theorem bA_lt {z : Int32} {B : Nat → Int32} {L p : Nat} (h : p < L) : bA z B L p = B p := if_pos h
theorem bA_ge {z : Int32} {B : Nat → Int32} {L p : Nat} (h : L ≤ p) : bA z B L p = z := if_neg (by omega)
theorem rn_y {P : Int32 → Prop} [DecidablePred P] {z : Int32} {B : Nat → Int32} {L p : Nat} (hz : ¬ P z) (h : P (bA z B L p)) : p < L ∧ rn P B L p = rn P B L (p + 1) := by
  by_cases hp : p < L
  · rw [bA_lt hp] at h
    refine ⟨hp, ?_⟩
    unfold rn
    rw [show L - p = (L - (p + 1)) + 1 by omega, spn, if_pos h]
  · rw [bA_ge (by omega)] at h
    exact absurd h hz
theorem rn_n {P : Int32 → Prop} [DecidablePred P] {z : Int32} {B : Nat → Int32} {L p : Nat} (h : ¬ P (bA z B L p)) : rn P B L p = p := by
  unfold rn
  by_cases hp : p < L
  · rw [bA_lt hp] at h
    rw [show L - p = (L - (p + 1)) + 1 by omega, spn, if_neg h]
  · rw [show L - p = 0 by omega]
    rfl
theorem rn_L (P : Int32 → Prop) [DecidablePred P] (B : Nat → Int32) {L p : Nat} (h : L ≤ p) : rn P B L p = p := by
  unfold rn
  rw [show L - p = 0 by omega]
  rfl
theorem spn_le (P : Int32 → Prop) [DecidablePred P] (B : Nat → Int32) : ∀ k p, p ≤ spn P B k p ∧ spn P B k p ≤ p + k
  | 0, p => ⟨Nat.le_refl p, Nat.le_refl p⟩
  | k + 1, p => by
    rw [spn]
    by_cases h : P (B p)
    · rw [if_pos h]
      have := spn_le P B k (p + 1)
      omega
    · rw [if_neg h]
      omega
theorem rn_le (P : Int32 → Prop) [DecidablePred P] (B : Nat → Int32) {L p : Nat} (h : p ≤ L) : p ≤ rn P B L p ∧ rn P B L p ≤ L := by
  have := spn_le P B (L - p) p
  unfold rn
  omega
def lx (B : Nat → Int32) (L s : Nat) : tkT := if L ≤ s then (0, s, s, 0) else if B s = 59 then (3, s, s + 1, 0) else if isLe (B s) then (1, s, rn isLe B L (s + 1), 0) else if isFg (B s) then (if rn isFg B L (s + 1) ≤ s + 2 then (2, s, rn isFg B L (s + 1), if rn isFg B L (s + 1) = s + 1 then B s - 48 else 10 * (B s - 48) + B (s + 1) - 48) else (4, s, s, 0)) else (4, s, s, 0)
def lex (B : Nat → Int32) (L p : Nat) : tkT := lx B L (rn isSp B L p)
theorem lx_s (B : Nat → Int32) (L s : Nat) : (lx B L s).2.1 = s := by
  unfold lx
  by_cases h1 : L ≤ s
  · rw [if_pos h1]
  rw [if_neg h1]
  by_cases h2 : B s = 59
  · rw [if_pos h2]
  rw [if_neg h2]
  by_cases h3 : isLe (B s)
  · rw [if_pos h3]
  rw [if_neg h3]
  by_cases h4 : isFg (B s)
  · rw [if_pos h4]
    by_cases h5 : rn isFg B L (s + 1) ≤ s + 2
    · rw [if_pos h5]
    · rw [if_neg h5]
  · rw [if_neg h4]
theorem lx_k (B : Nat → Int32) (L s : Nat) : (lx B L s).1 < 5 ∧ ((lx B L s).1 ≠ 0 → s < L) ∧ ((lx B L s).1 ≠ 0 → (lx B L s).1 ≠ 4 → s < (lx B L s).2.2.1 ∧ (lx B L s).2.2.1 ≤ L) := by
  unfold lx
  by_cases h1 : L ≤ s
  · rw [if_pos h1]; exact ⟨by show 0 < 5; decide, fun h => absurd rfl h, fun h => absurd rfl h⟩
  rw [if_neg h1]
  have r1 := rn_le isLe B (L := L) (p := s + 1) (by omega)
  have r2 := rn_le isFg B (L := L) (p := s + 1) (by omega)
  by_cases h2 : B s = 59
  · rw [if_pos h2]; exact ⟨by show 3 < 5; decide, fun _ => by omega, fun _ _ => by show s < s + 1 ∧ s + 1 ≤ L; omega⟩
  rw [if_neg h2]
  by_cases h3 : isLe (B s)
  · rw [if_pos h3]; exact ⟨by show 1 < 5; decide, fun _ => by omega, fun _ _ => by show s < rn isLe B L (s + 1) ∧ rn isLe B L (s + 1) ≤ L; omega⟩
  rw [if_neg h3]
  by_cases h4 : isFg (B s)
  · rw [if_pos h4]
    by_cases h5 : rn isFg B L (s + 1) ≤ s + 2
    · rw [if_pos h5]; exact ⟨by show 2 < 5; decide, fun _ => by omega, fun _ _ => by show s < rn isFg B L (s + 1) ∧ rn isFg B L (s + 1) ≤ L; omega⟩
    · rw [if_neg h5]; exact ⟨by show 4 < 5; decide, fun _ => by omega, fun _ h => absurd rfl h⟩
  · rw [if_neg h4]; exact ⟨by show 4 < 5; decide, fun _ => by omega, fun _ h => absurd rfl h⟩
def nxt (B : Nat → Int32) (L e : Nat) : pT := if (lex B L e).1 = 4 then .inl (1, (lex B L e).2.1) else .inr (lex B L e)
/-- a token that is in its bounds -/
def okTk (L : Nat) : pT → Prop
  | .inl e => e.1 < 6 ∧ e.1 ≠ 0 ∧ e.2 ≤ L
  | .inr t => t.1 < 4 ∧ t.2.1 ≤ L ∧ (t.1 ≠ 0 → t.2.1 < t.2.2.1 ∧ t.2.2.1 ≤ L)
theorem nxt_ok {B : Nat → Int32} {L e : Nat} (he : e ≤ L) : okTk L (nxt B L e) := by
  have hs := lx_s B L (rn isSp B L e)
  have hk := lx_k B L (rn isSp B L e)
  have hr := rn_le isSp B (L := L) he
  unfold nxt lex
  by_cases h : (lx B L (rn isSp B L e)).1 = 4
  · rw [if_pos h]
    exact ⟨by show 1 < 6; decide, by show 1 ≠ 0; decide, by show (lx B L (rn isSp B L e)).2.1 ≤ L; omega⟩
  · rw [if_neg h]
    exact ⟨by omega, by omega, fun h0 => by have := hk.2.2 h0 h; omega⟩
def numR (B : Nat → Int32) (L : Nat) (lo hig : Int32) : pT → pT
  | .inl e => .inl e
  | .inr t => if t.1 = 2 then (if lo ≤ t.2.2.2 ∧ t.2.2.2 ≤ hig then nxt B L t.2.2.1 else .inl (3, t.2.1)) else .inl (2, t.2.1)
def numV (lo hig : Int32) : pT → Int32
  | .inl _ => lo
  | .inr t => if t.1 = 2 then (if lo ≤ t.2.2.2 ∧ t.2.2.2 ≤ hig then t.2.2.2 else lo) else lo
def stpR (B : Nat → Int32) (L : Nat) : pT → pT
  | .inl e => .inl e
  | .inr t => if t.1 = 3 then nxt B L t.2.2.1 else .inl (2, t.2.1)
def namR (B : Nat → Int32) (L : Nat) : pT → pT
  | .inl e => .inl e
  | .inr t => nxt B L t.2.2.1
def flr (c : Nat) (b : Bool) : pT → pT
  | .inl e => .inl e
  | .inr t => if b then .inl (c, t.2.1) else .inr t
theorem numR_ok {B : Nat → Int32} {L : Nat} (lo hig : Int32) {R : pT} (h : okTk L R) : okTk L (numR B L lo hig R) := by
  match R, h with
  | .inl e, h => exact h
  | .inr t, h =>
    show okTk L (if t.1 = 2 then (if lo ≤ t.2.2.2 ∧ t.2.2.2 ≤ hig then nxt B L t.2.2.1 else .inl (3, t.2.1)) else .inl (2, t.2.1))
    by_cases h2 : t.1 = 2
    · rw [if_pos h2]
      by_cases h3 : lo ≤ t.2.2.2 ∧ t.2.2.2 ≤ hig
      · rw [if_pos h3]; exact nxt_ok (h.2.2 (by omega)).2
      · rw [if_neg h3]; exact ⟨by show 3 < 6; decide, by show 3 ≠ 0; decide, h.2.1⟩
    · rw [if_neg h2]; exact ⟨by show 2 < 6; decide, by show 2 ≠ 0; decide, h.2.1⟩
theorem stpR_ok {B : Nat → Int32} {L : Nat} {R : pT} (h : okTk L R) : okTk L (stpR B L R) := by
  match R, h with
  | .inl e, h => exact h
  | .inr t, h =>
    show okTk L (if t.1 = 3 then nxt B L t.2.2.1 else .inl (2, t.2.1))
    by_cases h2 : t.1 = 3
    · rw [if_pos h2]; exact nxt_ok (h.2.2 (by omega)).2
    · rw [if_neg h2]; exact ⟨by show 2 < 6; decide, by show 2 ≠ 0; decide, h.2.1⟩
theorem flr_ok {L : Nat} {c : Nat} (hc : c < 6 ∧ c ≠ 0) {b : Bool} {R : pT} (h : okTk L R) : okTk L (flr c b R) := by
  match R, h with
  | .inl e, h => exact h
  | .inr t, h =>
    cases b
    · exact h
    · exact ⟨hc.1, hc.2, h.2.1⟩
/-- a reader's row: the fault, or the token -/
def RS (f : Nat → Int32) : pT → Prop
  | .inl e => f 5 = nI e.1 ∧ f 6 = nI e.2
  | .inr t => f 5 = 0 ∧ f 2 = nI t.1 ∧ f 3 = nI t.2.1 ∧ (t.1 ≠ 0 → f 1 = nI t.2.2.1) ∧ (t.1 = 2 → f 4 = t.2.2.2)
/-- the tape -/
def okT (m : gMem) (x L : Nat) : Prop := m.1 (x + 21) 1 = nI L ∧ L ≤ 160 ∧ ∀ p, p < L → ∃ b, b < 128 ∧ m.1 (x + 22) p = nI b
/-- all but the reader's row stays; of that, who has told flow and calm -/
def rdr (x : Nat) (m m' : gMem) : Prop := (∀ q, q ≠ x + 20 → m'.1 q = m.1 q) ∧ m'.1 (x + 20) 7 = m.1 (x + 20) 7 ∧ m'.1 (x + 20) 8 = m.1 (x + 20) 8
theorem rdr.rf (x : Nat) (m : gMem) : rdr x m m := ⟨fun _ _ => rfl, rfl, rfl⟩
theorem rdr.tr {x : Nat} {m m' m'' : gMem} (h : rdr x m m') (h' : rdr x m' m'') : rdr x m m'' := ⟨fun q hq => (h'.1 q hq).trans (h.1 q hq), h'.2.1.trans h.2.1, h'.2.2.trans h.2.2⟩
theorem okT.r {x L : Nat} {m m' : gMem} (h : okT m x L) (hr : rdr x m m') : okT m' x L := by
  unfold okT
  rw [hr.1 (x + 21) (by omega), hr.1 (x + 22) (by omega)]
  exact h
theorem nI_inj {a b : Nat} (ha : a < 2 ^ 31) (hb : b < 2 ^ 31) (h : nI a = nI b) : a = b := (nI_eq ha hb).mp h
theorem cT_byteAt (E : gEv) (σ : gSg) (m : gMem) (hi x L p : Nat) (hN : gN σ x) (hT : okT m x L) (hp : p < 2 ^ 30) : gCo E yX4_byteAt cX4_byteAt 2 (some .int) 0 [.ref (x + 21), .int (nI p)] σ m hi (gX (some (.int (bA (-1) (m.1 (x + 22)) L p))) m) := by
  refine gCo.of mwX4_byteAt (Nat.le_of_ble_eq_true rfl) ?_
  intro F hF
  obtain ⟨-, -, -, -, -, -, -, h21, h22, -⟩ := hN
  refine j_iload_n (q := 1) dX4_byteAt_0 rfl (by rfl) ?_
  refine j_if_lt (q := 4) (tgt := 21) dX4_byteAt_1 rfl (by decide) (fun h1 => ?_) (fun h1 => ?_)
  · exact absurd h1 (nI_pos (by omega))
  refine j_iload_n (q := 5) dX4_byteAt_4 rfl (by rfl) ?_
  refine j_aload_n (q := 6) dX4_byteAt_5 rfl (by rfl) ?_
  refine j_geti (q := 9) dX4_byteAt_6 rfl fX4_15 (by assumption) (by rfl) ?_
  rw [hT.1]
  have hL := hT.2.1
  refine j_icmp_ge (q := 12) (tgt := 21) dX4_byteAt_9 rfl (by decide) (fun h9 => ?_) (fun h9 => ?_)
  · have hge : L ≤ p := (nI_leI (by omega) (by omega)).mp h9
    refine j_iconst (q := 22) (v := (-1)) dX4_byteAt_21 rfl (by decide) ?_
    refine o_iret hF rfl dX4_byteAt_22 ?_
    exact ⟨by rw [bA_ge hge], rfl⟩
  · have hlt : p < L := Nat.not_le.mp (fun q => h9 (nI_le q (by omega)))
    have hix : gIdx (nI p) 160 p := gIdx.of rfl (by omega) (by decide)
    refine j_aload_n (q := 13) dX4_byteAt_12 rfl (by rfl) ?_
    refine j_getr (q := 16) dX4_byteAt_13 rfl fX4_9 (by assumption) (by rfl) ?_
    refine j_iload_n (q := 17) dX4_byteAt_16 rfl (by rfl) ?_
    refine j_baload (q := 18) dX4_byteAt_17 rfl (by assumption) (by assumption) ?_
    refine j_goto (tgt := 22) dX4_byteAt_18 (by decide) ?_
    refine o_iret hF rfl dX4_byteAt_22 ?_
    exact ⟨by rw [bA_lt hlt], rfl⟩
theorem cR_isLetter (E : gEv) (σ : gSg) (m : gMem) (hi : Nat) (b : Int32) : gCo E yX1_isLetter cX1_isLetter 1 (some .boolean) 0 [.int b] σ m hi (gX (some (.int (if isLe b then 1 else 0))) m) := by
  refine gCo.of mwX1_isLetter (Nat.le_of_ble_eq_true rfl) ?_
  intro F hF
  refine j_iload_n (q := 1) dX1_isLetter_0 rfl (by rfl) ?_
  refine j_bipush (q := 3) (v := 97) dX1_isLetter_1 rfl (by decide) ?_
  refine j_icmp_lt (q := 6) (tgt := 16) dX1_isLetter_3 rfl (by decide) (fun h3 => ?_) (fun h3 => ?_)
  · refine j_iconst (q := 17) (v := 0) dX1_isLetter_16 rfl (by decide) ?_
    refine o_zret hF rfl dX1_isLetter_17 (by first | assumption | exact Or.inl rfl | exact Or.inr rfl) ?_
    first | (rw [if_pos (show isLe b from ⟨Int32.not_lt.mp h3, Int32.not_lt.mp h9⟩)]; exact ⟨rfl, rfl⟩) | (rw [if_neg (show ¬ isLe b from fun h => by first | exact Int32.not_lt.mpr h.1 h3 | exact Int32.not_lt.mpr h.2 h9)]; exact ⟨rfl, rfl⟩)
  · refine j_iload_n (q := 7) dX1_isLetter_6 rfl (by rfl) ?_
    refine j_bipush (q := 9) (v := 122) dX1_isLetter_7 rfl (by decide) ?_
    refine j_icmp_gt (q := 12) (tgt := 16) dX1_isLetter_9 rfl (by decide) (fun h9 => ?_) (fun h9 => ?_)
    · refine j_iconst (q := 17) (v := 0) dX1_isLetter_16 rfl (by decide) ?_
      refine o_zret hF rfl dX1_isLetter_17 (by first | assumption | exact Or.inl rfl | exact Or.inr rfl) ?_
      first | (rw [if_pos (show isLe b from ⟨Int32.not_lt.mp h3, Int32.not_lt.mp h9⟩)]; exact ⟨rfl, rfl⟩) | (rw [if_neg (show ¬ isLe b from fun h => by first | exact Int32.not_lt.mpr h.1 h3 | exact Int32.not_lt.mpr h.2 h9)]; exact ⟨rfl, rfl⟩)
    · refine j_iconst (q := 13) (v := 1) dX1_isLetter_12 rfl (by decide) ?_
      refine j_goto (tgt := 17) dX1_isLetter_13 (by decide) ?_
      refine o_zret hF rfl dX1_isLetter_17 (by first | assumption | exact Or.inl rfl | exact Or.inr rfl) ?_
      first | (rw [if_pos (show isLe b from ⟨Int32.not_lt.mp h3, Int32.not_lt.mp h9⟩)]; exact ⟨rfl, rfl⟩) | (rw [if_neg (show ¬ isLe b from fun h => by first | exact Int32.not_lt.mpr h.1 h3 | exact Int32.not_lt.mpr h.2 h9)]; exact ⟨rfl, rfl⟩)
theorem cR_isFigure (E : gEv) (σ : gSg) (m : gMem) (hi : Nat) (b : Int32) : gCo E yX1_isFigure cX1_isFigure 1 (some .boolean) 0 [.int b] σ m hi (gX (some (.int (if isFg b then 1 else 0))) m) := by
  refine gCo.of mwX1_isFigure (Nat.le_of_ble_eq_true rfl) ?_
  intro F hF
  refine j_iload_n (q := 1) dX1_isFigure_0 rfl (by rfl) ?_
  refine j_bipush (q := 3) (v := 48) dX1_isFigure_1 rfl (by decide) ?_
  refine j_icmp_lt (q := 6) (tgt := 16) dX1_isFigure_3 rfl (by decide) (fun h3 => ?_) (fun h3 => ?_)
  · refine j_iconst (q := 17) (v := 0) dX1_isFigure_16 rfl (by decide) ?_
    refine o_zret hF rfl dX1_isFigure_17 (by first | assumption | exact Or.inl rfl | exact Or.inr rfl) ?_
    first | (rw [if_pos (show isFg b from ⟨Int32.not_lt.mp h3, Int32.not_lt.mp h9⟩)]; exact ⟨rfl, rfl⟩) | (rw [if_neg (show ¬ isFg b from fun h => by first | exact Int32.not_lt.mpr h.1 h3 | exact Int32.not_lt.mpr h.2 h9)]; exact ⟨rfl, rfl⟩)
  · refine j_iload_n (q := 7) dX1_isFigure_6 rfl (by rfl) ?_
    refine j_bipush (q := 9) (v := 57) dX1_isFigure_7 rfl (by decide) ?_
    refine j_icmp_gt (q := 12) (tgt := 16) dX1_isFigure_9 rfl (by decide) (fun h9 => ?_) (fun h9 => ?_)
    · refine j_iconst (q := 17) (v := 0) dX1_isFigure_16 rfl (by decide) ?_
      refine o_zret hF rfl dX1_isFigure_17 (by first | assumption | exact Or.inl rfl | exact Or.inr rfl) ?_
      first | (rw [if_pos (show isFg b from ⟨Int32.not_lt.mp h3, Int32.not_lt.mp h9⟩)]; exact ⟨rfl, rfl⟩) | (rw [if_neg (show ¬ isFg b from fun h => by first | exact Int32.not_lt.mpr h.1 h3 | exact Int32.not_lt.mpr h.2 h9)]; exact ⟨rfl, rfl⟩)
    · refine j_iconst (q := 13) (v := 1) dX1_isFigure_12 rfl (by decide) ?_
      refine j_goto (tgt := 17) dX1_isFigure_13 (by decide) ?_
      refine o_zret hF rfl dX1_isFigure_17 (by first | assumption | exact Or.inl rfl | exact Or.inr rfl) ?_
      first | (rw [if_pos (show isFg b from ⟨Int32.not_lt.mp h3, Int32.not_lt.mp h9⟩)]; exact ⟨rfl, rfl⟩) | (rw [if_neg (show ¬ isFg b from fun h => by first | exact Int32.not_lt.mpr h.1 h3 | exact Int32.not_lt.mpr h.2 h9)]; exact ⟨rfl, rfl⟩)
theorem cR_fail (E : gEv) (σ : gSg) (m : gMem) (hi x : Nat) (f : Nat → Int32) (c w : Int32) (hN : gN σ x) : gCo E yX1_fail cX1_fail 3 (none) 0 [.ref (x + 20), .int c, .int w] σ (mR m (x + 20) f) hi (gX none (mR m (x + 20) (if f 5 = 0 then upd (upd f 5 c) 6 w else f))) := by
  refine gCo.of mwX1_fail (Nat.le_of_ble_eq_true rfl) ?_
  intro F hF
  obtain ⟨-, -, -, -, -, -, h20, -⟩ := hN
  refine j_aload_n (q := 1) dX1_fail_0 rfl (by rfl) ?_
  refine j_geti (q := 4) dX1_fail_1 rfl fX1_22 (by assumption) (by rfl) ?_
  rw [mR_a]
  refine j_if_ne (q := 7) (tgt := 17) dX1_fail_4 rfl (by decide) (fun h4 => ?_) (fun h4 => ?_)
  · refine o_vret hF rfl dX1_fail_17 ?_
    exact ⟨rfl, by rw [if_neg h4]⟩
  · refine j_aload_n (q := 8) dX1_fail_7 rfl (by rfl) ?_
    refine j_iload_n (q := 9) dX1_fail_8 rfl (by rfl) ?_
    refine j_puti (q := 12) dX1_fail_9 rfl fX1_22 p1_5 (by assumption) (by rfl) ?_
    refine j_aload_n (q := 13) dX1_fail_12 rfl (by rfl) ?_
    refine j_iload_n (q := 14) dX1_fail_13 rfl (by rfl) ?_
    refine j_puti (q := 17) dX1_fail_14 rfl fX1_25 p1_6 (by assumption) (by rfl) ?_
    refine o_vret hF rfl dX1_fail_17 ?_
    exact ⟨rfl, by rw [if_pos (by first | exact h4 | exact Decidable.not_not.mp h4), gW_mR, gW_mR]⟩
