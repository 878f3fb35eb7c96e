/-! the actor and the crowd by turns: all rows of figures gone through, and what comes of it -/
abbrev plS : Type := (Nat → Int32) × (Nat → Int32) × Int32
def gbl (v x : Int32) : Int32 := if v < x then v else x
def gbT (g : Nat → Int32) (k f : Nat) (l : Int32) (S : plS) : plS := if S.2.1 k < l then (upd S.1 k 1000000, upd S.2.1 k l, if k = 0 then sCho g (nI (f / 2)) else S.2.2) else (upd S.1 k 1000000, S.2.1, S.2.2)
def gbk (e : Nat) (g : Nat → Int32) (F : Nat → Nat) : Nat → Int32 → plS → plS
  | 0, _, S => S
  | k + 1, v, S => if F k % 2 = 0 then (upd S.1 k (gbl v (S.1 k)), S.2.1, S.2.2) else if k = 0 ∨ F k < e - 1 then gbT g k (F k) (gbl v (S.1 k)) S else gbk e g F k ((gbT g k (F k) (gbl v (S.1 k)) S).2.1 k) ((gbT g k (F k) (gbl v (S.1 k)) S).1, upd (gbT g k (F k) (gbl v (S.1 k)) S).2.1 k (-1), (gbT g k (F k) (gbl v (S.1 k)) S).2.2)
theorem gbk_c (e : Nat) (g : Nat → Int32) {F F' : Nat → Nat} : ∀ (k : Nat) (v : Int32) (S : plS), (∀ i, i < k → F i = F' i) → gbk e g F k v S = gbk e g F' k v S
  | 0, _, _, _ => rfl
  | k + 1, v, S, h => by
    rw [gbk, gbk, h k (by omega), gbk_c e g k _ _ (fun i hi => h i (by omega))]
theorem upd_u (f : Nat → Int32) (k : Nat) (a b : Int32) : upd (upd f k a) k b = upd f k b := by
  funext i
  by_cases h : i = k
  · subst h; rw [pk_us, pk_us]
  · rw [pk_un h, pk_un h, pk_un h]
theorem upd_e {f : Nat → Int32} {k : Nat} {a : Int32} (h : f k = a) : upd f k a = f := by
  funext i
  by_cases hi : i = k
  · subst hi; rw [pk_us, h]
  · rw [pk_un hi]
theorem nI_big {a : Nat} (h : a ≤ 1000) : nI a < 1000000 := nI_lt (b := 1000000) (by omega) (by omega)
theorem gbl_m {a b : Nat} (ha : a ≤ 1000) (hb : b ≤ 1000) : gbl (nI b) (nI a) = nI (min b a) := by
  unfold gbl
  by_cases h : b < a
  · rw [if_pos (nI_lt h (by omega)), show min b a = b by omega]
  · rw [if_neg (nI_nlt (by omega) (by omega)), show min b a = a by omega]
/-- both figures of a choice -/
def gbP (g : Nat → Int32) (k j : Nat) (M : Int32) (S : plS) : plS := if S.2.1 k < M then (S.1, upd S.2.1 k M, if k = 0 then sCho g (nI j) else S.2.2) else S
theorem gbk_even {e : Nat} {g : Nat → Int32} {F : Nat → Nat} {k j a : Nat} {S : plS} (h1 : F k = 2 * j) (ha : a ≤ 1000) (hS : S.1 k = 1000000) : gbk e g F (k + 1) (nI a) S = (upd S.1 k (nI a), S.2.1, S.2.2) := by
  rw [gbk, h1, if_pos (by omega), hS]
  unfold gbl
  rw [if_pos (nI_big ha)]
theorem gbk_pair {e : Nat} {g : Nat → Int32} {F2 : Nat → Nat} {k j a b : Nat} {S : plS} (h2 : F2 k = 2 * j + 1) (ha : a ≤ 1000) (hb : b ≤ 1000) (hS : S.1 k = 1000000) : gbk e g F2 (k + 1) (nI b) (upd S.1 k (nI a), S.2.1, S.2.2) = if k = 0 ∨ 2 * j + 1 < e - 1 then gbP g k j (nI (min b a)) S else gbk e g F2 k ((gbP g k j (nI (min b a)) S).2.1 k) ((gbP g k j (nI (min b a)) S).1, upd (gbP g k j (nI (min b a)) S).2.1 k (-1), (gbP g k j (nI (min b a)) S).2.2) := by
  have hT : gbT g k (2 * j + 1) (nI (min b a)) (upd S.1 k (nI a), S.2.1, S.2.2) = gbP g k j (nI (min b a)) S := by
    unfold gbT gbP
    show (if S.2.1 k < nI (min b a) then (upd (upd S.1 k (nI a)) k 1000000, upd S.2.1 k (nI (min b a)), if k = 0 then sCho g (nI ((2 * j + 1) / 2)) else S.2.2) else (upd (upd S.1 k (nI a)) k 1000000, S.2.1, S.2.2)) = _
    rw [upd_u, upd_e hS, show (2 * j + 1) / 2 = j by omega]
  rw [gbk, h2, if_neg (by omega)]
  show (if k = 0 ∨ 2 * j + 1 < e - 1 then gbT g k (2 * j + 1) (gbl (nI b) (upd S.1 k (nI a) k)) (upd S.1 k (nI a), S.2.1, S.2.2) else gbk e g F2 k ((gbT g k (2 * j + 1) (gbl (nI b) (upd S.1 k (nI a) k)) (upd S.1 k (nI a), S.2.1, S.2.2)).2.1 k) ((gbT g k (2 * j + 1) (gbl (nI b) (upd S.1 k (nI a) k)) (upd S.1 k (nI a), S.2.1, S.2.2)).1, upd (gbT g k (2 * j + 1) (gbl (nI b) (upd S.1 k (nI a) k)) (upd S.1 k (nI a), S.2.1, S.2.2)).2.1 k (-1), (gbT g k (2 * j + 1) (gbl (nI b) (upd S.1 k (nI a) k)) (upd S.1 k (nI a), S.2.1, S.2.2)).2.2)) = _
  rw [pk_us, gbl_m ha hb, hT]
def wt (f : Nat) : Int32 := if f % 2 = 0 then 0 else 9
def pgp (e : Nat) (g : Nat → Int32) : Nat → Nat → Nat → Int32
  | 0, _ => g
  | k + 1, P => hr (pgp e g k (P / e)) (wt (P % e)) (sCho g (nI (P % e / 2)))
def smp (e : Nat) (g : Nat → Int32) : Nat → Nat → Nat
  | 0, _ => 0
  | k + 1, P => smp e g k (P / e) + uN (pgp e g k (P / e)) (wt (P % e)) (sCho g (nI (P % e / 2)))
def vl (e c : Nat) (g : Nat → Int32) : Nat → Nat → Nat → Nat
  | 0, k, P => smp e g k P
  | d + 1, k, P => mxv (fun j => min (vl e c g d (k + 1) (P * e + (2 * j + 1))) (vl e c g d (k + 1) (P * e + 2 * j))) (c + 1)
theorem pgp_C {g : Nat → Int32} (h : okC g) (e : Nat) : ∀ k P, okC (pgp e g k P)
  | 0, _ => h
  | k + 1, P => (pgp_C h e k (P / e)).hr _ _
theorem pgp_0 {g : Nat → Int32} (h : pg0 g) (e : Nat) : ∀ k P, pg0 (pgp e g k P)
  | 0, _ => h
  | k + 1, P => hr_0 (pgp_0 h e k (P / e)) _ _
theorem pgp_24 (g : Nat → Int32) (e : Nat) : ∀ k P, pgp e g k P 24 = g 24
  | 0, _ => rfl
  | k + 1, P => by rw [pgp, hr_24, pgp_24 g e k]
theorem smp_le {g : Nat → Int32} (h : okC g) (e : Nat) : ∀ k P, smp e g k P ≤ 4 * k
  | 0, _ => Nat.le_refl 0
  | k + 1, P => by
    have := smp_le h e k (P / e)
    have := (uN_e (pgp_C h e k (P / e)) (wt (P % e)) (sCho g (nI (P % e / 2)))).2
    rw [smp]
    omega
theorem mxv_s {f f' : Nat → Nat} {s : Nat} (h : ∀ j, f j = s + f' j) : ∀ k, mxv f (k + 1) = s + mxv f' (k + 1)
  | 0 => by
    rw [mxv, mxv, mxv, mxv, h 0]
    omega
  | k + 1 => by
    have ih := mxv_s h k
    have e1 : mxv f (k + 1 + 1) = max (mxv f (k + 1)) (f (k + 1)) := rfl
    have e2 : mxv f' (k + 1 + 1) = max (mxv f' (k + 1)) (f' (k + 1)) := rfl
    rw [e1, e2, ih, h (k + 1)]
    omega
theorem mxv_c {f f' : Nat → Nat} (h : ∀ j, f j = f' j) (k : Nat) : mxv f k = mxv f' k := by rw [funext h]
theorem dm (P : Nat) {e f : Nat} (h : f < e) : (P * e + f) / e = P ∧ (P * e + f) % e = f := by
  rw [Nat.mul_comm P e]
  exact ⟨by rw [Nat.mul_add_div (by omega), Nat.div_eq_of_lt h, Nat.add_zero], by rw [Nat.mul_add_mod, Nat.mod_eq_of_lt h]⟩
theorem vl_e {g : Nat → Int32} {c : Nat} (hc : okC g) (hcn : cnt g = c) : ∀ d k P, vl (2 * c + 2) c g d k P = smp (2 * c + 2) g k P + mfv d (pgp (2 * c + 2) g k P)
  | 0, k, P => rfl
  | d + 1, k, P => by
    have hcp : cnt (pgp (2 * c + 2) g k P) = c := by unfold cnt; rw [pgp_24]; exact hcn
    have hch : ∀ x, sCho (pgp (2 * c + 2) g k P) x = sCho g x := fun x => by unfold sCho; rw [pgp_24]
    rw [vl, mfv_s, hcp]
    have key : ∀ j, j < c + 1 → min (vl (2 * c + 2) c g d (k + 1) (P * (2 * c + 2) + (2 * j + 1))) (vl (2 * c + 2) c g d (k + 1) (P * (2 * c + 2) + 2 * j)) = smp (2 * c + 2) g k P + lfv d (pgp (2 * c + 2) g k P) (sCho (pgp (2 * c + 2) g k P) (nI j)) := by
      intro j hj
      have d1 := dm P (e := 2 * c + 2) (f := 2 * j + 1) (by omega)
      have d2 := dm P (e := 2 * c + 2) (f := 2 * j) (by omega)
      rw [vl_e hc hcn d (k + 1), vl_e hc hcn d (k + 1)]
      unfold lfv
      rw [smp, smp, pgp, pgp, d1.1, d1.2, d2.1, d2.2, hch, show wt (2 * j + 1) = 9 from if_neg (by omega), show wt (2 * j) = 0 from if_pos (by omega), show (2 * j + 1) / 2 = j by omega, show 2 * j / 2 = j by omega]
      omega
    have gen : ∀ J, J ≤ c + 1 → mxv (fun j => min (vl (2 * c + 2) c g d (k + 1) (P * (2 * c + 2) + (2 * j + 1))) (vl (2 * c + 2) c g d (k + 1) (P * (2 * c + 2) + 2 * j))) J = mxv (fun j => smp (2 * c + 2) g k P + lfv d (pgp (2 * c + 2) g k P) (sCho (pgp (2 * c + 2) g k P) (nI j))) J := by
      intro J
      induction J with
      | zero => intro _; rfl
      | succ J ih =>
        intro hJ
        rw [mxv, mxv, ih (by omega), key J (by omega)]
    rw [gen (c + 1) (Nat.le_refl _)]
    exact mxv_s (fun j => rfl) c
theorem vl_le {g : Nat → Int32} {c : Nat} (hc : okC g) (hcn : cnt g = c) (d k P : Nat) : vl (2 * c + 2) c g d k P ≤ 4 * (k + d) := by
  rw [vl_e hc hcn]
  have := smp_le hc (2 * c + 2) k P
  have := mfv_le d (pgp_C hc (2 * c + 2) k P)
  omega
theorem dg_last (e P f k : Nat) (hf : f < e) : dg e (P * e + f) (k + 1) k = f := by
  unfold dg
  rw [show k + 1 - 1 - k = 0 by omega, Nat.pow_zero, Nat.div_one]
  exact (dm P hf).2
theorem dg_up (e P f k : Nat) (hf : f < e) : ∀ i, i < k → dg e (P * e + f) (k + 1) i = dg e P k i := by
  intro i hi
  unfold dg
  rw [show k + 1 - 1 - i = (k - 1 - i) + 1 by omega, Nat.pow_succ', ← Nat.div_div_eq_div_mul, (dm P hf).1]
def pst (e n : Nat) (g : Nat → Int32) (w : Nat) (S : plS) : plS := gbk e g (dg e w n) n (nI (smp e g n w)) S
def fld (e n : Nat) (g : Nat → Int32) (a : Nat) : Nat → plS → plS
  | 0, S => S
  | i + 1, S => pst e n g (a + i) (fld e n g a i S)
theorem fld_add (e n : Nat) (g : Nat → Int32) (a i : Nat) (S : plS) : ∀ j, fld e n g a (i + j) S = fld e n g (a + i) j (fld e n g a i S)
  | 0 => rfl
  | j + 1 => by
    show pst e n g (a + (i + j)) (fld e n g a (i + j) S) = pst e n g (a + i + j) (fld e n g (a + i) j (fld e n g a i S))
    rw [fld_add e n g a i S j, Nat.add_assoc]
def fre (n k : Nat) (S : plS) : Prop := ∀ j, k ≤ j → j < n → S.1 j = 1000000 ∧ S.2.1 j = -1
/-- the choices' worths at a level -/
def chM (e c : Nat) (g : Nat → Int32) (d k P : Nat) (j : Nat) : Int32 := nI (min (vl e c g d (k + 1) (P * e + (2 * j + 1))) (vl e c g d (k + 1) (P * e + 2 * j)))
def chB (e c : Nat) (g : Nat → Int32) (d k P : Nat) (S : plS) (j : Nat) : Int32 × Int32 := bst (chM e c g d k P) (fun i => sCho g (nI i)) S.2.2 (-1) j
def chS (e c : Nat) (g : Nat → Int32) (d k P : Nat) (S : plS) (j : Nat) : plS := (S.1, upd S.2.1 k (chB e c g d k P S j).2, if k = 0 then (chB e c g d k P S j).1 else S.2.2)
theorem chS_s (e c : Nat) (g : Nat → Int32) (d k P : Nat) (S : plS) (j : Nat) : gbP g k j (chM e c g d k P j) (chS e c g d k P S j) = chS e c g d k P S (j + 1) := by
  have e1 : (chS e c g d k P S j).2.1 k = (chB e c g d k P S j).2 := pk_us
  unfold gbP
  rw [e1]
  by_cases h : (chB e c g d k P S j).2 < chM e c g d k P j
  · have hB : chB e c g d k P S (j + 1) = (sCho g (nI j), chM e c g d k P j) := by
      unfold chB
      rw [bst]
      exact if_pos h
    rw [if_pos h]
    unfold chS
    rw [hB, upd_u]
    by_cases hk : k = 0
    · simp only [if_pos hk]
    · simp only [if_neg hk]
  · have hB : chB e c g d k P S (j + 1) = chB e c g d k P S j := by
      unfold chB
      rw [bst]
      exact if_neg h
    rw [if_neg h]
    unfold chS
    rw [hB]
theorem fld_in {g : Nat → Int32} {c : Nat} (hc : okC g) (hcn : cnt g = c) {n d k P : Nat} {S : plS} (hk : k + d + 1 = n) (hn : n ≤ 4) (hS : fre n k S) (HB : ∀ (P' : Nat) (S' : plS), fre n (k + 1) S' → fld (2 * c + 2) n g (P' * (2 * c + 2) ^ d) ((2 * c + 2) ^ d) S' = gbk (2 * c + 2) g (dg (2 * c + 2) P' (k + 1)) (k + 1) (nI (vl (2 * c + 2) c g d (k + 1) P')) S') : ∀ j, j ≤ c + 1 → (k = 0 ∨ j ≤ c → fld (2 * c + 2) n g (P * (2 * c + 2) ^ (d + 1)) (2 * j * (2 * c + 2) ^ d) S = chS (2 * c + 2) c g d k P S j) ∧ (¬ k = 0 → j = c + 1 → fld (2 * c + 2) n g (P * (2 * c + 2) ^ (d + 1)) (2 * j * (2 * c + 2) ^ d) S = gbk (2 * c + 2) g (dg (2 * c + 2) P k) k (chB (2 * c + 2) c g d k P S (c + 1)).2 S) := by
  generalize he : 2 * c + 2 = e at *
  have hfk := hS k (Nat.le_refl k) (by omega)
  intro j
  induction j with
  | zero =>
    intro _
    refine ⟨fun _ => ?_, fun _ h => absurd h (by omega)⟩
    rw [Nat.mul_zero, Nat.zero_mul]
    show S = chS e c g d k P S 0
    unfold chS chB
    rw [bst, upd_e hfk.2]
    by_cases h0 : k = 0
    · rw [if_pos h0]
    · rw [if_neg h0]
  | succ j ih =>
    intro hj
    have ihj := (ih (by omega)).1 (Or.inr (by omega))
    have hfr : fre n (k + 1) (chS e c g d k P S j) := fun i h1 h2 => ⟨(hS i (by omega) h2).1, by rw [show (chS e c g d k P S j).2.1 = upd S.2.1 k (chB e c g d k P S j).2 from rfl, pk_un (by omega)]; exact (hS i (by omega) h2).2⟩
    have hlo : (chS e c g d k P S j).1 k = 1000000 := hfk.1
    have ha : vl e c g d (k + 1) (P * e + 2 * j) ≤ 1000 := by have := vl_le hc hcn d (k + 1) (P * e + 2 * j); rw [he] at this; omega
    have hb : vl e c g d (k + 1) (P * e + (2 * j + 1)) ≤ 1000 := by have := vl_le hc hcn d (k + 1) (P * e + (2 * j + 1)); rw [he] at this; omega
    have e1 : P * e ^ (d + 1) + 2 * j * e ^ d = (P * e + 2 * j) * e ^ d := by rw [Nat.add_mul, Nat.mul_assoc P, Nat.pow_succ', ]
    have e2 : (P * e + 2 * j) * e ^ d + e ^ d = (P * e + (2 * j + 1)) * e ^ d := by rw [← Nat.add_assoc, Nat.add_mul (P * e + 2 * j), Nat.one_mul]
    have e3 : 2 * (j + 1) * e ^ d = 2 * j * e ^ d + (e ^ d + e ^ d) := by rw [Nat.mul_add, Nat.add_mul]; omega
    have hE := gbk_even (e := e) (g := g) (F := dg e (P * e + 2 * j) (k + 1)) (k := k) (j := j) (S := chS e c g d k P S j) (dg_last e P (2 * j) k (by omega)) ha hlo
    have hfr2 : fre n (k + 1) (upd (chS e c g d k P S j).1 k (nI (vl e c g d (k + 1) (P * e + 2 * j))), (chS e c g d k P S j).2.1, (chS e c g d k P S j).2.2) := fun i h1 h2 => ⟨by show upd (chS e c g d k P S j).1 k _ i = _; rw [pk_un (by omega)]; exact (hfr i h1 h2).1, (hfr i h1 h2).2⟩
    have hO := gbk_pair (e := e) (g := g) (F2 := dg e (P * e + (2 * j + 1)) (k + 1)) (k := k) (j := j) (S := chS e c g d k P S j) (dg_last e P (2 * j + 1) k (by omega)) ha hb hlo
    have hall : fld e n g (P * e ^ (d + 1)) (2 * (j + 1) * e ^ d) S = if k = 0 ∨ 2 * j + 1 < e - 1 then gbP g k j (chM e c g d k P j) (chS e c g d k P S j) else gbk e g (dg e (P * e + (2 * j + 1)) (k + 1)) k ((gbP g k j (chM e c g d k P j) (chS e c g d k P S j)).2.1 k) ((gbP g k j (chM e c g d k P j) (chS e c g d k P S j)).1, upd (gbP g k j (chM e c g d k P j) (chS e c g d k P S j)).2.1 k (-1), (gbP g k j (chM e c g d k P j) (chS e c g d k P S j)).2.2) := by
      rw [e3, fld_add, ihj, e1, fld_add, HB _ _ hfr, hE, e2, HB _ _ hfr2]
      exact hO
    rw [chS_s] at hall
    refine ⟨fun h => ?_, fun h0 hj1 => ?_⟩
    · rw [hall, if_pos]
      rcases h with h | h
      · exact Or.inl h
      · exact Or.inr (by omega)
    · have hjc : j = c := by omega
      subst hjc
      rw [hall, if_neg (fun q => q.elim h0 (fun q => by omega))]
      have s1 : (chS e j g d k P S (j + 1)).2.1 k = (chB e j g d k P S (j + 1)).2 := pk_us
      have s2 : ((chS e j g d k P S (j + 1)).1, upd (chS e j g d k P S (j + 1)).2.1 k (-1), (chS e j g d k P S (j + 1)).2.2) = S := by
        unfold chS
        show (S.1, upd (upd S.2.1 k _) k (-1), if k = 0 then _ else S.2.2) = S
        rw [upd_u, upd_e hfk.2, if_neg h0]
      rw [s1, s2]
      exact gbk_c e g k _ _ (dg_up e P (2 * j + 1) k (by omega))
theorem bst_mx {M : Nat → Nat} (hM : ∀ j, M j ≤ 1000) (lab : Nat → Int32) (b0 : Int32) : ∀ J, (bst (fun j => nI (M j)) lab b0 (-1) (J + 1)).2 = nI (mxv M (J + 1))
  | 0 => by
    have := hM 0
    rw [bst, mxv, mxv]
    show (if (-1 : Int32) < nI (M 0) then (lab 0, nI (M 0)) else (b0, -1)).2 = _
    rw [if_pos (Int32.lt_of_lt_of_le (show (-1 : Int32) < 0 by decide) (nI_pos' (by omega))), show max 0 (M 0) = M 0 by omega]
  | J + 1 => by
    have ih := bst_mx hM lab b0 J
    have h1 := hM (J + 1)
    have h2 := mxv_le hM (J + 1)
    rw [bst, mxv, ih]
    by_cases h : mxv M (J + 1) < M (J + 1)
    · rw [if_pos (nI_lt h (by omega)), show max (mxv M (J + 1)) (M (J + 1)) = M (J + 1) by omega]
    · rw [if_neg (nI_nlt (by omega) (by omega)), ih, show max (mxv M (J + 1)) (M (J + 1)) = mxv M (J + 1) by omega]
theorem fld_bl {g : Nat → Int32} {c n : Nat} (hc : okC g) (hcn : cnt g = c) (hn : n ≤ 4) : ∀ (d k P : Nat) (S : plS), 1 ≤ k → k + d = n → fre n k S → fld (2 * c + 2) n g (P * (2 * c + 2) ^ d) ((2 * c + 2) ^ d) S = gbk (2 * c + 2) g (dg (2 * c + 2) P k) k (nI (vl (2 * c + 2) c g d k P)) S
  | 0, k, P, S, hk, hkd, hS => by
    have : k = n := by omega
    subst this
    rw [Nat.pow_zero, Nat.mul_one]
    rfl
  | d + 1, k, P, S, hk, hkd, hS => by
    have HB := fun (P' : Nat) (S' : plS) (h : fre n (k + 1) S') => fld_bl hc hcn hn d (k + 1) P' S' (by omega) (by omega) h
    have h := (fld_in hc hcn (P := P) (by omega) hn hS HB (c + 1) (Nat.le_refl _)).2 (by omega) rfl
    rw [show (2 * c + 2) ^ (d + 1) = 2 * (c + 1) * (2 * c + 2) ^ d by rw [Nat.pow_succ', show 2 * (c + 1) = 2 * c + 2 by omega]] at *
    rw [h]
    congr 1
    unfold chB chM
    rw [vl]
    exact bst_mx (M := fun j => min (vl (2 * c + 2) c g d (k + 1) (P * (2 * c + 2) + (2 * j + 1))) (vl (2 * c + 2) c g d (k + 1) (P * (2 * c + 2) + 2 * j))) (fun j => by have := vl_le hc hcn d (k + 1) (P * (2 * c + 2) + 2 * j); omega) _ _ c
/-- all of them: the best of the first choices -/
theorem fld_all {g : Nat → Int32} {c n : Nat} (hc : okC g) (hcn : cnt g = c) (hn : n ≤ 4) (h1 : 1 ≤ n) {S : plS} (hS : fre n 0 S) : (fld (2 * c + 2) n g 0 ((2 * c + 2) ^ n) S).2.1 0 = (plB g (n - 1)).2 ∧ (fld (2 * c + 2) n g 0 ((2 * c + 2) ^ n) S).2.2 = (plB g (n - 1)).1 := by
  obtain ⟨d, rfl⟩ : ∃ d, n = d + 1 := ⟨n - 1, by omega⟩
  have HB := fun (P' : Nat) (S' : plS) (h : fre (d + 1) 1 S') => fld_bl hc hcn hn d 1 P' S' (by omega) (by omega) h
  have h := (fld_in hc hcn (n := d + 1) (d := d) (k := 0) (P := 0) (by omega) hn hS HB (c + 1) (Nat.le_refl _)).1 (Or.inl rfl)
  rw [Nat.zero_mul, show 2 * (c + 1) * (2 * c + 2) ^ d = (2 * c + 2) ^ (d + 1) by rw [Nat.pow_succ', show 2 * (c + 1) = 2 * c + 2 by omega]] at h
  rw [h, show d + 1 - 1 = d by omega]
  have key : ∀ j, j < c + 1 → chM (2 * c + 2) c g d 0 0 j = plF g d j := by
    intro j hj
    have d1 := dm 0 (e := 2 * c + 2) (f := 2 * j + 1) (by omega)
    have d2 := dm 0 (e := 2 * c + 2) (f := 2 * j) (by omega)
    unfold chM plF
    congr 1
    rw [vl_e hc hcn, vl_e hc hcn]
    unfold lfv
    have s1 : ∀ P, smp (2 * c + 2) g (0 + 1) P = 0 + uN g (wt (P % (2 * c + 2))) (sCho g (nI (P % (2 * c + 2) / 2))) := fun P => rfl
    have p1 : ∀ P, pgp (2 * c + 2) g (0 + 1) P = hr g (wt (P % (2 * c + 2))) (sCho g (nI (P % (2 * c + 2) / 2))) := fun P => rfl
    rw [s1, s1, p1, p1, d1.2, d2.2, show wt (2 * j + 1) = 9 from if_neg (by omega), show wt (2 * j) = 0 from if_pos (by omega), show (2 * j + 1) / 2 = j by omega, show 2 * j / 2 = j by omega, Nat.zero_add, Nat.zero_add]
  have gen : ∀ (b0 : Int32) (J : Nat), J ≤ c + 1 → bst (chM (2 * c + 2) c g d 0 0) (fun i => sCho g (nI i)) b0 (-1) J = bst (plF g d) (fun i => sCho g (nI i)) b0 (-1) J := by
    intro b0 J
    induction J with
    | zero => intro _; rfl
    | succ J ih =>
      intro hJ
      rw [bst, bst, ih (by omega), key J (by omega)]
  have hb0 : (-1 : Int32) < plF g d 0 := by
    unfold plF
    have : lfv d g (sCho g (nI 0)) ≤ 1000 := by
      have h1 := uN_e hc 9 (sCho g (nI 0))
      have h2 := mfv_le d (hc.hr 9 (sCho g (nI 0)))
      unfold lfv
      omega
    exact Int32.lt_of_lt_of_le (show (-1 : Int32) < 0 by decide) (nI_pos' (by omega))
  have hB : chB (2 * c + 2) c g d 0 0 S (c + 1) = plB g d := by
    unfold chB plB
    rw [hcn, gen S.2.2 (c + 1) (Nat.le_refl _)]
    exact bst_b0 hb0 _ _ c
  unfold chS
  rw [hB]
  exact ⟨by show upd S.2.1 0 (plB g d).2 0 = _; exact pk_us, by show (if (0 : Nat) = 0 then (plB g d).1 else S.2.2) = _; exact if_pos rfl⟩
