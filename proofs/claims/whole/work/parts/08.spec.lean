/-! what an hour does: the words of the document as functions on ints -/
def sMin (a b : Int32) : Int32 := if b < a then b else a
def sMax (a b : Int32) : Int32 := if a < b then b else a
def sMore (nerve w : Int32) : Int32 := if nerve < w then w - nerve else 0
def sMinds (kind nerve w : Int32) : Int32 := (if kind = 0 then sMore nerve w else 2 * sMore nerve w) + (if 1 < kind ∧ 0 < w then 1 else 0) + (if kind = 3 ∧ w = 9 then 5 else 0)
def sFades (kind : Int32) : Int32 := if kind = 0 then 2 else if kind = 1 then 1 else 0
def sHeat (heat share : Int32) : Int32 := sMin 199 (heat + share)
def sFret (kind nerve fret w cal : Int32) : Int32 := if w = 0 then sMax 0 (sMax 0 (sMin 20 (fret + sMinds kind nerve w) - cal) - sFades kind) else sMax 0 (sMin 20 (fret + sMinds kind nerve w) - cal)
theorem gSw (x : Int32) (n : Nat) (hn : n < 2 ^ 31) : (x.toInt < 0 ∨ (n : Int) < x.toInt) ∨ ∃ k : Nat, k ≤ n ∧ x = nI k := by
  by_cases h : x.toInt < 0 ∨ (n : Int) < x.toInt
  · exact Or.inl h
  · refine Or.inr ⟨x.toInt.toNat, by omega, ?_⟩
    apply Int32.toInt_inj.mp
    rw [nI_toInt (by omega)]
    omega
theorem gMem_ext {m m' : gMem} (h1 : ∀ q k : Nat, m.1 q k = m'.1 q k) (h2 : m.2 = m'.2) : m = m' := Prod.ext (funext fun q => funext fun k => h1 q k) h2
theorem gW_W (m : gMem) (a k : Nat) (x z : Int32) : gW (gW m a k x) a k z = gW m a k z := by
  apply gMem_ext
  · intro q r
    simp only [gW_1]
    split <;> rfl
  · rfl
theorem gW_swap {m : gMem} {a k a' k' : Nat} (h : ¬ (a = a' ∧ k = k')) (x z : Int32) : gW (gW m a k x) a' k' z = gW (gW m a' k' z) a k x := by
  apply gMem_ext
  · intro q r
    simp only [gW_1]
    by_cases h1 : q = a ∧ r = k
    · by_cases h2 : q = a' ∧ r = k'
      · exact absurd ⟨h1.1.symm.trans h2.1, h1.2.symm.trans h2.2⟩ h
      · rw [if_neg h2, if_pos h1, if_pos h1]
    · by_cases h2 : q = a' ∧ r = k'
      · rw [if_pos h2, if_neg h1, if_pos h2]
      · rw [if_neg h2, if_neg h1, if_neg h1, if_neg h2]
  · rfl
theorem gW_self (m : gMem) (a k : Nat) : gW m a k (m.1 a k) = m := by
  apply gMem_ext
  · intro q r
    simp only [gW_1]
    split
    · rename_i h; rw [h.1, h.2]
    · rfl
  · rfl
theorem k_lt2 (k : Int32) : (1 < k) = ¬ (k < 2) := by
  apply propext
  rw [Int32.lt_iff_toInt_lt, Int32.lt_iff_toInt_lt]
  simp
  omega
theorem gJ.mm {E : gEv} {y : MethodName} {cc : ByteArray} {nL : Nat} {ret : Option FieldType} {R : Room} {F : gFT} {pc : Nat} {l : List (Option Value)} {st : List Value} {ck cn : Nat} {σ : gSg} {m m' : gMem} {hi : Nat} (h : m = m') (k : gJ E y cc nL ret R F pc l st ck cn σ m' hi) : gJ E y cc nL ret R F pc l st ck cn σ m hi := h ▸ k
theorem gW_selfs {m : gMem} {a k : Nat} {x : Int32} (h : m.1 a k = x) : gW m a k x = m := by rw [← h, gW_self]
