section GM
variable {E : gEv} {y : MethodName} {cc : ByteArray} {nL : Nat} {ret : Option FieldType} {R : Room} {F : gFT} {pc q : Nat} {l : List (Option Value)} {st : List Value} {ck cn : Nat} {σ : gSg} {m : gMem} {hi : Nat}
theorem j_mmin {idx : Nat} {x z : Int32} (hd : decode cc pc = .ok (.invokestatic idx, 3)) (hq : pc + 3 = q) (hlk : Cond.methodLink y.cls idx Lib.Math.min.name ∈ gT) (hf : (1 ≤ R.frames ∧ (st.map fun v => v.category).sum + 13 ≤ R.locals) ∧ ck ≤ R.cells ∧ cn ≤ R.slots) (kk : gJ E y cc nL ret R F q l (.int (if z < x then z else x) :: st) ck cn σ m hi) : gJ E y cc nL ret R F pc l (.int z :: .int x :: st) ck cn σ m hi := by
  subst hq
  intro p e s mi args below meth c C H locs ls hR hL hl
  have hts := C.2.2.2.2.2.1
  exact va_mmin C.1 C.2.1 (C.2.2.2.1.trans hl.1.symm) C.2.2.2.2.1 (hts _ hlk) (hts _ w_min.1) (hts _ w_mathI) (hts _ w_min.2) hf.1.1 hf.1.2 hf.2.1 hf.2.2 hd (kk p e s mi args below meth c C H locs ls hR hL hl)
theorem j_mmax {idx : Nat} {x z : Int32} (hd : decode cc pc = .ok (.invokestatic idx, 3)) (hq : pc + 3 = q) (hlk : Cond.methodLink y.cls idx Lib.Math.max.name ∈ gT) (hf : (1 ≤ R.frames ∧ (st.map fun v => v.category).sum + 13 ≤ R.locals) ∧ ck ≤ R.cells ∧ cn ≤ R.slots) (kk : gJ E y cc nL ret R F q l (.int (if x < z then z else x) :: st) ck cn σ m hi) : gJ E y cc nL ret R F pc l (.int z :: .int x :: st) ck cn σ m hi := by
  subst hq
  intro p e s mi args below meth c C H locs ls hR hL hl
  have hts := C.2.2.2.2.2.1
  exact va_mmax C.1 C.2.1 (C.2.2.2.1.trans hl.1.symm) C.2.2.2.2.1 (hts _ hlk) (hts _ w_max.1) (hts _ w_mathI) (hts _ w_max.2) hf.1.1 hf.1.2 hf.2.1 hf.2.2 hd (kk p e s mi args below meth c C H locs ls hR hL hl)
end GM
def gW (m : gMem) (a k : Nat) (v : Int32) : gMem := (fun a' k' => if a' = a ∧ k' = k then v else m.1 a' k', m.2)
def gWl (m : gMem) (a k : Nat) (v : Int64) : gMem := (m.1, fun a' k' => if a' = a ∧ k' = k then v else m.2 a' k')
theorem gW_2 (m : gMem) (a k : Nat) (v : Int32) : (gW m a k v).2 = m.2 := rfl
theorem gW_1 (m : gMem) (a k : Nat) (v : Int32) (a' k' : Nat) : (gW m a k v).1 a' k' = if a' = a ∧ k' = k then v else m.1 a' k' := rfl
theorem gW_s (m : gMem) (a k : Nat) (v : Int32) : (gW m a k v).1 a k = v := by simp [gW]
theorem gW_n {m : gMem} {a k : Nat} {v : Int32} {a' k' : Nat} (h : ¬ (a' = a ∧ k' = k)) : (gW m a k v).1 a' k' = m.1 a' k' := if_neg h
theorem gWl_1 (m : gMem) (a k : Nat) (v : Int64) : (gWl m a k v).1 = m.1 := rfl
theorem gWl_2 (m : gMem) (a k : Nat) (v : Int64) (a' k' : Nat) : (gWl m a k v).2 a' k' = if a' = a ∧ k' = k then v else m.2 a' k' := rfl
def gIdx (i : Int32) (n j : Nat) : Prop := vp_in i n ∧ i.toNatClampNeg = j
theorem gIdx.of {i : Int32} {n j : Nat} (h : i = nI j) (hj : j < n) (hn : n < 2 ^ 31) : gIdx i n j := by
  subst h
  exact ⟨vp_in_nI hj hn, nI_clamp (by omega)⟩
/-- a field's type, and whether it is final -/
def gPf (ci k : Nat) (ty : FieldType) (fin : Bool) : Prop := ∃ (C : String) (T : u_T) (N : Nat), gCl[ci]? = some (C, T, N) ∧ parseFieldDescriptor (T k).2.2.1 = some ty ∧ (T k).2.2.2 = fin ∧ (T k).1 = C
def gCn (ci : Nat) (C : String) : Prop := ∃ (T : u_T) (N : Nat), gCl[ci]? = some (C, T, N)
theorem p0_0 : gPf 0 0 (.array (.object "GeyserNerves$Vent")) true := ⟨_, _, _, rfl, by decide +kernel, rfl, rfl⟩
theorem p0_1 : gPf 0 1 (.array .int) true := ⟨_, _, _, rfl, by decide +kernel, rfl, rfl⟩
theorem p0_2 : gPf 0 2 (.array .int) true := ⟨_, _, _, rfl, by decide +kernel, rfl, rfl⟩
theorem p0_3 : gPf 0 3 (.int) false := ⟨_, _, _, rfl, by decide +kernel, rfl, rfl⟩
theorem p0_4 : gPf 0 4 (.int) false := ⟨_, _, _, rfl, by decide +kernel, rfl, rfl⟩
theorem p0_5 : gPf 0 5 (.int) false := ⟨_, _, _, rfl, by decide +kernel, rfl, rfl⟩
theorem p0_6 : gPf 0 6 (.int) false := ⟨_, _, _, rfl, by decide +kernel, rfl, rfl⟩
theorem p0_7 : gPf 0 7 (.int) false := ⟨_, _, _, rfl, by decide +kernel, rfl, rfl⟩
theorem p1_0 : gPf 1 0 (.object "GeyserNerves$Tape") true := ⟨_, _, _, rfl, by decide +kernel, rfl, rfl⟩
theorem p1_1 : gPf 1 1 (.int) false := ⟨_, _, _, rfl, by decide +kernel, rfl, rfl⟩
theorem p1_2 : gPf 1 2 (.int) false := ⟨_, _, _, rfl, by decide +kernel, rfl, rfl⟩
theorem p1_3 : gPf 1 3 (.int) false := ⟨_, _, _, rfl, by decide +kernel, rfl, rfl⟩
theorem p1_4 : gPf 1 4 (.int) false := ⟨_, _, _, rfl, by decide +kernel, rfl, rfl⟩
theorem p1_5 : gPf 1 5 (.int) false := ⟨_, _, _, rfl, by decide +kernel, rfl, rfl⟩
theorem p1_6 : gPf 1 6 (.int) false := ⟨_, _, _, rfl, by decide +kernel, rfl, rfl⟩
theorem p1_7 : gPf 1 7 (.boolean) false := ⟨_, _, _, rfl, by decide +kernel, rfl, rfl⟩
theorem p1_8 : gPf 1 8 (.boolean) false := ⟨_, _, _, rfl, by decide +kernel, rfl, rfl⟩
theorem p2_0 : gPf 2 0 (.array .int) true := ⟨_, _, _, rfl, by decide +kernel, rfl, rfl⟩
theorem p2_1 : gPf 2 1 (.array .int) true := ⟨_, _, _, rfl, by decide +kernel, rfl, rfl⟩
theorem p2_2 : gPf 2 2 (.array .int) true := ⟨_, _, _, rfl, by decide +kernel, rfl, rfl⟩
theorem p2_3 : gPf 2 3 (.int) false := ⟨_, _, _, rfl, by decide +kernel, rfl, rfl⟩
theorem p3_0 : gPf 3 0 (.array .int) true := ⟨_, _, _, rfl, by decide +kernel, rfl, rfl⟩
theorem p3_1 : gPf 3 1 (.int) false := ⟨_, _, _, rfl, by decide +kernel, rfl, rfl⟩
theorem p3_2 : gPf 3 2 (.int) false := ⟨_, _, _, rfl, by decide +kernel, rfl, rfl⟩
theorem p4_0 : gPf 4 0 (.array .byte) true := ⟨_, _, _, rfl, by decide +kernel, rfl, rfl⟩
theorem p4_1 : gPf 4 1 (.int) false := ⟨_, _, _, rfl, by decide +kernel, rfl, rfl⟩
theorem p5_0 : gPf 5 0 (.int) false := ⟨_, _, _, rfl, by decide +kernel, rfl, rfl⟩
theorem p5_1 : gPf 5 1 (.int) false := ⟨_, _, _, rfl, by decide +kernel, rfl, rfl⟩
theorem p5_2 : gPf 5 2 (.int) false := ⟨_, _, _, rfl, by decide +kernel, rfl, rfl⟩
theorem p5_3 : gPf 5 3 (.int) false := ⟨_, _, _, rfl, by decide +kernel, rfl, rfl⟩
theorem p5_4 : gPf 5 4 (.int) false := ⟨_, _, _, rfl, by decide +kernel, rfl, rfl⟩
theorem p5_5 : gPf 5 5 (.int) false := ⟨_, _, _, rfl, by decide +kernel, rfl, rfl⟩
theorem p6_0 : gPf 6 0 (.object "GeyserNerves$Ground") true := ⟨_, _, _, rfl, by decide +kernel, rfl, rfl⟩
theorem p6_1 : gPf 6 1 (.object "GeyserNerves$Ground") true := ⟨_, _, _, rfl, by decide +kernel, rfl, rfl⟩
theorem p6_2 : gPf 6 2 (.array (.object "GeyserNerves$Ground")) true := ⟨_, _, _, rfl, by decide +kernel, rfl, rfl⟩
theorem p6_3 : gPf 6 3 (.array (.object "GeyserNerves$Ground")) true := ⟨_, _, _, rfl, by decide +kernel, rfl, rfl⟩
theorem p6_4 : gPf 6 4 (.array .boolean) true := ⟨_, _, _, rfl, by decide +kernel, rfl, rfl⟩
theorem p6_5 : gPf 6 5 (.object "GeyserNerves$Reader") true := ⟨_, _, _, rfl, by decide +kernel, rfl, rfl⟩
theorem p6_6 : gPf 6 6 (.object "GeyserNerves$Tape") true := ⟨_, _, _, rfl, by decide +kernel, rfl, rfl⟩
theorem p6_7 : gPf 6 7 (.object "GeyserNerves$Seen") true := ⟨_, _, _, rfl, by decide +kernel, rfl, rfl⟩
theorem p6_8 : gPf 6 8 (.array .int) true := ⟨_, _, _, rfl, by decide +kernel, rfl, rfl⟩
theorem p6_9 : gPf 6 9 (.array .long) true := ⟨_, _, _, rfl, by decide +kernel, rfl, rfl⟩
theorem p6_10 : gPf 6 10 (.array (.object "GeyserNerves$Sheet")) true := ⟨_, _, _, rfl, by decide +kernel, rfl, rfl⟩
theorem p6_11 : gPf 6 11 (.int) false := ⟨_, _, _, rfl, by decide +kernel, rfl, rfl⟩
theorem p6_12 : gPf 6 12 (.int) false := ⟨_, _, _, rfl, by decide +kernel, rfl, rfl⟩
theorem p7_0 : gPf 7 0 (.array .int) true := ⟨_, _, _, rfl, by decide +kernel, rfl, rfl⟩
theorem p7_1 : gPf 7 1 (.array .int) true := ⟨_, _, _, rfl, by decide +kernel, rfl, rfl⟩
theorem p7_2 : gPf 7 2 (.boolean) false := ⟨_, _, _, rfl, by decide +kernel, rfl, rfl⟩
theorem p7_3 : gPf 7 3 (.boolean) false := ⟨_, _, _, rfl, by decide +kernel, rfl, rfl⟩
theorem p7_4 : gPf 7 4 (.array .int) true := ⟨_, _, _, rfl, by decide +kernel, rfl, rfl⟩
theorem p7_5 : gPf 7 5 (.int) false := ⟨_, _, _, rfl, by decide +kernel, rfl, rfl⟩
theorem p7_6 : gPf 7 6 (.int) false := ⟨_, _, _, rfl, by decide +kernel, rfl, rfl⟩
theorem p7_7 : gPf 7 7 (.int) false := ⟨_, _, _, rfl, by decide +kernel, rfl, rfl⟩
theorem p7_8 : gPf 7 8 (.int) false := ⟨_, _, _, rfl, by decide +kernel, rfl, rfl⟩
theorem p7_9 : gPf 7 9 (.int) false := ⟨_, _, _, rfl, by decide +kernel, rfl, rfl⟩
theorem p7_10 : gPf 7 10 (.int) false := ⟨_, _, _, rfl, by decide +kernel, rfl, rfl⟩
theorem p7_11 : gPf 7 11 (.int) false := ⟨_, _, _, rfl, by decide +kernel, rfl, rfl⟩
theorem p7_12 : gPf 7 12 (.int) false := ⟨_, _, _, rfl, by decide +kernel, rfl, rfl⟩
theorem p7_13 : gPf 7 13 (.array .int) true := ⟨_, _, _, rfl, by decide +kernel, rfl, rfl⟩
theorem p7_14 : gPf 7 14 (.array .int) true := ⟨_, _, _, rfl, by decide +kernel, rfl, rfl⟩
theorem p7_15 : gPf 7 15 (.int) false := ⟨_, _, _, rfl, by decide +kernel, rfl, rfl⟩
theorem p7_16 : gPf 7 16 (.int) false := ⟨_, _, _, rfl, by decide +kernel, rfl, rfl⟩
theorem p7_17 : gPf 7 17 (.int) false := ⟨_, _, _, rfl, by decide +kernel, rfl, rfl⟩
theorem p7_18 : gPf 7 18 (.array .int) true := ⟨_, _, _, rfl, by decide +kernel, rfl, rfl⟩
theorem p7_19 : gPf 7 19 (.array .int) true := ⟨_, _, _, rfl, by decide +kernel, rfl, rfl⟩
theorem p7_20 : gPf 7 20 (.array .int) true := ⟨_, _, _, rfl, by decide +kernel, rfl, rfl⟩
theorem p7_21 : gPf 7 21 (.int) false := ⟨_, _, _, rfl, by decide +kernel, rfl, rfl⟩
theorem p7_22 : gPf 7 22 (.array .int) true := ⟨_, _, _, rfl, by decide +kernel, rfl, rfl⟩
theorem p7_23 : gPf 7 23 (.int) false := ⟨_, _, _, rfl, by decide +kernel, rfl, rfl⟩
theorem p7_24 : gPf 7 24 (.array .int) true := ⟨_, _, _, rfl, by decide +kernel, rfl, rfl⟩
theorem p7_25 : gPf 7 25 (.array .boolean) true := ⟨_, _, _, rfl, by decide +kernel, rfl, rfl⟩
theorem p7_26 : gPf 7 26 (.array .int) true := ⟨_, _, _, rfl, by decide +kernel, rfl, rfl⟩
theorem p7_27 : gPf 7 27 (.array .int) true := ⟨_, _, _, rfl, by decide +kernel, rfl, rfl⟩
theorem p7_28 : gPf 7 28 (.array .int) true := ⟨_, _, _, rfl, by decide +kernel, rfl, rfl⟩
theorem p7_29 : gPf 7 29 (.int) false := ⟨_, _, _, rfl, by decide +kernel, rfl, rfl⟩
theorem cn0 : gCn 0 RX0 := ⟨_, _, rfl⟩
theorem cn1 : gCn 1 RX1 := ⟨_, _, rfl⟩
theorem cn2 : gCn 2 RX2 := ⟨_, _, rfl⟩
theorem cn3 : gCn 3 RX3 := ⟨_, _, rfl⟩
theorem cn4 : gCn 4 RX4 := ⟨_, _, rfl⟩
theorem cn5 : gCn 5 RX5 := ⟨_, _, rfl⟩
theorem cn6 : gCn 6 RX6 := ⟨_, _, rfl⟩
theorem cn7 : gCn 7 RX7 := ⟨_, _, rfl⟩
theorem gCell_ne {cA : Nat → ClassId} {m m' : gMem} {q : Nat} (h1 : m'.1 q = m.1 q) (h2 : m'.2 q = m.2 q) (sh : gSh) : gCell cA m' q sh = gCell cA m q sh := by
  have key : ∀ (tm : List (Option Value)) (j : Nat), gFs m' q j tm = gFs m q j tm := by
    intro tm
    induction tm with
    | nil => intro j; rfl
    | cons v r ih => intro j; rw [gFs, gFs, ih, h1]
  match sh with
  | .inl o => simp only [gCell, key]
  | .inr (0, n, _) => simp only [gCell, h1]
  | .inr (1, n, _) => simp only [gCell, h1]
  | .inr (2, n, _) => simp only [gCell, h1]
  | .inr (3, n, _) => simp only [gCell, h2]
  | .inr (t + 4, n, f) => rfl
theorem gRep.upd {E : gEv} {σ : gSg} {m m' : gMem} {hi a : Nat} {sh : gSh} {H H1 : Heap} (hR : gRep E σ m hi H) (hs : σ a = some sh) (z : H1.size = H.size) (oq : ∀ q : Nat, q ≠ a → H1[q]? = H[q]?) (ha : va_at E.2.1 gCl (a, gCell E.2.2.2.1 m' a sh) H1) (hm : ∀ q : Nat, q ≠ a → m'.1 q = m.1 q ∧ m'.2 q = m.2 q) : gRep E σ m' hi H1 := by
  obtain ⟨h1, h2, h3, h4⟩ := hR
  have hBa := (h4 a sh hs).1
  refine ⟨h1, z.trans h2, fun q hq => by rw [oq q (by omega)]; exact h3 q hq, fun q sh' hq => ?_⟩
  obtain ⟨g1, g2, g3⟩ := h4 q sh' hq
  refine ⟨g1, g2, ?_⟩
  by_cases hqa : q = a
  · subst hqa
    cases hs.symm.trans hq
    exact ha
  · rw [gCell_ne (hm q hqa).1 (hm q hqa).2]
    exact g3.kept (oq q hqa)
/-- a shape changes (a reference is written) -/
theorem gRep.set {E : gEv} {σ : gSg} {m : gMem} {hi a : Nat} {sh sh' : gSh} {H H1 : Heap} (hR : gRep E σ m hi H) (hs : σ a = some sh) (z : H1.size = H.size) (oq : ∀ q : Nat, q ≠ a → H1[q]? = H[q]?) (ha : va_at E.2.1 gCl (a, gCell E.2.2.2.1 m a sh') H1) : gRep E (va_up σ a (some sh')) m hi H1 := by
  obtain ⟨h1, h2, h3, h4⟩ := hR
  have hBa := h4 a sh hs
  refine ⟨h1, z.trans h2, fun q hq => by rw [oq q (by omega)]; exact h3 q hq, fun q sh1 hq => ?_⟩
  by_cases hqa : q = a
  · subst hqa
    rw [va_up_self] at hq
    cases hq
    exact ⟨hBa.1, hBa.2.1, ha⟩
  · rw [show va_up σ a (some sh') q = σ q from if_neg hqa] at hq
    obtain ⟨g1, g2, g3⟩ := h4 q sh1 hq
    exact ⟨g1, g2, g3.kept (oq q hqa)⟩
/-- a new cell at the top -/
theorem gRep.new {E : gEv} {σ : gSg} {m : gMem} {hi : Nat} {sh : gSh} {H H1 : Heap} (hR : gRep E σ m hi H) (z : H1.size = hi + 1) (oq : ∀ q : Nat, q < hi → H1[q]? = H[q]?) (m' : gMem) (hm : ∀ q : Nat, q ≠ hi → m'.1 q = m.1 q ∧ m'.2 q = m.2 q) (ha : va_at E.2.1 gCl (hi, gCell E.2.2.2.1 m' hi sh) H1) : gRep E (va_up σ hi (some sh)) m' (hi + 1) H1 := by
  obtain ⟨h1, h2, h3, h4⟩ := hR
  refine ⟨by omega, z, fun q hq => by rw [oq q (by omega)]; exact h3 q hq, fun q sh1 hq => ?_⟩
  by_cases hqa : q = hi
  · subst hqa
    rw [va_up_self] at hq
    cases hq
    exact ⟨h1, by omega, ha⟩
  · rw [show va_up σ hi (some sh) q = σ q from if_neg hqa] at hq
    obtain ⟨g1, g2, g3⟩ := h4 q sh1 hq
    refine ⟨g1, by omega, ?_⟩
    rw [gCell_ne (hm q hqa).1 (hm q hqa).2]
    exact g3.kept (oq q g2)
section GH
variable {E : gEv} {y : MethodName} {cc : ByteArray} {nL : Nat} {ret : Option FieldType} {R : Room} {F : gFT} {pc q : Nat} {l : List (Option Value)} {st : List Value} {ck cn : Nat} {σ : gSg} {m : gMem} {hi : Nat}
theorem gRep.cell {H : Heap} (hR : gRep E σ m hi H) {a : Nat} {sh : gSh} (hs : σ a = some sh) : va_P E.2.1 gCl [(a, gCell E.2.2.2.1 m a sh)] H := by
  intro k x hk
  match k, hk with
  | 0, hk => cases hk; exact (hR.2.2.2 a sh hs).2.2
  | k + 1, hk => simp at hk
theorem j_get {idx ci k a : Nat} {tm : List (Option Value)} {o : Option Value} {v : Value} (hd : decode cc pc = .ok (.getfield idx, 3)) (hq : pc + 3 = q) (hf : gFl y.cls idx ci k) (hs : σ a = some (.inl (ci, tm))) (ht : tm[k]? = some o) (hv : o.getD (.int (m.1 a k)) = v) (kk : gJ E y cc nL ret R F q l (v :: st) ck cn σ m hi) : gJ E y cc nL ret R F pc l (.ref a :: st) ck cn σ m hi := by
  subst hq
  intro p e s mi args below meth c C H locs ls hR hL hl
  obtain ⟨Cn, T, N, h1, h2, h3⟩ := hf
  refine va_get (D := E.2.1) (ci := ci) (v := v) (C := Cn) (T := T) (N := N) (ref := (T k).1) C.1 C.2.1 C.2.2.2.2.2.1 (gCl_ok h1).1 C.2.2.2.2.1 C.2.2.2.2.2.2.2.2.1 (gRep.cell hR hs) 0 rfl h1 k h2 (C.2.2.2.2.2.1 _ h3) (fun _ h9 => h9) ?_ hd (kk p e s mi args below meth c C H locs ls hR hL hl)
  show (gFs m a 0 tm)[k]? = some v
  rw [gFs_get, ht, Nat.zero_add, ← hv]
  rfl
theorem j_geti {idx ci k a : Nat} {tm : List (Option Value)} (hd : decode cc pc = .ok (.getfield idx, 3)) (hq : pc + 3 = q) (hf : gFl y.cls idx ci k) (hs : σ a = some (.inl (ci, tm))) (ht : tm[k]? = some none) (kk : gJ E y cc nL ret R F q l (.int (m.1 a k) :: st) ck cn σ m hi) : gJ E y cc nL ret R F pc l (.ref a :: st) ck cn σ m hi := j_get hd hq hf hs ht rfl kk
theorem j_getr {idx ci k a b : Nat} {tm : List (Option Value)} (hd : decode cc pc = .ok (.getfield idx, 3)) (hq : pc + 3 = q) (hf : gFl y.cls idx ci k) (hs : σ a = some (.inl (ci, tm))) (ht : tm[k]? = some (some (.ref b))) (kk : gJ E y cc nL ret R F q l (.ref b :: st) ck cn σ m hi) : gJ E y cc nL ret R F pc l (.ref a :: st) ck cn σ m hi := j_get hd hq hf hs ht rfl kk
/-- putfield over the machine: the cell's new fields, all else the same -/
theorem gPutW {p : Program} {e : Env} {s : State} {mi : MethodId} {args : Array Value} {below : List Frame} {meth : Method} {c : Code} {H : Heap} {locs : List Loc} {ls : Array Slot} {idx ci k a : Nat} {tm : List (Option Value)} {ty : FieldType} {fin : Bool} {v : Value} {Q : State → Prop} (C : gCx E y cc nL ret p s mi args meth c) (hR : gRep E σ m hi H) (hd : decode cc pc = .ok (.putfield idx, 3)) (hf : gFl y.cls idx ci k) (hp : gPf ci k ty fin) (hfin : fin = false ∨ (y.name = "<init>" ∧ gCn ci y.cls)) (hs : σ a = some (.inl (ci, tm))) (hn : narrow ty v = v) (hfit : fits ty v = true)
    (kk : ∀ (H' : Heap) (sl : Nat), H'.size = H.size → (∀ q : Nat, q ≠ a → H'[q]? = H[q]?) → (∀ fs' : List Value, (∀ j : Nat, updV (vp_V (gFs m a 0 tm)) k v j = vp_V fs' j) → va_at E.2.1 gCl (a, .inr (ci, fs')) H') → W p E.1 e R s mi args below meth c H' (locs ++ [⟨a, sl⟩]) ck cn Q (F0 mi (pc + 3) ls st)) : W p E.1 e R s mi args below meth c H locs ck cn Q (F0 mi pc ls (v :: .ref a :: st)) := by
  obtain ⟨Cn, T, N, h1, h2, h3⟩ := hf
  obtain ⟨C', T', N', g1, g2, g3, g4⟩ := hp
  cases h1.symm.trans g1
  obtain ⟨hin, ⟨ty0, hty⟩, hnm⟩ := gCl_ok h1
  have hK := C.2.2.2.2.2.2.2.2.1
  have hts := C.2.2.2.2.2.1
  have hap := va_apart (own := y.cls) hts hin ty0 hty hnm hK h1
  obtain ⟨hBa, hah, r, hr, cell, q1, q2, q3, q4⟩ := hR.2.2.2 a _ hs
  have hrr : r = (Cn, T, N) := Option.some.inj (hr.symm.trans h1)
  subst hrr
  obtain ⟨hS, hfc, kC, hkC, hkind⟩ := hK.1 ci _ h1
  obtain ⟨cf, kf, fi, f, hi', hsl⟩ := hS k h2
  have hlay := hts _ (hin _ (u_in_lay h2))
  unfold u_lay at hlay
  have hst := (u_facts hfc hkC (u_lays hts hin h2) hi').1
  have fin2 : ∀ (H' : Heap), H'[a]? = some (cell.setSlot f.slot v) → ∀ fs' : List Value, (∀ j : Nat, updV (vp_V (gFs m a 0 tm)) k v j = vp_V fs' j) → va_at E.2.1 gCl (a, .inr (ci, fs')) H' := by
    intro H' e1 fs' hfs
    rw [hsl] at e1
    exact ⟨_, h1, t_OB.to (V := updV (vp_V (gFs m a 0 tm)) k v) ⟨_, e1, q2, q3, t_set q4 hap h2 v⟩ (fun j _ => hfs j)⟩
  by_cases hb : (T k).2.2.2 = true
  · rw [if_pos hb] at hlay
    rcases hfin with hfin | ⟨hin2, T2, N2, hdc⟩
    · rw [g3, hfin] at hb; cases hb
    cases h1.symm.trans hdc
    have hcf : mi.cls = cf := by
      obtain ⟨_, _, c', _, _, _, -, -, hf', -, -, -, hown2, -⟩ := Cond.laysFinal_spec hlay
      have e1 : c' = cf := by have := hi'.symm.trans hf'; simp at this; exact this.1.symm
      rw [g4] at hown2
      rw [← e1]; exact Option.some.inj (C.2.2.2.2.1.symm.trans hown2)
    have h6 := u_fits hfc hkC hkind (Or.inr hlay) hi' g2 hn hfit
    exact W.putFinK C.1 C.2.1 C.2.2.2.2.1 (hts _ h3) hi' hst hcf (C.2.2.2.2.2.2.2.1.trans hin2) (by rw [q2]; exact h6) q1 q3 (by rw [hsl]; exact k2_hasslot (q4 k h2)) rfl rfl hd fun H' e1 e2 e3 => kk H' _ e2 e3 (fin2 H' e1)
  · rw [if_neg hb] at hlay
    have h6 := u_store hfc hkC hkind hlay hi' g2 hn hfit
    exact W.putK C.1 C.2.1 (f := f) ⟨C.2.2.2.2.1, hts _ h3, ⟨_, _, _, hi'⟩, hst⟩ (by rw [q2]; exact h6) q1 q3 (by rw [hsl]; exact k2_hasslot (q4 k h2)) rfl rfl hd fun H' e1 e2 e3 => kk H' _ e2 e3 (fin2 H' e1)
theorem vp_V_gFs (m : gMem) (a : Nat) (tm : List (Option Value)) (j : Nat) : vp_V (gFs m a 0 tm) j = ((tm[j]?).map fun v => v.getD (.int (m.1 a j))).getD .null := by
  show (gFs m a 0 tm).getD j .null = _
  rw [List.getD_eq_getElem?_getD, gFs_get, Nat.zero_add]
theorem j_put0 {idx ci k a : Nat} {tm : List (Option Value)} {ty : FieldType} {x : Int32} {fin : Bool} (hd : decode cc pc = .ok (.putfield idx, 3)) (hq : pc + 3 = q) (hf : gFl y.cls idx ci k) (hp : gPf ci k ty fin) (hfin : fin = false ∨ (y.name = "<init>" ∧ gCn ci y.cls)) (hs : σ a = some (.inl (ci, tm))) (ht : tm[k]? = some none) (hn : narrow ty (.int x) = .int x) (hfit : fits ty (.int x) = true) (kk : gJ E y cc nL ret R F q l st ck cn σ (gW m a k x) hi) : gJ E y cc nL ret R F pc l (.int x :: .ref a :: st) ck cn σ m hi := by
  subst hq
  intro p e s mi args below meth c C H locs ls hR hL hl
  refine gPutW C hR hd hf hp hfin hs hn hfit fun H' sl e2 e3 e4 => ?_
  have hBa := (hR.2.2.2 a _ hs).1
  refine kk p e s mi args below meth c C H' _ ls (hR.upd hs e2 e3 (e4 _ fun j => ?_) (fun q hq => ⟨by funext k'; simp [gW, hq], rfl⟩)) (fun q hq => ?_) hl
  · rw [vp_V_gFs, updV, vp_V_gFs]
    by_cases hj : j = k
    · subst hj
      rw [if_pos rfl, ht]
      simp [gW]
    · rw [if_neg hj, gW_n (fun h => hj h.2)]
  · rcases List.mem_append.mp hq with h | h
    · exact hL q h
    · rw [List.mem_singleton.mp h]; exact hBa
theorem j_puti {idx ci k a : Nat} {tm : List (Option Value)} {x : Int32} (hd : decode cc pc = .ok (.putfield idx, 3)) (hq : pc + 3 = q) (hf : gFl y.cls idx ci k) (hp : gPf ci k .int false) (hs : σ a = some (.inl (ci, tm))) (ht : tm[k]? = some none) (kk : gJ E y cc nL ret R F q l st ck cn σ (gW m a k x) hi) : gJ E y cc nL ret R F pc l (.int x :: .ref a :: st) ck cn σ m hi := j_put0 hd hq hf hp (Or.inl rfl) hs ht (vp_nar_int x) rfl kk
theorem gBoo {x : Int32} (h : x = 0 ∨ x = 1) : narrow .boolean (.int x) = .int x ∧ fits .boolean (.int x) = true := by
  rcases h with rfl | rfl <;> exact ⟨rfl, rfl⟩
theorem j_putz {idx ci k a : Nat} {tm : List (Option Value)} {x : Int32} (hd : decode cc pc = .ok (.putfield idx, 3)) (hq : pc + 3 = q) (hf : gFl y.cls idx ci k) (hp : gPf ci k .boolean false) (hs : σ a = some (.inl (ci, tm))) (ht : tm[k]? = some none) (hx : x = 0 ∨ x = 1) (kk : gJ E y cc nL ret R F q l st ck cn σ (gW m a k x) hi) : gJ E y cc nL ret R F pc l (.int x :: .ref a :: st) ck cn σ m hi := j_put0 hd hq hf hp (Or.inl rfl) hs ht (gBoo hx).1 (gBoo hx).2 kk
/-- a reference is written (a constructor's own field) -/
theorem j_putr {idx ci k a b : Nat} {tm : List (Option Value)} {o : Option Value} {ty : FieldType} {fin : Bool} (hd : decode cc pc = .ok (.putfield idx, 3)) (hq : pc + 3 = q) (hf : gFl y.cls idx ci k) (hp : gPf ci k ty fin) (hfin : fin = false ∨ (y.name = "<init>" ∧ gCn ci y.cls)) (hs : σ a = some (.inl (ci, tm))) (ht : tm[k]? = some o) (hty : (∃ n, ty = .object n) ∨ ∃ t, ty = .array t) (kk : gJ E y cc nL ret R F q l st ck cn (va_up σ a (some (.inl (ci, tm.set k (some (.ref b)))))) m hi) : gJ E y cc nL ret R F pc l (.ref b :: .ref a :: st) ck cn σ m hi := by
  subst hq
  intro p e s mi args below meth c C H locs ls hR hL hl
  have hnf : narrow ty (.ref b) = .ref b ∧ fits ty (.ref b) = true := by rcases hty with ⟨n, rfl⟩ | ⟨t, rfl⟩ <;> exact ⟨rfl, rfl⟩
  refine gPutW C hR hd hf hp hfin hs hnf.1 hnf.2 fun H' sl e2 e3 e4 => ?_
  have hBa := (hR.2.2.2 a _ hs).1
  refine kk p e s mi args below meth c C H' _ ls (hR.set hs e2 e3 (e4 _ fun j => ?_)) (fun q hq => ?_) hl
  · rw [vp_V_gFs, updV, vp_V_gFs]
    by_cases hj : j = k
    · subst hj
      have hlt : j < tm.length := (List.getElem?_eq_some_iff.mp ht).1
      rw [if_pos rfl, List.getElem?_set_self hlt]
      rfl
    · rw [if_neg hj, List.getElem?_set_ne (fun h => hj h.symm)]
  · rcases List.mem_append.mp hq with h | h
    · exact hL q h
    · rw [List.mem_singleton.mp h]; exact hBa
theorem j_iaload {a n j : Nat} {f : Nat → Option Nat} {i : Int32} (hd : decode cc pc = .ok (.iaload, 1)) (hq : pc + 1 = q) (hs : σ a = some (.inr (0, n, f))) (hi' : gIdx i n j) (kk : gJ E y cc nL ret R F q l (.int (m.1 a j) :: st) ck cn σ m hi) : gJ E y cc nL ret R F pc l (.int i :: .ref a :: st) ck cn σ m hi := by
  subst hq
  obtain ⟨h1, rfl⟩ := hi'
  exact fun p e s mi args below meth c C H locs ls hR hL hl => va_iald C.1 C.2.1 C.2.2.2.2.2.2.2.2.1 (gRep.cell hR hs) 0 0 rfl rfl h1 hd (kk p e s mi args below meth c C H locs ls hR hL hl)
theorem j_baload {a n j : Nat} {f : Nat → Option Nat} {i : Int32} (hd : decode cc pc = .ok (.baload, 1)) (hq : pc + 1 = q) (hs : σ a = some (.inr (1, n, f))) (hi' : gIdx i n j) (kk : gJ E y cc nL ret R F q l (.int (m.1 a j) :: st) ck cn σ m hi) : gJ E y cc nL ret R F pc l (.int i :: .ref a :: st) ck cn σ m hi := by
  subst hq
  obtain ⟨h1, rfl⟩ := hi'
  exact fun p e s mi args below meth c C H locs ls hR hL hl => va_bald C.1 C.2.1 C.2.2.2.2.2.2.2.2.1 (gRep.cell hR hs) 0 1 rfl rfl h1 hd (kk p e s mi args below meth c C H locs ls hR hL hl)
theorem j_zaload {a n j : Nat} {f : Nat → Option Nat} {i : Int32} (hd : decode cc pc = .ok (.baload, 1)) (hq : pc + 1 = q) (hs : σ a = some (.inr (2, n, f))) (hi' : gIdx i n j) (kk : gJ E y cc nL ret R F q l (.int (m.1 a j) :: st) ck cn σ m hi) : gJ E y cc nL ret R F pc l (.int i :: .ref a :: st) ck cn σ m hi := by
  subst hq
  obtain ⟨h1, rfl⟩ := hi'
  exact fun p e s mi args below meth c C H locs ls hR hL hl => va_zald C.1 C.2.1 C.2.2.2.2.2.2.2.2.1 (gRep.cell hR hs) 0 2 rfl rfl h1 hd (kk p e s mi args below meth c C H locs ls hR hL hl)
theorem j_laload {a n j : Nat} {f : Nat → Option Nat} {i : Int32} (hd : decode cc pc = .ok (.laload, 1)) (hq : pc + 1 = q) (hs : σ a = some (.inr (3, n, f))) (hi' : gIdx i n j) (kk : gJ E y cc nL ret R F q l (.long (m.2 a j) :: st) ck cn σ m hi) : gJ E y cc nL ret R F pc l (.int i :: .ref a :: st) ck cn σ m hi := by
  subst hq
  obtain ⟨h1, rfl⟩ := hi'
  exact fun p e s mi args below meth c C H locs ls hR hL hl => va_lald C.1 C.2.1 C.2.2.2.2.2.2.2.2.1 (gRep.cell hR hs) 0 3 rfl rfl h1 hd (kk p e s mi args below meth c C H locs ls hR hL hl)
/-- t: 0 rows of Vents, 1 of Grounds, 2 of Sheets -/
theorem j_aaload {a n j t b : Nat} {f : Nat → Option Nat} {i : Int32} (hd : decode cc pc = .ok (.aaload, 1)) (hq : pc + 1 = q) (hs : σ a = some (.inr (t + 4, n, f))) (ht : t < 3) (hi' : gIdx i n j) (hf : f j = some b) (kk : gJ E y cc nL ret R F q l (.ref b :: st) ck cn σ m hi) : gJ E y cc nL ret R F pc l (.int i :: .ref a :: st) ck cn σ m hi := by
  subst hq
  obtain ⟨h1, rfl⟩ := hi'
  intro p e s mi args below meth c C H locs ls hR hL hl
  have k2 := kk p e s mi args below meth c C H locs ls hR hL hl
  have k3 : W p E.1 e R s mi args below meth c H locs ck cn (F below args s) (F0 mi (pc + 1) ls (va_rf (f i.toNatClampNeg) :: st)) := by rw [hf]; exact k2
  match t, ht with
  | 0, _ => exact va_aldq C.1 C.2.1 C.2.2.2.2.2.2.2.2.1 (gRep.cell hR hs) 0 4 rfl rfl h1 hd k3
  | 1, _ => exact va_aldq C.1 C.2.1 C.2.2.2.2.2.2.2.2.1 (gRep.cell hR hs) 0 5 rfl rfl h1 hd k3
  | 2, _ => exact va_aldq C.1 C.2.1 C.2.2.2.2.2.2.2.2.1 (gRep.cell hR hs) 0 6 rfl rfl h1 hd k3
theorem j_alen {a n t : Nat} {f : Nat → Option Nat} {v : Int32} (hd : decode cc pc = .ok (.arraylength, 1)) (hq : pc + 1 = q) (hs : σ a = some (.inr (t, n, f))) (ht : t < 7) (hv : Int32.ofNat n = v) (kk : gJ E y cc nL ret R F q l (.int v :: st) ck cn σ m hi) : gJ E y cc nL ret R F pc l (.ref a :: st) ck cn σ m hi := by
  subst hq
  intro p e s mi args below meth c C H locs ls hR hL hl
  have k2 := kk p e s mi args below meth c C H locs ls hR hL hl
  have hK := C.2.2.2.2.2.2.2.2.1
  match t, ht, hs with
  | 0, _, hs => exact va_alen C.1 C.2.1 hK (gRep.cell hR hs) 0 0 rfl (ty := .int) rfl hv hd k2
  | 1, _, hs => exact va_alen C.1 C.2.1 hK (gRep.cell hR hs) 0 1 rfl (ty := .byte) rfl hv hd k2
  | 2, _, hs => exact va_alen C.1 C.2.1 hK (gRep.cell hR hs) 0 2 rfl (ty := .boolean) rfl hv hd k2
  | 3, _, hs => exact va_alen C.1 C.2.1 hK (gRep.cell hR hs) 0 3 rfl (ty := .long) rfl hv hd k2
  | 4, _, hs => exact va_alen C.1 C.2.1 hK (gRep.cell hR hs) 0 4 rfl (ty := .object RX5) rfl hv hd k2
  | 5, _, hs => exact va_alen C.1 C.2.1 hK (gRep.cell hR hs) 0 5 rfl (ty := .object RX0) rfl hv hd k2
  | 6, _, hs => exact va_alen C.1 C.2.1 hK (gRep.cell hR hs) 0 6 rfl (ty := .object RX3) rfl hv hd k2
theorem j_iastore {a n j : Nat} {f : Nat → Option Nat} {i x : Int32} (hd : decode cc pc = .ok (.iastore, 1)) (hq : pc + 1 = q) (hs : σ a = some (.inr (0, n, f))) (hi' : gIdx i n j) (kk : gJ E y cc nL ret R F q l st ck cn σ (gW m a j x) hi) : gJ E y cc nL ret R F pc l (.int x :: .int i :: .ref a :: st) ck cn σ m hi := by
  subst hq
  obtain ⟨h1, rfl⟩ := hi'
  intro p e s mi args below meth c C H locs ls hR hL hl
  have hK := C.2.2.2.2.2.2.2.2.1
  have hBa := hR.2.2.2 a _ hs
  refine W.iast C.1 C.2.1 hBa.2.2 ((hK.2 0 _ rfl).1 n (fun j => .int (m.1 a j))) (fun q => by cases q) (by show ¬ (i < 0 ∨ (arrV _ _ _).slots.size ≤ _); rw [arrV_size]; exact h1) rfl rfl hd fun H1 e1 z oq => ?_
  refine kk p e s mi args below meth c C H1 _ ls (hR.upd hs z oq ?_ (fun q hq => ⟨by funext k'; simp [gW, hq], rfl⟩)) (fun q hq => ?_) hl
  · show H1[a]? = some (vp_cell _ _)
    rw [e1]
    dsimp only
    rw [vp_cell_i, vp_cell_i, arrV_store]
    congr 2
    funext r
    by_cases hr : r = i.toNatClampNeg
    · subst hr
      simp [updV, gW]
    · simp [updV, gW, hr]
  · rcases List.mem_append.mp hq with h | h
    · exact hL q h
    · rw [List.mem_singleton.mp h]; exact hBa.1
theorem j_bastore {a n j : Nat} {f : Nat → Option Nat} {i x : Int32} (hd : decode cc pc = .ok (.bastore, 1)) (hq : pc + 1 = q) (hs : σ a = some (.inr (1, n, f))) (hi' : gIdx i n j) (kk : gJ E y cc nL ret R F q l st ck cn σ (gW m a j x.toInt8.toInt32) hi) : gJ E y cc nL ret R F pc l (.int x :: .int i :: .ref a :: st) ck cn σ m hi := by
  subst hq
  obtain ⟨h1, rfl⟩ := hi'
  intro p e s mi args below meth c C H locs ls hR hL hl
  have hK := C.2.2.2.2.2.2.2.2.1
  have hBa := hR.2.2.2 a _ hs
  refine W.bast C.1 C.2.1 hBa.2.2 ((hK.2 1 _ rfl).1 n (fun j => .int (m.1 a j))) (fun q => by cases q) (by show ¬ (i < 0 ∨ (arrV _ _ _).slots.size ≤ _); rw [arrV_size]; exact h1) rfl rfl hd fun H1 e1 z oq => ?_
  refine kk p e s mi args below meth c C H1 _ ls (hR.upd hs z oq ?_ (fun q hq => ⟨by funext k'; simp [gW, hq], rfl⟩)) (fun q hq => ?_) hl
  · show H1[a]? = some (vp_cell _ _)
    rw [e1]
    dsimp only
    rw [vp_cell_i, vp_cell_i, arrV_store]
    congr 2
    funext r
    by_cases hr : r = i.toNatClampNeg
    · subst hr
      simp [updV, gW, narrow_byte]
    · simp [updV, gW, hr]
  · rcases List.mem_append.mp hq with h | h
    · exact hL q h
    · rw [List.mem_singleton.mp h]; exact hBa.1
theorem j_zastore {a n j : Nat} {f : Nat → Option Nat} {i x : Int32} (hd : decode cc pc = .ok (.bastore, 1)) (hq : pc + 1 = q) (hs : σ a = some (.inr (2, n, f))) (hi' : gIdx i n j) (hx : x = 0 ∨ x = 1) (kk : gJ E y cc nL ret R F q l st ck cn σ (gW m a j x) hi) : gJ E y cc nL ret R F pc l (.int x :: .int i :: .ref a :: st) ck cn σ m hi := by
  subst hq
  obtain ⟨h1, rfl⟩ := hi'
  intro p e s mi args below meth c C H locs ls hR hL hl
  have hK := C.2.2.2.2.2.2.2.2.1
  have hBa := hR.2.2.2 a _ hs
  refine W.zast C.1 C.2.1 hBa.2.2 ((hK.2 2 _ rfl).1 n (fun j => .int (m.1 a j))) (fun q => by cases q) (by show ¬ (i < 0 ∨ (arrV _ _ _).slots.size ≤ _); rw [arrV_size]; exact h1) rfl rfl hd fun H1 e1 z oq => ?_
  refine kk p e s mi args below meth c C H1 _ ls (hR.upd hs z oq ?_ (fun q hq => ⟨by funext k'; simp [gW, hq], rfl⟩)) (fun q hq => ?_) hl
  · show H1[a]? = some (vp_cell _ _)
    rw [e1]
    dsimp only
    rw [vp_cell_i, vp_cell_i, arrV_store]
    congr 2
    funext r
    by_cases hr : r = i.toNatClampNeg
    · subst hr
      simp [updV, gW, (gBoo hx).1]
    · simp [updV, gW, hr]
  · rcases List.mem_append.mp hq with h | h
    · exact hL q h
    · rw [List.mem_singleton.mp h]; exact hBa.1
theorem j_lastore {a n j : Nat} {f : Nat → Option Nat} {i : Int32} {x : Int64} (hd : decode cc pc = .ok (.lastore, 1)) (hq : pc + 1 = q) (hs : σ a = some (.inr (3, n, f))) (hi' : gIdx i n j) (kk : gJ E y cc nL ret R F q l st ck cn σ (gWl m a j x) hi) : gJ E y cc nL ret R F pc l (.long x :: .int i :: .ref a :: st) ck cn σ m hi := by
  subst hq
  obtain ⟨h1, rfl⟩ := hi'
  intro p e s mi args below meth c C H locs ls hR hL hl
  have hK := C.2.2.2.2.2.2.2.2.1
  have hBa := hR.2.2.2 a _ hs
  refine W.last C.1 C.2.1 hBa.2.2 ((hK.2 3 _ rfl).1 n (fun j => .long (m.2 a j))) (fun q => by cases q) (by show ¬ (i < 0 ∨ (arrV _ _ _).slots.size ≤ _); rw [arrV_size]; exact h1) rfl rfl hd fun H1 e1 z oq => ?_
  refine kk p e s mi args below meth c C H1 _ ls (hR.upd hs z oq ?_ (fun q hq => ⟨rfl, by funext k'; simp [gWl, hq]⟩)) (fun q hq => ?_) hl
  · show H1[a]? = some (vp_cell _ _)
    rw [e1]
    dsimp only
    rw [vp_cell_l, vp_cell_l, arrV_store]
    congr 2
    funext r
    by_cases hr : r = i.toNatClampNeg
    · subst hr
      simp [updV, gWl]
    · simp [updV, gWl, hr]
  · rcases List.mem_append.mp hq with h | h
    · exact hL q h
    · rw [List.mem_singleton.mp h]; exact hBa.1
/-- the law's own script -/
theorem j_sload {i : Int32} (hd : decode cc pc = .ok (.iaload, 1)) (hq : pc + 1 = q) (hin : vp_in i E.2.2.2.2.2.2.2.1) (kk : gJ E y cc nL ret R F q l (.int (E.2.2.2.2.2.2.2.2 i.toNatClampNeg) :: st) ck cn σ m hi) : gJ E y cc nL ret R F pc l (.int i :: .ref E.2.2.2.2.2.2.1 :: st) ck cn σ m hi := by
  subst hq
  intro p e s mi args below meth c C H locs ls hR hL hl
  have hX := C.2.2.2.2.2.2.2.2.2.2.1
  have hb := C.2.2.2.2.2.2.2.2.2.2.2.1
  exact va_sld (A := gA E) (H0 := E.2.2.1) C.1 C.2.1 hX hb (Nat.not_le.mpr hb) ⟨by rw [hR.2.1]; exact hR.1, fun q h1 _ => hR.2.2.1 q h1, hL⟩ hin hd (kk p e s mi args below meth c C H locs ls hR hL hl)
theorem j_slen (hd : decode cc pc = .ok (.arraylength, 1)) (hq : pc + 1 = q) (kk : gJ E y cc nL ret R F q l (.int (Int32.ofNat E.2.2.2.2.2.2.2.1) :: st) ck cn σ m hi) : gJ E y cc nL ret R F pc l (.ref E.2.2.2.2.2.2.1 :: st) ck cn σ m hi := by
  subst hq
  intro p e s mi args below meth c C H locs ls hR hL hl
  have hX := C.2.2.2.2.2.2.2.2.2.2.1
  have hb := C.2.2.2.2.2.2.2.2.2.2.2.1
  exact va_slen (A := gA E) (H0 := E.2.2.1) C.1 C.2.1 hX hb (Nat.not_le.mpr hb) ⟨by rw [hR.2.1]; exact hR.1, fun q h1 _ => hR.2.2.1 q h1, hL⟩ hd (kk p e s mi args below meth c C H locs ls hR hL hl)
/-! returns -/
theorem j_iret {Q : gQT} {mc ms : Nat} {v : Int32} (hF : F = gFn E Q mc ms) (hr : ret = some .int) (hd : decode cc pc = .ok (.ireturn, 1)) (hk : ck ≤ mc ∧ cn ≤ ms) (hQ : Q (some (.int v)) σ m hi) : gJ E y cc nL ret R F pc l [.int v] ck cn σ m hi := by
  subst hF
  intro p e s mi args below meth c C H locs ls hR hL hl
  have hlk : meth.locks = false := C.2.2.2.2.2.2.1
  exact W.widen hk.1 hk.2 (W.iret C.1 C.2.1 (C.2.2.1.trans hr) (fun t ht _ => ⟨_, _, _, _, rfl, hQ, by rw [ht]; exact hR⟩) hL hd hlk)
theorem j_zret {Q : gQT} {mc ms : Nat} {v : Int32} (hF : F = gFn E Q mc ms) (hr : ret = some .boolean) (hd : decode cc pc = .ok (.ireturn, 1)) (hk : ck ≤ mc ∧ cn ≤ ms) (hv : v = 0 ∨ v = 1) (hQ : Q (some (.int v)) σ m hi) : gJ E y cc nL ret R F pc l [.int v] ck cn σ m hi := by
  subst hF
  intro p e s mi args below meth c C H locs ls hR hL hl
  have hlk : meth.locks = false := C.2.2.2.2.2.2.1
  exact W.widen hk.1 hk.2 (W.zret (ty := .boolean) C.1 C.2.1 (C.2.2.1.trans hr) (gBoo hv).1 (fun t ht _ => ⟨_, _, _, _, rfl, hQ, by rw [ht]; exact hR⟩) hL hd hlk)
theorem j_lret {Q : gQT} {mc ms : Nat} {v : Int64} (hF : F = gFn E Q mc ms) (hr : ret = some .long) (hd : decode cc pc = .ok (.lreturn, 1)) (hk : ck ≤ mc ∧ cn ≤ ms) (hQ : Q (some (.long v)) σ m hi) : gJ E y cc nL ret R F pc l [.long v] ck cn σ m hi := by
  subst hF
  intro p e s mi args below meth c C H locs ls hR hL hl
  have hlk : meth.locks = false := C.2.2.2.2.2.2.1
  exact W.widen hk.1 hk.2 (W.lret C.1 C.2.1 (C.2.2.1.trans hr) (fun t ht _ => ⟨_, _, _, _, rfl, hQ, by rw [ht]; exact hR⟩) hL hd hlk)
theorem j_vret {Q : gQT} {mc ms : Nat} (hF : F = gFn E Q mc ms) (hr : ret = none) (hd : decode cc pc = .ok (.return_, 1)) (hk : ck ≤ mc ∧ cn ≤ ms) (hQ : Q none σ m hi) : gJ E y cc nL ret R F pc l [] ck cn σ m hi := by
  subst hF
  intro p e s mi args below meth c C H locs ls hR hL hl
  have hlk : meth.locks = false := C.2.2.2.2.2.2.1
  exact W.widen hk.1 hk.2 (W.vret C.1 C.2.1 (C.2.2.1.trans hr) (fun t ht _ => ⟨_, _, _, _, rfl, hQ, by rw [ht]; exact hR⟩) hL hd hlk)
theorem j_aret {Q : gQT} {mc ms a : Nat} {n : String} (hF : F = gFn E Q mc ms) (hr : ret = some (.object n)) (hd : decode cc pc = .ok (.areturn, 1)) (hk : ck ≤ mc ∧ cn ≤ ms) (hQ : Q (some (.ref a)) σ m hi) : gJ E y cc nL ret R F pc l [.ref a] ck cn σ m hi := by
  subst hF
  intro p e s mi args below meth c C H locs ls hR hL hl
  have hlk : meth.locks = false := C.2.2.2.2.2.2.1
  exact W.widen hk.1 hk.2 (W.aret C.1 C.2.1 (C.2.2.1.trans hr) (Or.inl ⟨n, rfl⟩) (Or.inr ⟨a, rfl⟩) (fun t ht _ => ⟨_, _, _, _, rfl, hQ, by rw [ht]; exact hR⟩) hL hd hlk)
/-! calls -/
theorem gGood (y' : MethodName) (cc' : ByteArray) (nL' : Nat) (ret' : Option FieldType) {n : Nat} (hw : gMw y' cc' nL' ret' n) : GoodIn gT (Cond.code y' cc' nL' ret' :: gT) := by
  intro w h
  rcases List.mem_cons.mp h with rfl | h
  · exact ⟨hw.1, good_of_word (gT_good _ hw.1)⟩
  · exact ⟨h, good_of_word (gT_good _ h)⟩
theorem gBlind {As : List Value} : FrameBlind (va_Pc As (fun U => gRep E σ m hi U.heap ∧ gK E U)) := by
  intro a U g mk h
  obtain ⟨h1, h2, h3⟩ := h
  exact ⟨h1, h2, gK.same (s := U) rfl h3⟩
/-- what a call leaves: the rest of the walk -/
theorem gCallW {p : Program} {e : Env} {s : State} {mi : MethodId} {args : Array Value} {below : List Frame} {meth : Method} {c : Code} {H : Heap} {locs : List Loc} {ls : Array Slot} {mc ms : Nat} {Q : gQT} {a : Array Value} {st0 st : List Value} {G : State → Prop} (hL : ∀ q ∈ locs, gB E ≤ q.base) (hr : va_Run p E.1 e R s mi args below meth c H locs ck cn mc ms (F0 mi pc ls st0) st (gQc E Q a) (gA E))
    (kk : ∀ (v : Option Value) (σ' : gSg) (m' : gMem) (hi' : Nat), Q v σ' m' hi' → ∀ (H1 : Heap) (locs1 : List Loc), gRep E σ' m' hi' H1 → (∀ q ∈ locs1, gB E ≤ q.base) → W p E.1 e R s mi args below meth c H1 locs1 (ck + mc) (cn + ms) G (F0 mi (pc + 3) ls (v.toList ++ st))) : W p E.1 e R s mi args below meth c H locs ck cn G (F0 mi pc ls st0) := by
  intro T hT X
  obtain ⟨v, st₀, t, T', L, h0, X', hL2, e1, e2, ⟨v', σ', m', hi', hv, hQ, hRp⟩, st1⟩ := hr T hT X
  cases hv
  obtain ⟨t2, a1, b1⟩ := kk v σ' m' hi' hQ T'.heap (locs ++ L) (by rw [e1]; exact hRp) (fun q hq => by
    rcases List.mem_append.mp hq with h | h
    · exact hL q h
    · exact hL2 q h) T' rfl X'
  exact ⟨t2, st1 t2 a1, b1⟩
def gFit (R : Room) (nL' d mc ms ck cn : Nat) : Prop := (d + 1 ≤ R.frames ∧ 8 + (nL' + 11) + 40 * d ≤ R.locals) ∧ ck + mc ≤ R.cells ∧ cn + ms ≤ R.slots
theorem j_callV {idx ci b nL' n' d mc ms : Nat} {y' : MethodName} {cc' : ByteArray} {ret' : Option FieldType} {As st0 : List Value} {tm : List (Option Value)} {Q : gQT} (hd : decode cc pc = .ok (.invokevirtual idx, 3)) (hq : pc + 3 = q) (hl : Cond.methodLink y.cls idx y' ∈ gT) (hw : gMw y' cc' nL' ret' n') (hv : gMv y') (hc : gCn ci y'.cls) (hs : σ b = some (.inl (ci, tm))) (hst : st0 = As.reverse ++ .ref b :: st) (hn : As.length = n') (hsum : (st.map fun v => v.category).sum ≤ 8) (hf : gFit R nL' d mc ms ck cn) (hM : gCt E y' cc' nL' ret' d mc ms (.ref b :: As) σ m hi Q)
    (kk : ∀ (v : Option Value) (σ' : gSg) (m' : gMem) (hi' : Nat), Q v σ' m' hi' → gJ E y cc nL ret R F q l (v.toList ++ st) (ck + mc) (cn + ms) σ' m' hi') : gJ E y cc nL ret R F pc l st0 ck cn σ m hi := by
  subst hq
  intro p e s mi args below meth c C H locs ls hR hL hls
  have hts := C.2.2.2.2.2.1
  have hK := C.2.2.2.2.2.2.2.2.1
  obtain ⟨T, N, hcl⟩ := hc
  obtain ⟨cell, c1, c2, c3⟩ := va_recv (q0 := 0) hK (gRep.cell hR hs) hcl rfl
  refine gCallW (a := (Value.ref b :: As).toArray) (st := st) hL (va_runV (C := y'.cls) (b := b) (As := As) (rest := st) (cc := cc) (nL := nL) (own := y.cls) (Ts := gT) ⟨C.1, C.2.1, C.2.2.2.1, C.2.2.2.2.1, hts⟩ hM ⟨callB_of n' hts (gGood y' cc' nL' ret' hw) rfl rfl rfl (hts _ hw.2.1) (hts _ hl) hw.2.2.1 hf.1, hts _ hv.1, hts _ hv.2⟩ ⟨gBlind, ⟨cell, c1, c2, c3⟩, fun U hU hW => ⟨rfl, by rw [hU]; exact hR, gK.warm hW C.2.2.2.2.2.2.2.2⟩⟩ rfl hn hls.1 hst (lv_room hsum) hd hf.2) ?_
  intro v σ' m' hi' hQ H1 locs1 hR1 hL1
  exact kk v σ' m' hi' hQ p e s mi args below meth c C H1 locs1 ls hR1 hL1 hls
theorem j_callS {idx nL' n' d mc ms : Nat} {y' : MethodName} {cc' : ByteArray} {ret' : Option FieldType} {As st0 : List Value} {Q : gQT} (hd : decode cc pc = .ok (.invokestatic idx, 3)) (hq : pc + 3 = q) (hl : Cond.methodLink y.cls idx y' ∈ gT) (hw : gMw y' cc' nL' ret' n') (hv : gMs y') (hst : st0 = As.reverse ++ st) (hn : As.length = n') (hsum : (st.map fun v => v.category).sum ≤ 8) (hf : gFit R nL' d mc ms ck cn) (hM : gCt E y' cc' nL' ret' d mc ms As σ m hi Q)
    (kk : ∀ (v : Option Value) (σ' : gSg) (m' : gMem) (hi' : Nat), Q v σ' m' hi' → gJ E y cc nL ret R F q l (v.toList ++ st) (ck + mc) (cn + ms) σ' m' hi') : gJ E y cc nL ret R F pc l st0 ck cn σ m hi := by
  subst hq
  intro p e s mi args below meth c C H locs ls hR hL hls
  have hts := C.2.2.2.2.2.1
  refine gCallW (a := As.toArray) (st := st) hL (va_runS (As := As) (rest := st) (cc := cc) (nL := nL) (own := y.cls) (Ts := gT) ⟨C.1, C.2.1, C.2.2.2.1, C.2.2.2.2.1, hts⟩ hM ⟨callB_of n' hts (gGood y' cc' nL' ret' hw) rfl rfl rfl (hts _ hw.2.1) (hts _ hl) hw.2.2.1 hf.1, hts _ hv⟩ ⟨gBlind, fun U hU hW => ⟨rfl, by rw [hU]; exact hR, gK.warm hW C.2.2.2.2.2.2.2.2⟩⟩ rfl hn hls.1 hst (lv_room hsum) hd hf.2) ?_
  intro v σ' m' hi' hQ H1 locs1 hR1 hL1
  exact kk v σ' m' hi' hQ p e s mi args below meth c C H1 locs1 ls hR1 hL1 hls
/-- of a nest mate -/
theorem j_callSN {idx nL' n' d mc ms : Nat} {host : String} {y' : MethodName} {cc' : ByteArray} {ret' : Option FieldType} {As st0 : List Value} {Q : gQT} (hd : decode cc pc = .ok (.invokestatic idx, 3)) (hq : pc + 3 = q) (hl : Cond.methodLinkNest y.cls idx y' host ∈ gNest) (hw : gMw y' cc' nL' ret' n') (hv : gMs y') (hst : st0 = As.reverse ++ st) (hn : As.length = n') (hsum : (st.map fun v => v.category).sum ≤ 8) (hf : gFit R nL' d mc ms ck cn) (hM : gCt E y' cc' nL' ret' d mc ms As σ m hi Q)
    (kk : ∀ (v : Option Value) (σ' : gSg) (m' : gMem) (hi' : Nat), Q v σ' m' hi' → gJ E y cc nL ret R F q l (v.toList ++ st) (ck + mc) (cn + ms) σ' m' hi') : gJ E y cc nL ret R F pc l st0 ck cn σ m hi := by
  subst hq
  intro p e s mi args below meth c C H locs ls hR hL hls
  have hts := C.2.2.2.2.2.1
  refine gCallW (a := As.toArray) (st := st) hL (va_runSN (As := As) (rest := st) (cc := cc) (nL := nL) (own := y.cls) (Ts := gT) ⟨C.1, C.2.1, C.2.2.2.1, C.2.2.2.2.1, hts⟩ hM ⟨va_cnB n' hts (gGood y' cc' nL' ret' hw) rfl rfl rfl (C.2.2.2.2.2.2.2.2.2.2.2.2.1 _ hl) (hts _ hw.2.1) hw.2.2.1 hf.1, hts _ hv, trivial⟩ ⟨gBlind, fun U hU hW => ⟨rfl, by rw [hU]; exact hR, gK.warm hW C.2.2.2.2.2.2.2.2⟩⟩ rfl hn hls.1 hst (lv_room hsum) hd hf.2) ?_
  intro v σ' m' hi' hQ H1 locs1 hR1 hL1
  exact kk v σ' m' hi' hQ p e s mi args below meth c C H1 locs1 ls hR1 hL1 hls
theorem j_callI {idx b nL' n' d mc ms : Nat} {y' : MethodName} {cc' : ByteArray} {As st0 : List Value} {Q : gQT} (hd : decode cc pc = .ok (.invokespecial idx, 3)) (hq : pc + 3 = q) (hl : Cond.methodLink y.cls idx y' ∈ gT) (hw : gMw y' cc' nL' none n') (hv : gMi y') (hst : st0 = As.reverse ++ .ref b :: st) (hn : As.length = n') (hsum : (st.map fun v => v.category).sum ≤ 8) (hf : gFit R nL' d mc ms ck cn) (hM : gCt E y' cc' nL' none d mc ms (.ref b :: As) σ m hi Q)
    (kk : ∀ (v : Option Value) (σ' : gSg) (m' : gMem) (hi' : Nat), Q v σ' m' hi' → gJ E y cc nL ret R F q l (v.toList ++ st) (ck + mc) (cn + ms) σ' m' hi') : gJ E y cc nL ret R F pc l st0 ck cn σ m hi := by
  subst hq
  intro p e s mi args below meth c C H locs ls hR hL hls
  have hts := C.2.2.2.2.2.1
  refine gCallW (a := (Value.ref b :: As).toArray) (st := st) hL (va_runI (b := b) (As := As) (rest := st) (cc := cc) (nL := nL) (own := y.cls) (Ts := gT) ⟨C.1, C.2.1, C.2.2.2.1, C.2.2.2.2.1, hts⟩ hM ⟨callB_of n' hts (gGood y' cc' nL' none hw) rfl rfl rfl (hts _ hw.2.1) (hts _ hl) hw.2.2.1 hf.1, hv.1, hts _ hv.2⟩ ⟨gBlind, fun U hU hW => ⟨rfl, by rw [hU]; exact hR, gK.warm hW C.2.2.2.2.2.2.2.2⟩⟩ rfl hn hls.1 hst (lv_room hsum) hd hf.2) ?_
  intro v σ' m' hi' hQ H1 locs1 hR1 hL1
  exact kk v σ' m' hi' hQ p e s mi args below meth c C H1 locs1 ls hR1 hL1 hls
theorem j_callIN {idx b nL' n' d mc ms : Nat} {host : String} {y' : MethodName} {cc' : ByteArray} {As st0 : List Value} {Q : gQT} (hd : decode cc pc = .ok (.invokespecial idx, 3)) (hq : pc + 3 = q) (hl : Cond.methodLinkNest y.cls idx y' host ∈ gNest) (hw : gMw y' cc' nL' none n') (hv : gMi y') (hst : st0 = As.reverse ++ .ref b :: st) (hn : As.length = n') (hsum : (st.map fun v => v.category).sum ≤ 8) (hf : gFit R nL' d mc ms ck cn) (hM : gCt E y' cc' nL' none d mc ms (.ref b :: As) σ m hi Q)
    (kk : ∀ (v : Option Value) (σ' : gSg) (m' : gMem) (hi' : Nat), Q v σ' m' hi' → gJ E y cc nL ret R F q l (v.toList ++ st) (ck + mc) (cn + ms) σ' m' hi') : gJ E y cc nL ret R F pc l st0 ck cn σ m hi := by
  subst hq
  intro p e s mi args below meth c C H locs ls hR hL hls
  have hts := C.2.2.2.2.2.1
  refine gCallW (a := (Value.ref b :: As).toArray) (st := st) hL (va_runIN (b := b) (As := As) (rest := st) (cc := cc) (nL := nL) (own := y.cls) (Ts := gT) ⟨C.1, C.2.1, C.2.2.2.1, C.2.2.2.2.1, hts⟩ hM ⟨va_cnB n' hts (gGood y' cc' nL' none hw) rfl rfl rfl (C.2.2.2.2.2.2.2.2.2.2.2.2.1 _ hl) (hts _ hw.2.1) hw.2.2.1 hf.1, hv.1, hts _ hv.2⟩ ⟨gBlind, fun U hU hW => ⟨rfl, by rw [hU]; exact hR, gK.warm hW C.2.2.2.2.2.2.2.2⟩⟩ rfl hn hls.1 hst (lv_room hsum) hd hf.2) ?_
  intro v σ' m' hi' hQ H1 locs1 hR1 hL1
  exact kk v σ' m' hi' hQ p e s mi args below meth c C H1 locs1 ls hR1 hL1 hls
theorem j_objInit {idx a : Nat} (hd : decode cc pc = .ok (.invokespecial idx, 3)) (hq : pc + 3 = q) (hlk : Cond.methodLink y.cls idx objectInit ∈ gT) (hf : 1 ≤ R.frames ∧ (st.map fun v => v.category).sum + 12 ≤ R.locals) (kk : gJ E y cc nL ret R F q l st ck cn σ m hi) : gJ E y cc nL ret R F pc l (.ref a :: st) ck cn σ m hi := by
  subst hq
  intro p e s mi args below meth c C H locs ls hR hL hl
  have hts := C.2.2.2.2.2.1
  exact W.objInit C.1 C.2.1 C.2.2.2.2.1 (hts _ hlk) (hts _ w_objI) (hts _ w_objC) rfl (by rw [C.2.2.2.1]; exact hl.1) rfl hd hf.1 (by show 2 * 0 + _ + 12 ≤ _; rw [Nat.mul_zero, Nat.zero_add]; exact hf.2) (kk p e s mi args below meth c C H locs ls hR hL hl)
end GH
/-! contracts of methods that make nothing -/
def gQo (σ : gSg) (hi : Nat) (P : Option Value → gMem → Prop) : gQT := fun v σ' m' hi' => σ' = σ ∧ hi' = hi ∧ P v m'
def gCo (E : gEv) (y : MethodName) (cc : ByteArray) (nL : Nat) (ret : Option FieldType) (d : Nat) (As : List Value) (σ : gSg) (m : gMem) (hi : Nat) (P : Option Value → gMem → Prop) : Prop := gCt E y cc nL ret d 0 0 As σ m hi (gQo σ hi P)
/-- exactly this answer, this memory -/
abbrev gX (v : Option Value) (m1 : gMem) : Option Value → gMem → Prop := fun v' m' => v' = v ∧ m' = m1
theorem gCo.of {E : gEv} {y : MethodName} {cc : ByteArray} {nL n : Nat} {ret : Option FieldType} {d : Nat} {As : List Value} {σ : gSg} {m : gMem} {hi : Nat} {P : Option Value → gMem → Prop} (hw : gMw y cc nL ret n) (hn : (lg_sl As).length ≤ nL)
    (h : ∀ F : gFT, F = gFn E (gQo σ hi P) 0 0 → gJ E y cc nL ret (gRm d 0 0) F 0 (gPad nL (gAr As)) [] 0 0 σ m hi) : gCo E y cc nL ret d As σ m hi P := gCt.of hw hn h
section GO
variable {E : gEv} {y : MethodName} {cc : ByteArray} {nL : Nat} {ret : Option FieldType} {F : gFT} {pc q : Nat} {l : List (Option Value)} {st : List Value} {σ : gSg} {m : gMem} {hi d : Nat} {P : Option Value → gMem → Prop}
theorem o_iret {v : Int32} (hF : F = gFn E (gQo σ hi P) 0 0) (hr : ret = some .int) (hd : decode cc pc = .ok (.ireturn, 1)) (hP : P (some (.int v)) m) : gJ E y cc nL ret (gRm d 0 0) F pc l [.int v] 0 0 σ m hi := j_iret hF hr hd ⟨Nat.le_refl 0, Nat.le_refl 0⟩ ⟨rfl, rfl, hP⟩
theorem o_zret {v : Int32} (hF : F = gFn E (gQo σ hi P) 0 0) (hr : ret = some .boolean) (hd : decode cc pc = .ok (.ireturn, 1)) (hv : v = 0 ∨ v = 1) (hP : P (some (.int v)) m) : gJ E y cc nL ret (gRm d 0 0) F pc l [.int v] 0 0 σ m hi := j_zret hF hr hd ⟨Nat.le_refl 0, Nat.le_refl 0⟩ hv ⟨rfl, rfl, hP⟩
theorem o_lret {v : Int64} (hF : F = gFn E (gQo σ hi P) 0 0) (hr : ret = some .long) (hd : decode cc pc = .ok (.lreturn, 1)) (hP : P (some (.long v)) m) : gJ E y cc nL ret (gRm d 0 0) F pc l [.long v] 0 0 σ m hi := j_lret hF hr hd ⟨Nat.le_refl 0, Nat.le_refl 0⟩ ⟨rfl, rfl, hP⟩
theorem o_vret (hF : F = gFn E (gQo σ hi P) 0 0) (hr : ret = none) (hd : decode cc pc = .ok (.return_, 1)) (hP : P none m) : gJ E y cc nL ret (gRm d 0 0) F pc l [] 0 0 σ m hi := j_vret hF hr hd ⟨Nat.le_refl 0, Nat.le_refl 0⟩ ⟨rfl, rfl, hP⟩
theorem o_aret {a : Nat} {n : String} (hF : F = gFn E (gQo σ hi P) 0 0) (hr : ret = some (.object n)) (hd : decode cc pc = .ok (.areturn, 1)) (hP : P (some (.ref a)) m) : gJ E y cc nL ret (gRm d 0 0) F pc l [.ref a] 0 0 σ m hi := j_aret hF hr hd ⟨Nat.le_refl 0, Nat.le_refl 0⟩ ⟨rfl, rfl, hP⟩
theorem gFit.o {d d' nL' : Nat} (h : d' + 1 ≤ d) (hn : nL' ≤ 20) : gFit (gRm d 0 0) nL' d' 0 0 0 0 := ⟨⟨h, by show _ ≤ 40 * d; omega⟩, Nat.le_refl 0, Nat.le_refl 0⟩
theorem o_callVi {idx ci b nL' n' d' : Nat} {y' : MethodName} {cc' : ByteArray} {ret' : Option FieldType} {As st0 : List Value} {tm : List (Option Value)} {r : Int32} {m1 : gMem} (hd : decode cc pc = .ok (.invokevirtual idx, 3)) (hq : pc + 3 = q) (hl : Cond.methodLink y.cls idx y' ∈ gT) (hw : gMw y' cc' nL' ret' n') (hv : gMv y') (hc : gCn ci y'.cls) (hs : σ b = some (.inl (ci, tm))) (hst : st0 = As.reverse ++ .ref b :: st) (hn : As.length = n') (hsum : (st.map fun v => v.category).sum ≤ 8) (hf : d' + 1 ≤ d) (hM : gCo E y' cc' nL' ret' d' (.ref b :: As) σ m hi (gX (some (.int r)) m1)) (kk : gJ E y cc nL ret (gRm d 0 0) F q l (.int r :: st) 0 0 σ m1 hi) : gJ E y cc nL ret (gRm d 0 0) F pc l st0 0 0 σ m hi := by
  refine j_callV hd hq hl hw hv hc hs hst hn hsum (gFit.o hf hw.2.2.2.2) hM ?_
  rintro v σ' m' hi' ⟨rfl, rfl, rfl, rfl⟩
  exact kk
theorem o_callVl {idx ci b nL' n' d' : Nat} {y' : MethodName} {cc' : ByteArray} {ret' : Option FieldType} {As st0 : List Value} {tm : List (Option Value)} {r : Int64} {m1 : gMem} (hd : decode cc pc = .ok (.invokevirtual idx, 3)) (hq : pc + 3 = q) (hl : Cond.methodLink y.cls idx y' ∈ gT) (hw : gMw y' cc' nL' ret' n') (hv : gMv y') (hc : gCn ci y'.cls) (hs : σ b = some (.inl (ci, tm))) (hst : st0 = As.reverse ++ .ref b :: st) (hn : As.length = n') (hsum : (st.map fun v => v.category).sum ≤ 8) (hf : d' + 1 ≤ d) (hM : gCo E y' cc' nL' ret' d' (.ref b :: As) σ m hi (gX (some (.long r)) m1)) (kk : gJ E y cc nL ret (gRm d 0 0) F q l (.long r :: st) 0 0 σ m1 hi) : gJ E y cc nL ret (gRm d 0 0) F pc l st0 0 0 σ m hi := by
  refine j_callV hd hq hl hw hv hc hs hst hn hsum (gFit.o hf hw.2.2.2.2) hM ?_
  rintro v σ' m' hi' ⟨rfl, rfl, rfl, rfl⟩
  exact kk
theorem o_callVv {idx ci b nL' n' d' : Nat} {y' : MethodName} {cc' : ByteArray} {ret' : Option FieldType} {As st0 : List Value} {tm : List (Option Value)}  {m1 : gMem} (hd : decode cc pc = .ok (.invokevirtual idx, 3)) (hq : pc + 3 = q) (hl : Cond.methodLink y.cls idx y' ∈ gT) (hw : gMw y' cc' nL' ret' n') (hv : gMv y') (hc : gCn ci y'.cls) (hs : σ b = some (.inl (ci, tm))) (hst : st0 = As.reverse ++ .ref b :: st) (hn : As.length = n') (hsum : (st.map fun v => v.category).sum ≤ 8) (hf : d' + 1 ≤ d) (hM : gCo E y' cc' nL' ret' d' (.ref b :: As) σ m hi (gX (none) m1)) (kk : gJ E y cc nL ret (gRm d 0 0) F q l (st) 0 0 σ m1 hi) : gJ E y cc nL ret (gRm d 0 0) F pc l st0 0 0 σ m hi := by
  refine j_callV hd hq hl hw hv hc hs hst hn hsum (gFit.o hf hw.2.2.2.2) hM ?_
  rintro v σ' m' hi' ⟨rfl, rfl, rfl, rfl⟩
  exact kk
theorem o_callVa {idx ci b nL' n' d' : Nat} {y' : MethodName} {cc' : ByteArray} {ret' : Option FieldType} {As st0 : List Value} {tm : List (Option Value)} {r : Nat} {m1 : gMem} (hd : decode cc pc = .ok (.invokevirtual idx, 3)) (hq : pc + 3 = q) (hl : Cond.methodLink y.cls idx y' ∈ gT) (hw : gMw y' cc' nL' ret' n') (hv : gMv y') (hc : gCn ci y'.cls) (hs : σ b = some (.inl (ci, tm))) (hst : st0 = As.reverse ++ .ref b :: st) (hn : As.length = n') (hsum : (st.map fun v => v.category).sum ≤ 8) (hf : d' + 1 ≤ d) (hM : gCo E y' cc' nL' ret' d' (.ref b :: As) σ m hi (gX (some (.ref r)) m1)) (kk : gJ E y cc nL ret (gRm d 0 0) F q l (.ref r :: st) 0 0 σ m1 hi) : gJ E y cc nL ret (gRm d 0 0) F pc l st0 0 0 σ m hi := by
  refine j_callV hd hq hl hw hv hc hs hst hn hsum (gFit.o hf hw.2.2.2.2) hM ?_
  rintro v σ' m' hi' ⟨rfl, rfl, rfl, rfl⟩
  exact kk
theorem o_callVx {idx ci b nL' n' d' : Nat} {y' : MethodName} {cc' : ByteArray} {ret' : Option FieldType} {As st0 : List Value} {tm : List (Option Value)} {P' : Option Value → gMem → Prop} (hd : decode cc pc = .ok (.invokevirtual idx, 3)) (hq : pc + 3 = q) (hl : Cond.methodLink y.cls idx y' ∈ gT) (hw : gMw y' cc' nL' ret' n') (hv : gMv y') (hc : gCn ci y'.cls) (hs : σ b = some (.inl (ci, tm))) (hst : st0 = As.reverse ++ .ref b :: st) (hn : As.length = n') (hsum : (st.map fun v => v.category).sum ≤ 8) (hf : d' + 1 ≤ d) (hM : gCo E y' cc' nL' ret' d' (.ref b :: As) σ m hi P') (kk : ∀ (v : Option Value) (m1 : gMem), P' v m1 → gJ E y cc nL ret (gRm d 0 0) F q l (v.toList ++ st) 0 0 σ m1 hi) : gJ E y cc nL ret (gRm d 0 0) F pc l st0 0 0 σ m hi := by
  refine j_callV hd hq hl hw hv hc hs hst hn hsum (gFit.o hf hw.2.2.2.2) hM ?_
  rintro v σ' m' hi' ⟨rfl, rfl, h⟩
  exact kk v m' h
theorem o_callSi {idx nL' n' d' : Nat} {y' : MethodName} {cc' : ByteArray} {ret' : Option FieldType} {As st0 : List Value} {r : Int32} {m1 : gMem} (hd : decode cc pc = .ok (.invokestatic idx, 3)) (hq : pc + 3 = q) (hl : Cond.methodLink y.cls idx y' ∈ gT) (hw : gMw y' cc' nL' ret' n') (hv : gMs y') (hst : st0 = As.reverse ++ st) (hn : As.length = n') (hsum : (st.map fun v => v.category).sum ≤ 8) (hf : d' + 1 ≤ d) (hM : gCo E y' cc' nL' ret' d' (As) σ m hi (gX (some (.int r)) m1)) (kk : gJ E y cc nL ret (gRm d 0 0) F q l (.int r :: st) 0 0 σ m1 hi) : gJ E y cc nL ret (gRm d 0 0) F pc l st0 0 0 σ m hi := by
  refine j_callS hd hq hl hw hv hst hn hsum (gFit.o hf hw.2.2.2.2) hM ?_
  rintro v σ' m' hi' ⟨rfl, rfl, rfl, rfl⟩
  exact kk
theorem o_callSl {idx nL' n' d' : Nat} {y' : MethodName} {cc' : ByteArray} {ret' : Option FieldType} {As st0 : List Value} {r : Int64} {m1 : gMem} (hd : decode cc pc = .ok (.invokestatic idx, 3)) (hq : pc + 3 = q) (hl : Cond.methodLink y.cls idx y' ∈ gT) (hw : gMw y' cc' nL' ret' n') (hv : gMs y') (hst : st0 = As.reverse ++ st) (hn : As.length = n') (hsum : (st.map fun v => v.category).sum ≤ 8) (hf : d' + 1 ≤ d) (hM : gCo E y' cc' nL' ret' d' (As) σ m hi (gX (some (.long r)) m1)) (kk : gJ E y cc nL ret (gRm d 0 0) F q l (.long r :: st) 0 0 σ m1 hi) : gJ E y cc nL ret (gRm d 0 0) F pc l st0 0 0 σ m hi := by
  refine j_callS hd hq hl hw hv hst hn hsum (gFit.o hf hw.2.2.2.2) hM ?_
  rintro v σ' m' hi' ⟨rfl, rfl, rfl, rfl⟩
  exact kk
theorem o_callSv {idx nL' n' d' : Nat} {y' : MethodName} {cc' : ByteArray} {ret' : Option FieldType} {As st0 : List Value}  {m1 : gMem} (hd : decode cc pc = .ok (.invokestatic idx, 3)) (hq : pc + 3 = q) (hl : Cond.methodLink y.cls idx y' ∈ gT) (hw : gMw y' cc' nL' ret' n') (hv : gMs y') (hst : st0 = As.reverse ++ st) (hn : As.length = n') (hsum : (st.map fun v => v.category).sum ≤ 8) (hf : d' + 1 ≤ d) (hM : gCo E y' cc' nL' ret' d' (As) σ m hi (gX (none) m1)) (kk : gJ E y cc nL ret (gRm d 0 0) F q l (st) 0 0 σ m1 hi) : gJ E y cc nL ret (gRm d 0 0) F pc l st0 0 0 σ m hi := by
  refine j_callS hd hq hl hw hv hst hn hsum (gFit.o hf hw.2.2.2.2) hM ?_
  rintro v σ' m' hi' ⟨rfl, rfl, rfl, rfl⟩
  exact kk
theorem o_callSa {idx nL' n' d' : Nat} {y' : MethodName} {cc' : ByteArray} {ret' : Option FieldType} {As st0 : List Value} {r : Nat} {m1 : gMem} (hd : decode cc pc = .ok (.invokestatic idx, 3)) (hq : pc + 3 = q) (hl : Cond.methodLink y.cls idx y' ∈ gT) (hw : gMw y' cc' nL' ret' n') (hv : gMs y') (hst : st0 = As.reverse ++ st) (hn : As.length = n') (hsum : (st.map fun v => v.category).sum ≤ 8) (hf : d' + 1 ≤ d) (hM : gCo E y' cc' nL' ret' d' (As) σ m hi (gX (some (.ref r)) m1)) (kk : gJ E y cc nL ret (gRm d 0 0) F q l (.ref r :: st) 0 0 σ m1 hi) : gJ E y cc nL ret (gRm d 0 0) F pc l st0 0 0 σ m hi := by
  refine j_callS hd hq hl hw hv hst hn hsum (gFit.o hf hw.2.2.2.2) hM ?_
  rintro v σ' m' hi' ⟨rfl, rfl, rfl, rfl⟩
  exact kk
theorem o_callSx {idx nL' n' d' : Nat} {y' : MethodName} {cc' : ByteArray} {ret' : Option FieldType} {As st0 : List Value} {P' : Option Value → gMem → Prop} (hd : decode cc pc = .ok (.invokestatic idx, 3)) (hq : pc + 3 = q) (hl : Cond.methodLink y.cls idx y' ∈ gT) (hw : gMw y' cc' nL' ret' n') (hv : gMs y') (hst : st0 = As.reverse ++ st) (hn : As.length = n') (hsum : (st.map fun v => v.category).sum ≤ 8) (hf : d' + 1 ≤ d) (hM : gCo E y' cc' nL' ret' d' (As) σ m hi P') (kk : ∀ (v : Option Value) (m1 : gMem), P' v m1 → gJ E y cc nL ret (gRm d 0 0) F q l (v.toList ++ st) 0 0 σ m1 hi) : gJ E y cc nL ret (gRm d 0 0) F pc l st0 0 0 σ m hi := by
  refine j_callS hd hq hl hw hv hst hn hsum (gFit.o hf hw.2.2.2.2) hM ?_
  rintro v σ' m' hi' ⟨rfl, rfl, h⟩
  exact kk v m' h
theorem o_callSNi {idx nL' n' d' : Nat} {host : String} {y' : MethodName} {cc' : ByteArray} {ret' : Option FieldType} {As st0 : List Value} {r : Int32} {m1 : gMem} (hd : decode cc pc = .ok (.invokestatic idx, 3)) (hq : pc + 3 = q) (hl : Cond.methodLinkNest y.cls idx y' host ∈ gNest) (hw : gMw y' cc' nL' ret' n') (hv : gMs y') (hst : st0 = As.reverse ++ st) (hn : As.length = n') (hsum : (st.map fun v => v.category).sum ≤ 8) (hf : d' + 1 ≤ d) (hM : gCo E y' cc' nL' ret' d' (As) σ m hi (gX (some (.int r)) m1)) (kk : gJ E y cc nL ret (gRm d 0 0) F q l (.int r :: st) 0 0 σ m1 hi) : gJ E y cc nL ret (gRm d 0 0) F pc l st0 0 0 σ m hi := by
  refine j_callSN hd hq hl hw hv hst hn hsum (gFit.o hf hw.2.2.2.2) hM ?_
  rintro v σ' m' hi' ⟨rfl, rfl, rfl, rfl⟩
  exact kk
theorem o_callSNl {idx nL' n' d' : Nat} {host : String} {y' : MethodName} {cc' : ByteArray} {ret' : Option FieldType} {As st0 : List Value} {r : Int64} {m1 : gMem} (hd : decode cc pc = .ok (.invokestatic idx, 3)) (hq : pc + 3 = q) (hl : Cond.methodLinkNest y.cls idx y' host ∈ gNest) (hw : gMw y' cc' nL' ret' n') (hv : gMs y') (hst : st0 = As.reverse ++ st) (hn : As.length = n') (hsum : (st.map fun v => v.category).sum ≤ 8) (hf : d' + 1 ≤ d) (hM : gCo E y' cc' nL' ret' d' (As) σ m hi (gX (some (.long r)) m1)) (kk : gJ E y cc nL ret (gRm d 0 0) F q l (.long r :: st) 0 0 σ m1 hi) : gJ E y cc nL ret (gRm d 0 0) F pc l st0 0 0 σ m hi := by
  refine j_callSN hd hq hl hw hv hst hn hsum (gFit.o hf hw.2.2.2.2) hM ?_
  rintro v σ' m' hi' ⟨rfl, rfl, rfl, rfl⟩
  exact kk
theorem o_callSNv {idx nL' n' d' : Nat} {host : String} {y' : MethodName} {cc' : ByteArray} {ret' : Option FieldType} {As st0 : List Value}  {m1 : gMem} (hd : decode cc pc = .ok (.invokestatic idx, 3)) (hq : pc + 3 = q) (hl : Cond.methodLinkNest y.cls idx y' host ∈ gNest) (hw : gMw y' cc' nL' ret' n') (hv : gMs y') (hst : st0 = As.reverse ++ st) (hn : As.length = n') (hsum : (st.map fun v => v.category).sum ≤ 8) (hf : d' + 1 ≤ d) (hM : gCo E y' cc' nL' ret' d' (As) σ m hi (gX (none) m1)) (kk : gJ E y cc nL ret (gRm d 0 0) F q l (st) 0 0 σ m1 hi) : gJ E y cc nL ret (gRm d 0 0) F pc l st0 0 0 σ m hi := by
  refine j_callSN hd hq hl hw hv hst hn hsum (gFit.o hf hw.2.2.2.2) hM ?_
  rintro v σ' m' hi' ⟨rfl, rfl, rfl, rfl⟩
  exact kk
theorem o_callSNa {idx nL' n' d' : Nat} {host : String} {y' : MethodName} {cc' : ByteArray} {ret' : Option FieldType} {As st0 : List Value} {r : Nat} {m1 : gMem} (hd : decode cc pc = .ok (.invokestatic idx, 3)) (hq : pc + 3 = q) (hl : Cond.methodLinkNest y.cls idx y' host ∈ gNest) (hw : gMw y' cc' nL' ret' n') (hv : gMs y') (hst : st0 = As.reverse ++ st) (hn : As.length = n') (hsum : (st.map fun v => v.category).sum ≤ 8) (hf : d' + 1 ≤ d) (hM : gCo E y' cc' nL' ret' d' (As) σ m hi (gX (some (.ref r)) m1)) (kk : gJ E y cc nL ret (gRm d 0 0) F q l (.ref r :: st) 0 0 σ m1 hi) : gJ E y cc nL ret (gRm d 0 0) F pc l st0 0 0 σ m hi := by
  refine j_callSN hd hq hl hw hv hst hn hsum (gFit.o hf hw.2.2.2.2) hM ?_
  rintro v σ' m' hi' ⟨rfl, rfl, rfl, rfl⟩
  exact kk
theorem o_callSNx {idx nL' n' d' : Nat} {host : String} {y' : MethodName} {cc' : ByteArray} {ret' : Option FieldType} {As st0 : List Value} {P' : Option Value → gMem → Prop} (hd : decode cc pc = .ok (.invokestatic idx, 3)) (hq : pc + 3 = q) (hl : Cond.methodLinkNest y.cls idx y' host ∈ gNest) (hw : gMw y' cc' nL' ret' n') (hv : gMs y') (hst : st0 = As.reverse ++ st) (hn : As.length = n') (hsum : (st.map fun v => v.category).sum ≤ 8) (hf : d' + 1 ≤ d) (hM : gCo E y' cc' nL' ret' d' (As) σ m hi P') (kk : ∀ (v : Option Value) (m1 : gMem), P' v m1 → gJ E y cc nL ret (gRm d 0 0) F q l (v.toList ++ st) 0 0 σ m1 hi) : gJ E y cc nL ret (gRm d 0 0) F pc l st0 0 0 σ m hi := by
  refine j_callSN hd hq hl hw hv hst hn hsum (gFit.o hf hw.2.2.2.2) hM ?_
  rintro v σ' m' hi' ⟨rfl, rfl, h⟩
  exact kk v m' h
end GO
