/-! what is made: objects, rows -/
def mZ (m : gMem) (a : Nat) : gMem := (fun q => if q = a then fun _ => 0 else m.1 q, fun q => if q = a then fun _ => 0 else m.2 q)
theorem mZ_a (m : gMem) (a : Nat) : (mZ m a).1 a = fun _ => 0 := if_pos rfl
theorem mZ_n {m : gMem} {a q : Nat} (h : q ≠ a) : (mZ m a).1 q = m.1 q ∧ (mZ m a).2 q = m.2 q := ⟨if_neg h, if_neg h⟩
def gDf (tm : List (Option Value)) : List Value := tm.map (fun o => o.getD (.int 0))
theorem gFs_Z (m : gMem) (a : Nat) : ∀ (k : Nat) (tm : List (Option Value)), gFs (mZ m a) a k tm = gDf tm
  | _, [] => rfl
  | k, v :: r => by
    rw [gFs, gFs_Z m a (k + 1) r, mZ_a]
    rfl
section GM
variable {E : gEv} {y : MethodName} {cc : ByteArray} {nL : Nat} {ret : Option FieldType} {R : Room} {F : gFT} {pc q : Nat} {l : List (Option Value)} {st : List Value} {ck cn : Nat} {σ : gSg} {m : gMem} {hi : Nat}
theorem j_new {idx ci N : Nat} {C' : String} {T : u_T} (hd : decode cc pc = .ok (.new idx, 3)) (hq : pc + 3 = q) (hcl : Cond.classLink y.cls idx C' ∈ gT) (hn : Cond.instantiable C' N ∈ gT ∧ Cond.initialized C' ∈ gT) (hc : gCl[ci]? = some (C', T, N)) (ty : Nat → FieldType) (hty : ∀ k, k < N → parseFieldDescriptor (T k).2.2.1 = some (ty k)) (tm : List (Option Value)) (hfs : ∀ j, j < N → defaultValue (ty j) = vp_V (gDf tm) j) (hr : ck + 1 ≤ R.cells ∧ cn + N ≤ R.slots)
    (kk : gJ E y cc nL ret R F q l (.ref hi :: st) (ck + 1) (cn + N) (va_up σ hi (some (.inl (ci, tm)))) (mZ m hi) (hi + 1)) : gJ E y cc nL ret R F pc l st ck cn σ m hi := by
  subst hq
  intro p e s mi args below meth c C H locs ls hR hL hl
  have hts := C.2.2.2.2.2.1
  have hKn := C.2.2.2.2.2.2.2.2.1.1 ci _ hc
  refine W.newcK C.1 C.2.1 C.2.2.2.2.1 (hts _ hcl) (hts _ hn.1) (hts _ hn.2) rfl hd hr.1 hr.2 hKn.2.1 rfl fun H1 kC hkC e1 z1 o1 => ?_
  have hz := hR.2.1
  rw [hz] at e1 z1 o1 ⊢
  refine kk p e s mi args below meth c C H1 locs ls (gRep.new hR z1 o1 (mZ m hi) (fun q hq => mZ_n hq) ?_) hL hl
  refine ⟨_, hc, ?_⟩
  have := (u_born ty hts (gCl_ok hc).1 hKn hkC e1 hty).to hfs
  show t_OB hi (E.2.1.1 ci) N (E.2.1.2 ci) H1 (vp_V (gFs (mZ m hi) hi 0 tm))
  rw [gFs_Z]
  exact this
theorem j_newa {at_ : ArrayType} {N t : Nat} {n : Int32} (hd : decode cc pc = .ok (.newarray at_, 2)) (hq : pc + 2 = q) (harr : Cond.arrayClass (newarray.typeOf at_) ∈ gT) (ht : (gTys E.2.2.2.1)[t]? = some (E.2.2.2.1 t, newarray.typeOf at_)) (hcell : ∀ (cA : ClassId), vp_cell cA ((gCell E.2.2.2.1 (mZ m hi) hi (.inr (t, N, fun _ => none))).elim (fun a => a.2) (fun _ => (0, .inl fun _ => 0))) = arrV cA N (fun _ => defaultValue (newarray.typeOf at_))) (hg : gCell E.2.2.2.1 (mZ m hi) hi (.inr (t, N, fun _ => none)) = .inl (E.2.2.2.1 t, (gCell E.2.2.2.1 (mZ m hi) hi (.inr (t, N, fun _ => none))).elim (fun a => a.2) (fun _ => (0, .inl fun _ => 0)))) (hra : ∀ s cA, va_RA s cA (newarray.typeOf at_) → s.vm.findClass ("[" ++ (newarray.typeOf at_).toString) = some cA) (hn : n = nI N) (hN : N < 1000) (hb : N * componentBytes (newarray.typeOf at_) ≤ 536870912) (hr : ck + 1 ≤ R.cells ∧ cn + N ≤ R.slots)
    (kk : gJ E y cc nL ret R F q l (.ref hi :: st) (ck + 1) (cn + N) (va_up σ hi (some (.inr (t, N, fun _ => none)))) (mZ m hi) (hi + 1)) : gJ E y cc nL ret R F pc l (.int n :: st) ck cn σ m hi := by
  subst hq
  subst hn
  intro p e s mi args below meth c C H locs ls hR hL hl
  have hts := C.2.2.2.2.2.1
  have hK := C.2.2.2.2.2.2.2.2.1
  refine va_newaK C.1 C.2.1 (hts _ harr) rfl hd rfl (nI_pos (by omega)) (nI_clamp (by omega)) hb hr.1 hr.2 hR.2.1 fun H1 cA e1 z1 o1 hAr hNm => ?_
  have hcA : cA = E.2.2.2.1 t := Option.some.inj (hNm.symm.trans (hra s _ (hK.2 t _ ht).2))
  refine kk p e s mi args below meth c C H1 locs ls (gRep.new hR z1 o1 (mZ m hi) (fun q hq => mZ_n hq) ?_) hL hl
  rw [hg]
  show H1[hi]? = some (vp_cell _ _)
  rw [hcell, e1, hcA]
theorem j_newI {N : Nat} {n : Int32} (hd : decode cc pc = .ok (.newarray .int, 2)) (hq : pc + 2 = q) (hn : n = nI N) (hN : N < 1000) (hr : ck + 1 ≤ R.cells ∧ cn + N ≤ R.slots) (kk : gJ E y cc nL ret R F q l (.ref hi :: st) (ck + 1) (cn + N) (va_up σ hi (some (.inr (0, N, fun _ => none)))) (mZ m hi) (hi + 1)) : gJ E y cc nL ret R F pc l (.int n :: st) ck cn σ m hi := by
  refine j_newa (t := 0) hd hq a_int rfl (fun cA => ?_) rfl (fun _ _ h => h) hn hN (by show N * 4 ≤ _; omega) hr kk
  show arrV cA N (fun j => .int ((mZ m hi).1 hi j)) = _
  rw [mZ_a]
  rfl
theorem j_newB {N : Nat} {n : Int32} (hd : decode cc pc = .ok (.newarray .byte, 2)) (hq : pc + 2 = q) (hn : n = nI N) (hN : N < 1000) (hr : ck + 1 ≤ R.cells ∧ cn + N ≤ R.slots) (kk : gJ E y cc nL ret R F q l (.ref hi :: st) (ck + 1) (cn + N) (va_up σ hi (some (.inr (1, N, fun _ => none)))) (mZ m hi) (hi + 1)) : gJ E y cc nL ret R F pc l (.int n :: st) ck cn σ m hi := by
  refine j_newa (t := 1) hd hq a_byte rfl (fun cA => ?_) rfl (fun _ _ h => h) hn hN (by show N * 1 ≤ _; omega) hr kk
  show arrV cA N (fun j => .int ((mZ m hi).1 hi j)) = _
  rw [mZ_a]
  rfl
theorem j_newZ {N : Nat} {n : Int32} (hd : decode cc pc = .ok (.newarray .boolean, 2)) (hq : pc + 2 = q) (hn : n = nI N) (hN : N < 1000) (hr : ck + 1 ≤ R.cells ∧ cn + N ≤ R.slots) (kk : gJ E y cc nL ret R F q l (.ref hi :: st) (ck + 1) (cn + N) (va_up σ hi (some (.inr (2, N, fun _ => none)))) (mZ m hi) (hi + 1)) : gJ E y cc nL ret R F pc l (.int n :: st) ck cn σ m hi := by
  refine j_newa (t := 2) hd hq a_boolean rfl (fun cA => ?_) rfl (fun _ _ h => h) hn hN (by show N * 1 ≤ _; omega) hr kk
  show arrV cA N (fun j => .int ((mZ m hi).1 hi j)) = _
  rw [mZ_a]
  rfl
theorem j_newL {N : Nat} {n : Int32} (hd : decode cc pc = .ok (.newarray .long, 2)) (hq : pc + 2 = q) (hn : n = nI N) (hN : N < 1000) (hr : ck + 1 ≤ R.cells ∧ cn + N ≤ R.slots) (kk : gJ E y cc nL ret R F q l (.ref hi :: st) (ck + 1) (cn + N) (va_up σ hi (some (.inr (3, N, fun _ => none)))) (mZ m hi) (hi + 1)) : gJ E y cc nL ret R F pc l (.int n :: st) ck cn σ m hi := by
  refine j_newa (t := 3) hd hq a_long rfl (fun cA => ?_) rfl (fun _ _ h => h) hn hN (by show N * 8 ≤ _; omega) hr kk
  show arrV cA N (fun j => .long ((mZ m hi).2 hi j)) = _
  rw [show (mZ m hi).2 hi = fun _ => 0 from if_pos rfl]
  rfl
/-- rows of references: t 0 Vents, 1 Grounds, 2 Sheets -/
theorem j_anew {idx N t ci : Nat} {n : Int32} {C' : String} (hd : decode cc pc = .ok (.anewarray idx, 3)) (hq : pc + 3 = q) (hcl : Cond.classLink y.cls idx C' ∈ gT) (hao : ∀ s, gK E s → va_AO C' s) (ht : (gTys E.2.2.2.1)[t + 4]? = some (E.2.2.2.1 (t + 4), .object C')) (hn : n = nI N) (hN : N < 1000) (hr : ck + 1 ≤ R.cells ∧ cn + N ≤ R.slots)
    (kk : gJ E y cc nL ret R F q l (.ref hi :: st) (ck + 1) (cn + N) (va_up σ hi (some (.inr (t + 4, N, fun _ => none)))) (mZ m hi) (hi + 1)) : gJ E y cc nL ret R F pc l (.int n :: st) ck cn σ m hi := by
  subst hq
  subst hn
  intro p e s mi args below meth c C H locs ls hR hL hl
  have hts := C.2.2.2.2.2.1
  have hK := C.2.2.2.2.2.2.2.2.1
  have hcN : (nI N).toNatClampNeg = N := nI_clamp (by omega)
  refine W.anew C.1 C.2.1 C.2.2.2.2.1 (hts _ hcl) (va_AO.use (hao s C.2.2.2.2.2.2.2.2)) rfl hd rfl (nI_pos (by omega)) (by rw [hcN]; omega) hr.1 (by rw [hcN]; exact hr.2) fun cA kA comp f1 f2 f3 f4 => ?_
  generalize hH1 : H.push ({ cls := cA, slots := Array.replicate (nI N).toNatClampNeg .null, vm := .none } : Cell) = H1
  have z1 : H1.size = hi + 1 := by rw [← hH1, Array.size_push, hR.2.1]
  have e1 : H1[hi]? = some (arrV cA N (fun _ => .null)) := by rw [← hH1, ← hR.2.1, Array.getElem?_push_size, hcN, ← arrV_new]
  have o1 : ∀ q : Nat, q < hi → H1[q]? = H[q]? := fun q hq => by rw [← hH1, Array.getElem?_push, if_neg (by rw [hR.2.1]; omega)]
  obtain ⟨kA', comp', g1, g2, g3, g4⟩ := (hK.2 (t + 4) _ ht).2
  have hcA : cA = E.2.2.2.1 (t + 4) := Option.some.inj (f1.symm.trans g4)
  rw [hcN, hR.2.1]
  refine kk p e s mi args below meth c C H1 locs ls (gRep.new hR z1 o1 (mZ m hi) (fun q hq => mZ_n hq) ?_) hL hl
  show H1[hi]? = some (vp_cell _ _)
  rw [vp_cell_q, e1, hcA]
  rfl
theorem j_aastore {a n j t ci v : Nat} {f : Nat → Option Nat} {i : Int32} {r : vw_C} {tm : List (Option Value)} (hd : decode cc pc = .ok (.aastore, 1)) (hq : pc + 1 = q) (hs : σ a = some (.inr (t + 4, n, f))) (ht : (gTys E.2.2.2.1)[t + 4]? = some (E.2.2.2.1 (t + 4), .object r.1)) (hv : σ v = some (.inl (ci, tm))) (hc : gCl[ci]? = some r) (hi' : gIdx i n j)
    (kk : gJ E y cc nL ret R F q l st ck cn (va_up σ a (some (.inr (t + 4, n, va_up f j (some v))))) m hi) : gJ E y cc nL ret R F pc l (.ref v :: .int i :: .ref a :: st) ck cn σ m hi := by
  subst hq
  obtain ⟨hin, rfl⟩ := hi'
  intro p e s mi args below meth c C H locs ls hR hL hl
  have hK := C.2.2.2.2.2.2.2.2.1
  have hlt : i.toNatClampNeg < n := Nat.not_le.mp fun q => hin (Or.inr q)
  have h0 : ¬ i < 0 := fun q => hin (Or.inl q)
  obtain ⟨-, -, hva⟩ := hR.2.2.2 v _ hv
  obtain ⟨hBa, -, haa⟩ := hR.2.2.2 a _ hs
  obtain ⟨r', hr', cellV, g1, g2, g3, -⟩ := hva
  have hcls := (hK.1 ci r hc).2
  obtain ⟨kA, comp, k1, k2, k3, -⟩ := (hK.2 (t + 4) _ ht).2
  have hcomp : comp = E.2.1.1 ci := Option.some.inj (k3.symm.trans hcls.1)
  subst hcomp
  obtain ⟨kC, hkC, -⟩ := hcls.2
  have haa' : H[a]? = some (vp_cell (E.2.2.2.1 (t + 4)) (n, .inr (.inr (.inr (.inr f))))) := haa
  refine W.aast C.1 C.2.1 haa' (fun q h => by cases h) (fun h => by cases h) k1 k2 rfl hkC ⟨h0, by show _ < (arrV _ _ _).slots.size; rw [arrV_size]; exact hlt⟩ g1 (fun q h => by rw [g3] at h; cases h) (by rw [g2]; exact hkC) (by rw [g2]; exact va_assign hcls) rfl rfl hd fun H1 e1 z oq => ?_
  refine kk p e s mi args below meth c C H1 _ ls (gRep.set hR hs z oq ?_) (fun q hq => ?_) hl
  · show H1[a]? = some (vp_cell _ _)
    rw [e1]
    rw [vp_cell_q, vp_cell_q, arrV_store]
    congr 2
    funext q
    by_cases hq : q = i.toNatClampNeg
    · subst hq
      simp [updV, va_up, va_rf]
    · simp [updV, va_up, hq]
  · rcases List.mem_append.mp hq with h | h
    · exact hL q h
    · rw [List.mem_singleton.mp h]; exact hBa
end GM
