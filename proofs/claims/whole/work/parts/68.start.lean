/-! THE CLAIM OUT OF ONE WALK OF THE LAW'S BODY. Your part is whole_start (and what it stands on); all else here is the same for every law, but numbers. -/
def R_law : String := "GeyserNervesLaw"
def lw_P (b : Addr) (xs : List Int32) (args : Array Value) (s : State) : Prop := args = #[.ref b] ∧ s.IntsAt b xs ∧ xs.length ≤ 2560 ∧ (Jvm.Cond.and given_1 narrow_1).before args s = true
def lw_Q (_ : Array Value) (s : State) (o : Outcome) (t : State) : Prop := o = .returned (some (.int 1)) ∧ Framed s o t [] 600000 7302250
def lw_Z (below : List Frame) (a : Array Value) (s : State) : State → Prop := fun t => ∃ o, t.status = .running ∧ Ended t below o ∧ lw_Q a s o t
/-- the law's own end, with 1 on the stack, nothing written that was there before, its room as the claim has it -/
theorem lw_ret {p : Program} {l : Launch} {e : Env} {s : State} {m : MethodId} {below : List Frame} {meth : Method} {c : Code} {b : Nat} (hx : p.tables.exec = Jvm.exec) (hb : c.code = code) (hr : meth.sig.returnType = ret) (hlocks : meth.locks = false) {pc : Nat} {H : Heap} {ls : Array Slot} (hdg : decode code pc = .ok (.ireturn, 1)) : W p l e room_1 s m #[Value.ref b] below meth c H [] 600000 7302250 (lw_Z below #[Value.ref b] s) (F0 m pc ls [.int 1]) := by
  intro T hT X
  obtain ⟨fs, hret, hrun, hended, hW, hframe⟩ := X.leave (v := some (.int 1)) (hlocks := hlocks) (fun h => by rw [hr] at h; cases h)
  have hmeth' : T.vm.method? m = some meth := X.method'
  refine ⟨T.setFrames fs, ?_, .returned (some (.int 1)), hrun, hended, rfl, ⟨_, rfl⟩, hW, hframe⟩
  jvm_step X.here [X.here.top, hx, hb, hdg, hmeth', hr, ret, narrow_b1]
  (try refine ⟨rfl, ?_⟩); (try refine ⟨rfl, ?_⟩)
  first | (intro acts; rw [hret _ acts rfl rfl rfl]) | rw [hret _ _ rfl rfl rfl]
  exact Steps.refl _
/-- what holds at the law's entry: the machine, the code, the tables' words (any of lw_tbl by 'hts w (by decide +kernel)'), the script of L ints xs at the cell b, what the Statement gives of the start (any of its parts by flat_of_before) -/
def lw_At (p : Program) (s : State) (m : MethodId) (meth : Method) (c : Code) (b L : Nat) (xs : Nat → Int32) : Prop :=
  p.tables.exec = Jvm.exec ∧ c.code = code ∧ meth.sig.returnType = ret ∧ c.maxLocals = 4 ∧ s.vm.findClass R_law = some m.cls ∧ (∀ w ∈ lw_tbl, w.before #[Value.ref b] s = true) ∧ va_X b L xs s s.heap ∧ b < s.heap.size ∧ meth.locks = false ∧ (Jvm.Cond.and given_1 narrow_1).before #[Value.ref b] s = true
/-- the law's own end, with 1 on the stack, nothing written that was there before, its room as the claim has it -/
theorem lw_retA {p : Program} {l : Launch} {e : Env} {s : State} {m : MethodId} {below : List Frame} {meth : Method} {c : Code} {args : Array Value} (hx : p.tables.exec = Jvm.exec) (hb : c.code = code) (hr : meth.sig.returnType = ret) (hlocks : meth.locks = false) {pc : Nat} {H : Heap} {ls : Array Slot} (hdg : decode code pc = .ok (.ireturn, 1)) : W p l e room_1 s m args below meth c H [] 600000 7302250 (lw_Z below args s) (F0 m pc ls [.int 1]) := by
  intro T hT X
  obtain ⟨fs, hret, hrun, hended, hW, hframe⟩ := X.leave (v := some (.int 1)) (hlocks := hlocks) (fun h => by rw [hr] at h; cases h)
  have hmeth' : T.vm.method? m = some meth := X.method'
  refine ⟨T.setFrames fs, ?_, .returned (some (.int 1)), hrun, hended, rfl, ⟨_, rfl⟩, hW, hframe⟩
  jvm_step X.here [X.here.top, hx, hb, hdg, hmeth', hr, ret, narrow_b1]
  (try refine ⟨rfl, ?_⟩); (try refine ⟨rfl, ?_⟩)
  first | (intro acts; rw [hret _ acts rfl rfl rfl]) | rw [hret _ _ rfl rfl rfl]
  exact Steps.refl _

/-! the start: all words at the law's entry -/
theorem gCl_in {k : Nat} {q : vw_C} (h : gCl[k]? = some q) : Cond.instantiable q.1 q.2.2 ∈ gT := by
  match k, h with
  | 0, h => cases h; exact nX0.1
  | 1, h => cases h; exact nX1.1
  | 2, h => cases h; exact nX2.1
  | 3, h => cases h; exact nX3.1
  | 4, h => cases h; exact nX4.1
  | 5, h => cases h; exact nX5.1
  | 6, h => cases h; exact nX6.1
  | 7, h => cases h; exact nX7.1
  | k + 8, h => simp [gCl] at h
def tyL : List FieldType := [.int, .byte, .boolean, .long, .object RX5, .object RX0, .object RX3]
theorem arr_p {args : Array Value} {s : State} {ty : FieldType} (h : (Cond.arrayClass ty).before args s = true) : ∃ cA : ClassId, ArrOfT s cA ty ∧ s.vm.findClass ("[" ++ ty.toString) = some cA := by
  obtain ⟨cA, kA, comp, h1, h2, h3⟩ := Cond.arrayClass_spec h
  exact ⟨cA, fun n z => ⟨fun k h => (by cases h), kA, h2, comp, h3⟩, h1⟩
theorem arr_o {args : Array Value} {s : State} {C : String} (h : (Cond.arrayOver (.object C)).before args s = true) : ∃ cA : ClassId, ArrOfT s cA (.object C) ∧ va_RA s cA (.object C) := by
  obtain ⟨comp, c, k, h1, h2, h3, h4, h5⟩ := Cond.arrayOver_spec h
  exact ⟨c, fun n z => ⟨fun k h => (by cases h), k, h3, comp, h4⟩, k, comp, h3, h4, h1, h5⟩
theorem w_ini0 : Cond.initialized "java/lang/String" ∈ lw_tbl := List.mem_of_getElem? (i := 63) (by decide +kernel)
theorem w_ini3 : Cond.initialized "jdk/internal/util/Preconditions" ∈ lw_tbl := List.mem_of_getElem? (i := 65) (by decide +kernel)
theorem w_lay0 : Cond.laysStatic "java/lang/String" "COMPACT_STRINGS" "Z" ∈ lw_tbl := List.mem_of_getElem? (i := 354) (by decide +kernel)
theorem w_lay3 : Cond.laysStatic "jdk/internal/util/Preconditions" "SIOOBE_FORMATTER" "Ljava/util/function/BiFunction;" ∈ lw_tbl := List.mem_of_getElem? (i := 370) (by decide +kernel)
theorem w_str : ∀ i, i < 7 → Cond.stringRef RX1 (gIx.getD i 0) (gTx.getD i "") ∈ lw_tbl := by
  intro i hi
  match i, hi with
  | 0, _ => exact List.mem_of_getElem? (i := 340) (by decide +kernel)
  | 1, _ => exact List.mem_of_getElem? (i := 393) (by decide +kernel)
  | 2, _ => exact List.mem_of_getElem? (i := 394) (by decide +kernel)
  | 3, _ => exact List.mem_of_getElem? (i := 395) (by decide +kernel)
  | 4, _ => exact List.mem_of_getElem? (i := 396) (by decide +kernel)
  | 5, _ => exact List.mem_of_getElem? (i := 397) (by decide +kernel)
  | 6, _ => exact List.mem_of_getElem? (i := 398) (by decide +kernel)
  | i + 7, h => exact absurd h (by omega)
abbrev gFc : List Cond := flatC (Jvm.Cond.and given_1 narrow_1)
abbrev gTm0 (i : Nat) : Term := .string RX1 (gIx.getD i 0)
theorem f_ex : ∀ i, i < 7 → Cond.exactly (gTm0 i) "java/lang/String" ∈ gFc := by decide +kernel
theorem f_co : ∀ i, i < 7 → Cond.eq (.field (gTm0 i) "java/lang/String" "coder" "B") (.int 0) ∈ gFc := by decide +kernel
theorem f_ar : ∀ i, i < 7 → Cond.arrayOf (.field (gTm0 i) "java/lang/String" "value" "[B") .byte ∈ gFc := by decide +kernel
theorem f_le : ∀ i, i < 7 → Cond.eq (.length (.field (gTm0 i) "java/lang/String" "value" "[B")) (.int (Int32.ofNat (gLen.getD i 0))) ∈ gFc := by decide +kernel
theorem f_el : ∀ i, i < 7 → ∀ j, j < gLen.getD i 0 → Cond.eq (.elem (.field (gTm0 i) "java/lang/String" "value" "[B") (.int (Int32.ofNat j))) (.int ((gByt.getD i []).getD j 0)) ∈ gFc := by decide +kernel
theorem f_ne : ∀ i, i < 7 → ∀ j, j < 7 → i ≠ j → (Cond.not (Cond.eq (gTm0 i) (gTm0 j)) ∈ gFc ∨ Cond.not (Cond.eq (gTm0 j) (gTm0 i)) ∈ gFc) := by decide +kernel
theorem f_cs : Cond.eq (.static "java/lang/String" "COMPACT_STRINGS" "Z") (.int 1) ∈ gFc := by decide +kernel
theorem f_fm : Cond.isRef (.static "jdk/internal/util/Preconditions" "SIOOBE_FORMATTER" "Ljava/util/function/BiFunction;") ∈ gFc := by decide +kernel
theorem gK_start {p : Program} {s : State} {m : MethodId} {meth : Method} {c : Code} {b L : Nat} {xs : Nat → Int32} (l : Launch) (C0 : lw_At p s m meth c b L xs) : ∃ (D : va_G) (cA : Nat → ClassId) (ad av : Nat → Nat), gK (l, D, s.heap, cA, ad, av, b, L, xs) s := by
  obtain ⟨hx, hb, hr, hml, hown, hts, hX, hbl, hlocks, hgv⟩ := C0
  have hs := flat_of_before _ hgv
  have hA : ∀ a : Nat, a < s.heap.size → ¬ (fun q : Nat => s.heap.size ≤ q) a := fun a h => Nat.not_le.mpr h
  have hT : ∀ w ∈ gT, w.before #[Value.ref b] s = true := fun w hw => hts w (gT_in w hw)
  have h0 : ∀ k : Nat, ∃ q : ClassId × (Nat → Nat), ∀ r : vw_C, gCl[k]? = some r → u_Kn s r.1 r.2.1 r.2.2 q.1 q.2 := by
    intro k
    cases hk : gCl[k]? with
    | none => exact ⟨(0, fun _ => 0), fun r h => by cases h⟩
    | some r =>
      obtain ⟨cC, iS, h⟩ := u_known (C := r.1) (T := r.2.1) (N := r.2.2) (n := r.2.2) hT (gCl_ok hk).1 (hT _ (gCl_in hk))
      exact ⟨(cC, iS), fun r' h' => by cases h'; exact h⟩
  obtain ⟨D, hD⟩ := Classical.axiomOfChoice h0
  have h1 : ∀ k : Nat, ∃ q : ClassId, ∀ ty : FieldType, tyL[k]? = some ty → ArrOfT s q ty ∧ va_RA s q ty := by
    intro k
    match k with
    | 0 =>
      obtain ⟨cA, e1, e2⟩ := arr_p (hT _ a_int)
      exact ⟨cA, fun ty h => by cases h; exact ⟨e1, e2⟩⟩
    | 1 =>
      obtain ⟨cA, e1, e2⟩ := arr_p (hT _ a_byte)
      exact ⟨cA, fun ty h => by cases h; exact ⟨e1, e2⟩⟩
    | 2 =>
      obtain ⟨cA, e1, e2⟩ := arr_p (hT _ a_boolean)
      exact ⟨cA, fun ty h => by cases h; exact ⟨e1, e2⟩⟩
    | 3 =>
      obtain ⟨cA, e1, e2⟩ := arr_p (hT _ a_long)
      exact ⟨cA, fun ty h => by cases h; exact ⟨e1, e2⟩⟩
    | 4 =>
      obtain ⟨cA, e1, e2⟩ := arr_o (hts _ ao_X5)
      exact ⟨cA, fun ty h => by cases h; exact ⟨e1, e2⟩⟩
    | 5 =>
      obtain ⟨cA, e1, e2⟩ := arr_o (hts _ ao_X0)
      exact ⟨cA, fun ty h => by cases h; exact ⟨e1, e2⟩⟩
    | 6 =>
      obtain ⟨cA, e1, e2⟩ := arr_o (hts _ ao_X3)
      exact ⟨cA, fun ty h => by cases h; exact ⟨e1, e2⟩⟩
    | k + 7 => exact ⟨0, fun ty h => by simp [tyL] at h⟩
  obtain ⟨cA, hcA⟩ := Classical.axiomOfChoice h1
  obtain ⟨ad, av, hS, hE⟩ := vk_Sof (args := #[Value.ref b]) (s := s) (N := 7) (tm := gTm0) (len := gLen) (byt := gByt) (A := fun q : Nat => s.heap.size ≤ q) (by decide) (fun i hi => hs _ (f_ex i hi)) (fun i hi => hs _ (f_co i hi)) (fun i hi => hs _ (f_ar i hi)) (fun i hi => hs _ (f_le i hi)) (fun i hi j hj => hs _ (f_el i hi j hj)) (fun i j hi hj hij => (f_ne i hi j hj hij).elim (fun q => Or.inl (hs _ q)) (fun q => Or.inr (hs _ q))) hA
  refine ⟨(fun k => (D k).1, fun k => (D k).2), cA, ad, av, ⟨fun k q hk => hD k q hk, fun k q hk => ?_⟩, ⟨hS, fun i hi => vk_R.of (hts _ (w_str i hi)) (hE i hi), va_Zof (hts _ w_lay0) (hts _ w_ini0) (va_eqi (hs _ f_cs)) hA, va_Zqof (hts _ w_lay3) (hts _ w_ini3) (hs _ f_fm) hA⟩, hX, hbl, fun w hw => ?_, va_AO.of (hts _ ao_X5), va_AO.of (hts _ ao_X0), va_AO.of (hts _ ao_X3)⟩
  · match k, hk with
    | 0, hk => cases hk; exact hcA 0 _ rfl
    | 1, hk => cases hk; exact hcA 1 _ rfl
    | 2, hk => cases hk; exact hcA 2 _ rfl
    | 3, hk => cases hk; exact hcA 3 _ rfl
    | 4, hk => cases hk; exact hcA 4 _ rfl
    | 5, hk => cases hk; exact hcA 5 _ rfl
    | 6, hk => cases hk; exact hcA 6 _ rfl
    | k + 7, hk => simp [gTys] at hk
  · obtain ⟨o, i, y, ho, rfl⟩ := gNest_ok w hw
    exact va_Nw.of rfl (hts _ (gNest_in _ hw))
/-- both objects, new -/
theorem REL_new {x t : Nat} (ht : t = x + 94) {σ0 σ1 σ : gSg} {m0 m1 m : gMem} {tm : List (Option Value)} (hf : gFk x σ0 m0 (tmX x) 10 σ m) (hl : gXl x σ m 5 2 4) (hi : iR t σ1 m1 tm iRL σ m) (hlt : okLt m t) : REL m x t := by
  obtain ⟨-, mx, -, hF⟩ := hf
  have f0 := (hF 0 (by omega)).2
  have f4 := (hF 4 (by omega)).2
  have f5 := (hF 5 (by omega)).2.2.2
  have f6 := (hF 6 (by omega)).2.2.2.2
  have l6 := hl.2.2.2.2.2
  have mt := hi.2.1
  have k := fun (i : Nat) (x : iRT) (hx : iRL[i]? = some x) => (hi.2.2.2 i x hx).2
  have t1 : m.1 (t + 1) = fun _ => 0 := k 0 _ rfl
  have t3 : m.1 (t + 3) = fun _ => 0 := k 2 _ rfl
  have t11 : m.1 (t + 11) = fun _ => 0 := k 10 _ rfl
  have t12 : m.1 (t + 12) = iF11 := k 11 _ rfl
  have t14 : m.1 (t + 14) = fun _ => 0 := k 13 _ rfl
  have hpR : pgR m t 0 = pgI := by
    funext i
    unfold pgI
    by_cases h : i < 53
    · rw [pgR_lt h, t1]
      unfold aj
      rw [Int32.zero_add]
    · rw [pgR_0 _ _ _ i (by omega), if_neg (by omega), if_neg (by omega)]
  refine ⟨⟨by rw [f0, hpR]; exact veq.rf _, ⟨0, by rw [f0]; rfl, by omega⟩, ⟨0, 0, by rw [f0]; rfl, by omega, by rw [f0]; rfl, by omega⟩⟩, ⟨0, by omega, by rw [f5.1]; rfl, by rw [mt]; rfl, by rw [f5.2, t3], fun p hp => absurd hp (by omega)⟩, ⟨by rw [mt, mx], by rw [mt, mx]⟩, ⟨0, by omega, by rw [f6]; rfl, by rw [mt]; rfl, fun i hi' => absurd hi' (by omega)⟩, fun j hj => ⟨by rw [t11, f4], fun q => absurd (by rw [f4]) q⟩, fun j hj => ⟨Or.inl ⟨(l6 j hj).2.1, ?_⟩, fun i hi' => by rw [t14, (l6 j hj).2.2]⟩, hlt⟩
  rw [t12]
  have h4 : ∀ j, j < 4 → iF11 j = -4 := by decide +kernel
  exact h4 j hj
