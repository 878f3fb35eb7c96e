def gNest : List Cond := [Cond.methodLinkNest RX0 31 yX5_init "GeyserNerves", Cond.methodLinkNest RX0 85 yX6_bit "GeyserNerves", Cond.methodLinkNest RX1 11 yX4_init "GeyserNerves", Cond.methodLinkNest RX1 107 yX6_within "GeyserNerves", Cond.methodLinkNest RX2 25 yX6_bit "GeyserNerves", Cond.methodLinkNest RX6 32 yX1_init "GeyserNerves", Cond.methodLinkNest RX6 46 yX2_init "GeyserNerves", Cond.methodLinkNest RX6 65 yX3_init "GeyserNerves"]
theorem lX0_31 : Cond.methodLinkNest RX0 31 yX5_init "GeyserNerves" ∈ gNest := List.mem_of_getElem? (i := 0) rfl
theorem lX0_85 : Cond.methodLinkNest RX0 85 yX6_bit "GeyserNerves" ∈ gNest := List.mem_of_getElem? (i := 1) rfl
theorem lX1_11 : Cond.methodLinkNest RX1 11 yX4_init "GeyserNerves" ∈ gNest := List.mem_of_getElem? (i := 2) rfl
theorem lX1_107 : Cond.methodLinkNest RX1 107 yX6_within "GeyserNerves" ∈ gNest := List.mem_of_getElem? (i := 3) rfl
theorem lX2_25 : Cond.methodLinkNest RX2 25 yX6_bit "GeyserNerves" ∈ gNest := List.mem_of_getElem? (i := 4) rfl
theorem lX6_32 : Cond.methodLinkNest RX6 32 yX1_init "GeyserNerves" ∈ gNest := List.mem_of_getElem? (i := 5) rfl
theorem lX6_46 : Cond.methodLinkNest RX6 46 yX2_init "GeyserNerves" ∈ gNest := List.mem_of_getElem? (i := 6) rfl
theorem lX6_65 : Cond.methodLinkNest RX6 65 yX3_init "GeyserNerves" ∈ gNest := List.mem_of_getElem? (i := 7) rfl
theorem gNest_in : ∀ w ∈ gNest, w ∈ lw_tbl := by
  simp only [gNest, List.forall_mem_cons, List.not_mem_nil, false_implies, implies_true, and_true]
  exact ⟨List.mem_of_getElem? (i := 86) (by decide +kernel), List.mem_of_getElem? (i := 615) (by decide +kernel), List.mem_of_getElem? (i := 162) (by decide +kernel), List.mem_of_getElem? (i := 411) (by decide +kernel), List.mem_of_getElem? (i := 750) (by decide +kernel), List.mem_of_getElem? (i := 156) (by decide +kernel), List.mem_of_getElem? (i := 209) (by decide +kernel), List.mem_of_getElem? (i := 230) (by decide +kernel)⟩
theorem gNest_ok : ∀ w ∈ gNest, ∃ (own : String) (idx : Nat) (y : MethodName) (host : String), w = .methodLinkNest own idx y host := by
  simp only [gNest, List.forall_mem_cons, List.not_mem_nil, false_implies, implies_true, and_true]
  exact ⟨⟨_, _, _, _, rfl⟩, ⟨_, _, _, _, rfl⟩, ⟨_, _, _, _, rfl⟩, ⟨_, _, _, _, rfl⟩, ⟨_, _, _, _, rfl⟩, ⟨_, _, _, _, rfl⟩, ⟨_, _, _, _, rfl⟩, ⟨_, _, _, _, rfl⟩⟩
theorem ao_X5 : Cond.arrayOver (.object RX5) ∈ lw_tbl := List.mem_of_getElem? (i := 84) (by decide +kernel)
theorem ao_X0 : Cond.arrayOver (.object RX0) ∈ lw_tbl := List.mem_of_getElem? (i := 153) (by decide +kernel)
theorem ao_X3 : Cond.arrayOver (.object RX3) ∈ lw_tbl := List.mem_of_getElem? (i := 228) (by decide +kernel)
/-! a walk over a memory of a fixed shape: gJ -/
abbrev gMem : Type := (Nat → Nat → Int32) × (Nat → Nat → Int64)
abbrev gSh : Type := (Nat × List (Option Value)) ⊕ (Nat × Nat × (Nat → Option Nat))
abbrev gSg : Type := Nat → Option gSh
/-- launch, class numbers, the heap at the law's entry, array classes, the text constants' cells and their bytes', the script's cell, length, ints -/
abbrev gEv : Type := Launch × va_G × Heap × (Nat → ClassId) × (Nat → Nat) × (Nat → Nat) × Nat × Nat × (Nat → Int32)
abbrev gB (E : gEv) : Nat := E.2.2.1.size
abbrev gA (E : gEv) : Nat → Prop := fun q => gB E ≤ q
def gTys (cA : Nat → ClassId) : List (ClassId × FieldType) := [(cA 0, .int), (cA 1, .byte), (cA 2, .boolean), (cA 3, .long), (cA 4, .object RX5), (cA 5, .object RX0), (cA 6, .object RX3)]
def gFs (m : gMem) (a : Nat) : Nat → List (Option Value) → List Value
  | _, [] => []
  | k, v :: r => v.getD (.int (m.1 a k)) :: gFs m a (k + 1) r
theorem gFs_get (m : gMem) (a : Nat) : ∀ (tm : List (Option Value)) (j k : Nat), (gFs m a j tm)[k]? = (tm[k]?).map fun v => v.getD (.int (m.1 a (j + k)))
  | [], j, k => by simp [gFs]
  | v :: r, j, 0 => by simp [gFs]
  | v :: r, j, k + 1 => by
    rw [gFs, List.getElem?_cons_succ, List.getElem?_cons_succ, gFs_get m a r (j + 1) k]
    rw [show j + 1 + k = j + (k + 1) by omega]
def gCell (cA : Nat → ClassId) (m : gMem) (a : Nat) (sh : gSh) : va_E := match sh with
  | .inl o => .inr (o.1, gFs m a 0 o.2)
  | .inr (0, n, _) => .inl (cA 0, n, .inl (m.1 a))
  | .inr (1, n, _) => .inl (cA 1, n, .inl (m.1 a))
  | .inr (2, n, _) => .inl (cA 2, n, .inl (m.1 a))
  | .inr (3, n, _) => .inl (cA 3, n, .inr (.inl (m.2 a)))
  | .inr (t + 4, n, f) => .inl (cA (t + 4), n, .inr (.inr (.inr (.inr f))))
def gRep (E : gEv) (σ : gSg) (m : gMem) (hi : Nat) (H : Heap) : Prop := gB E ≤ hi ∧ H.size = hi ∧ (∀ q : Nat, q < gB E → H[q]? = E.2.2.1[q]?) ∧ ∀ (q : Nat) (sh : gSh), σ q = some sh → gB E ≤ q ∧ q < hi ∧ va_at E.2.1 gCl (q, gCell E.2.2.2.1 m q sh) H
def gLen : List Nat := [5, 3, 5, 5, 4, 4, 4]
def gByt : List (List Int32) := [[112, 108, 97, 105, 110], [115, 104, 121], [115, 117, 108, 107, 121], [102, 97, 105, 110, 116], [102, 108, 111, 119], [99, 97, 108, 109], [104, 111, 117, 114]]
def gIx : List Nat := [121, 127, 129, 131, 133, 134, 135]
def gTx : List String := ["plain", "shy", "sulky", "faint", "flow", "calm", "hour"]
def gStr (E : gEv) (U : State) : Prop := vk_S 7 gLen gByt E.2.2.2.2.1 E.2.2.2.2.2.1 (gA E) U E.2.2.1 ∧ (∀ i, i < 7 → vk_R RX1 (gIx.getD i 0) (gTx.getD i "") (E.2.2.2.2.1 i) U) ∧ va_Z "java/lang/String" "COMPACT_STRINGS" "Z" (.int 1) (gA E) U E.2.2.1 ∧ va_Zq "jdk/internal/util/Preconditions" "SIOOBE_FORMATTER" "Ljava/util/function/BiFunction;" (gA E) U E.2.2.1
def gK (E : gEv) (U : State) : Prop := va_K E.2.1 gCl (gTys E.2.2.2.1) U ∧ gStr E U ∧ va_X E.2.2.2.2.2.2.1 E.2.2.2.2.2.2.2.1 E.2.2.2.2.2.2.2.2 U E.2.2.1 ∧ E.2.2.2.2.2.2.1 < gB E ∧ (∀ w ∈ gNest, va_Nw w U) ∧ va_AO RX5 U ∧ va_AO RX0 U ∧ va_AO RX3 U
theorem gK.warm {E : gEv} {s U : State} (hW : s.WarmedH U.vm) (h : gK E s) : gK E U :=
  ⟨va_K.moved hW.alike h.1, ⟨vk_S.moved hW.alike h.2.1.1, fun i hi => vk_R.warm hW (h.2.1.2.1 i hi), va_Z.moved hW.alike h.2.1.2.2.1, va_Zq.moved hW.alike h.2.1.2.2.2⟩, va_X.moved hW.alike h.2.2.1, h.2.2.2.1, fun w hw => by
    obtain ⟨o, i, y, ho, rfl⟩ := gNest_ok w hw
    exact va_Nw.warmM hW (h.2.2.2.2.1 _ hw), va_AO.moved hW.alike h.2.2.2.2.2.1, va_AO.moved hW.alike h.2.2.2.2.2.2.1, va_AO.moved hW.alike h.2.2.2.2.2.2.2⟩
theorem gK.same {E : gEv} {s U : State} (hv : U.vm = s.vm) (h : gK E s) : gK E U := by
  have hA : s.vm.Alike U.vm := by rw [hv]; exact Vm.Alike.refl s.vm
  exact ⟨va_K.moved hA h.1, ⟨vk_S.moved hA h.2.1.1, fun i hi => vk_R.same hv (h.2.1.2.1 i hi), va_Z.moved hA h.2.1.2.2.1, va_Zq.moved hA h.2.1.2.2.2⟩, va_X.moved hA h.2.2.1, h.2.2.2.1, fun w hw => by
    obtain ⟨o, i, y, ho, rfl⟩ := gNest_ok w hw
    exact va_Nw.same rfl hv.symm (h.2.2.2.2.1 _ hw), va_AO.moved hA h.2.2.2.2.2.1, va_AO.moved hA h.2.2.2.2.2.2.1, va_AO.moved hA h.2.2.2.2.2.2.2⟩
/-! locals by their places -/
def gDl (o : Option Value) : Option Value := match o with
  | some (.long _) => none
  | some (.double _) => none
  | o => o
def gS1 : List (Option Value) → Nat → Value → List (Option Value)
  | [], _, _ => []
  | o :: r, i, v => match i with
    | 0 => some v :: r
    | 1 => gDl o :: gS1 r 0 v
    | i + 2 => o :: gS1 r (i + 1) v
def gS2 : List (Option Value) → Nat → Value → List (Option Value)
  | [], _, _ => []
  | o :: r, i, v => match i with
    | 0 => match r with
      | [] => [some v]
      | _ :: r' => some v :: none :: r'
    | 1 => gDl o :: gS2 r 0 v
    | i + 2 => o :: gS2 r (i + 1) v
theorem gDl_some {o : Option Value} {w : Value} (h : gDl o = some w) : o = some w ∧ ¬ w.category = 2 := by
  cases o with
  | none => cases h
  | some v => cases v <;> simp [gDl] at h <;> subst h <;> simp [Value.category]
theorem gS1_some : ∀ (l : List (Option Value)) (i : Nat) (v : Value) (j : Nat) (w : Value), (gS1 l i v)[j]? = some (some w) → (j = i ∧ w = v) ∨ (l[j]? = some (some w) ∧ ¬ j = i ∧ ¬ (j + 1 = i ∧ w.category = 2))
  | [], i, v, j, w, h => by simp [gS1] at h
  | o :: r, 0, v, j, w, h => by
    cases j with
    | zero => simp [gS1] at h; exact Or.inl ⟨rfl, h.symm⟩
    | succ j => simp [gS1] at h; exact Or.inr ⟨by simpa using h, by omega, by omega⟩
  | o :: r, 1, v, j, w, h => by
    cases j with
    | zero =>
      simp only [gS1, List.getElem?_cons_zero, Option.some.injEq] at h
      obtain ⟨h1, h2⟩ := gDl_some h
      exact Or.inr ⟨by simp [h1], by omega, fun q => h2 q.2⟩
    | succ j =>
      simp only [gS1, List.getElem?_cons_succ] at h
      rcases gS1_some r 0 v j w h with ⟨a, b⟩ | ⟨a, b, -⟩
      · exact Or.inl ⟨by omega, b⟩
      · exact Or.inr ⟨by simpa using a, by omega, by omega⟩
  | o :: r, i + 2, v, j, w, h => by
    cases j with
    | zero => simp only [gS1, List.getElem?_cons_zero, Option.some.injEq] at h; exact Or.inr ⟨by simp [h], by omega, by omega⟩
    | succ j =>
      simp only [gS1, List.getElem?_cons_succ] at h
      rcases gS1_some r (i + 1) v j w h with ⟨a, b⟩ | ⟨a, b, c⟩
      · exact Or.inl ⟨by omega, b⟩
      · exact Or.inr ⟨by simpa using a, by omega, fun q => c ⟨by omega, q.2⟩⟩
theorem gS2_some : ∀ (l : List (Option Value)) (i : Nat) (v : Value) (j : Nat) (w : Value), (gS2 l i v)[j]? = some (some w) → (j = i ∧ w = v) ∨ (l[j]? = some (some w) ∧ ¬ j = i ∧ ¬ j = i + 1 ∧ ¬ (j + 1 = i ∧ w.category = 2))
  | [], i, v, j, w, h => by simp [gS2] at h
  | [o], 0, v, j, w, h => by
    cases j with
    | zero => simp [gS2] at h; exact Or.inl ⟨rfl, h.symm⟩
    | succ j => simp [gS2] at h
  | o :: o' :: r, 0, v, j, w, h => by
    match j with
    | 0 => simp [gS2] at h; exact Or.inl ⟨rfl, h.symm⟩
    | 1 => simp [gS2] at h
    | j + 2 => simp [gS2] at h; exact Or.inr ⟨by simpa using h, by omega, by omega, by omega⟩
  | o :: r, 1, v, j, w, h => by
    cases j with
    | zero =>
      simp only [gS2, List.getElem?_cons_zero, Option.some.injEq] at h
      obtain ⟨h1, h2⟩ := gDl_some h
      exact Or.inr ⟨by simp [h1], by omega, by omega, fun q => h2 q.2⟩
    | succ j =>
      simp only [gS2, List.getElem?_cons_succ] at h
      rcases gS2_some r 0 v j w h with ⟨a, b⟩ | ⟨a, b, c, -⟩
      · exact Or.inl ⟨by omega, b⟩
      · exact Or.inr ⟨by simpa using a, by omega, by omega, by omega⟩
  | o :: r, i + 2, v, j, w, h => by
    cases j with
    | zero => simp only [gS2, List.getElem?_cons_zero, Option.some.injEq] at h; exact Or.inr ⟨by simp [h], by omega, by omega, by omega⟩
    | succ j =>
      simp only [gS2, List.getElem?_cons_succ] at h
      rcases gS2_some r (i + 1) v j w h with ⟨a, b⟩ | ⟨a, b, c, d⟩
      · exact Or.inl ⟨by omega, b⟩
      · exact Or.inr ⟨by simpa using a, by omega, by omega, fun q => d ⟨by omega, q.2⟩⟩
def gLs (ls : Array Slot) (nL : Nat) (l : List (Option Value)) : Prop := ls.size = nL ∧ lv_wf ls ∧ ∀ (i : Nat) (v : Value), l[i]? = some (some v) → ls[i]? = some (.val v)
def gEn (l : List (Option Value)) : List (Nat × Value) := (List.range l.length).filterMap fun i => (l.getD i none).map fun v => (i, v)
theorem gEn_mem {l : List (Option Value)} {q : Nat × Value} : q ∈ gEn l ↔ l[q.1]? = some (some q.2) := by
  obtain ⟨i, v⟩ := q
  simp only [gEn, List.mem_filterMap, List.mem_range, Option.map_eq_some_iff, Prod.mk.injEq, List.getD_eq_getElem?_getD]
  constructor
  · rintro ⟨j, h1, w, h2, rfl, rfl⟩
    rw [List.getElem?_eq_getElem h1] at h2 ⊢
    simpa using h2
  · intro h
    have hi : i < l.length := (List.getElem?_eq_some_iff.mp h).1
    exact ⟨i, hi, v, by rw [h]; rfl, rfl, rfl⟩
theorem gLs.has {ls : Array Slot} {nL : Nat} {l : List (Option Value)} (h : gLs ls nL l) : lv_has ls nL (gEn l) := ⟨h.1, h.2.1, fun q hq => h.2.2 _ _ (gEn_mem.mp hq)⟩
theorem gLs.at {ls : Array Slot} {nL : Nat} {l : List (Option Value)} (h : gLs ls nL l) {i : Nat} {v : Value} (hi : l[i]? = some (some v)) : ls[i]? = some (.val v) := h.2.2 i v hi
theorem gLs.s1 {ls : Array Slot} {nL i : Nat} {l : List (Option Value)} {v : Value} {lv : List (Nat × Value)} (hlv : (i, v) :: (gEn l).filter (fun q => !(q.1 == i) && !(q.1 + 1 == i && q.2.category == 2)) = lv) (h : lv_has ls nL lv) : gLs ls nL (gS1 l i v) := by
  subst hlv
  refine ⟨h.1, h.2.1, fun j w hj => ?_⟩
  rcases gS1_some l i v j w hj with ⟨rfl, rfl⟩ | ⟨a, b, c⟩
  · exact h.2.2 (j, w) List.mem_cons_self
  · refine h.2.2 (j, w) (List.mem_cons_of_mem _ (List.mem_filter.mpr ⟨gEn_mem.mpr a, ?_⟩))
    simp only [Bool.and_eq_true, Bool.not_eq_true', beq_eq_false_iff_ne, ne_eq, Bool.and_eq_false_iff]
    exact ⟨b, by by_cases z : j + 1 = i; exact Or.inr (fun q => c ⟨z, q⟩); exact Or.inl z⟩
theorem gLs.s2 {ls : Array Slot} {nL i : Nat} {l : List (Option Value)} {v : Value} {lv : List (Nat × Value)} (hlv : (i, v) :: (gEn l).filter (fun q => !(q.1 == i) && (!(q.1 == i + 1) && !(q.1 + 1 == i && q.2.category == 2))) = lv) (h : lv_has ls nL lv) : gLs ls nL (gS2 l i v) := by
  subst hlv
  refine ⟨h.1, h.2.1, fun j w hj => ?_⟩
  rcases gS2_some l i v j w hj with ⟨rfl, rfl⟩ | ⟨a, b, b2, c⟩
  · exact h.2.2 (j, w) List.mem_cons_self
  · refine h.2.2 (j, w) (List.mem_cons_of_mem _ (List.mem_filter.mpr ⟨gEn_mem.mpr a, ?_⟩))
    simp only [Bool.and_eq_true, Bool.not_eq_true', beq_eq_false_iff_ne, ne_eq, Bool.and_eq_false_iff]
    exact ⟨b, b2, by by_cases z : j + 1 = i; exact Or.inr (fun q => c ⟨z, q⟩); exact Or.inl z⟩
def gAr : List Value → List (Option Value)
  | [] => []
  | v :: r => match v with
    | .long x => some (.long x) :: none :: gAr r
    | .double x => some (.double x) :: none :: gAr r
    | v => some v :: gAr r
def gPad : Nat → List (Option Value) → List (Option Value)
  | 0, _ => []
  | n + 1, [] => none :: gPad n []
  | n + 1, o :: r => o :: gPad n r
theorem gPad_some : ∀ (n : Nat) (l : List (Option Value)) (j : Nat) (w : Value), (gPad n l)[j]? = some (some w) → l[j]? = some (some w)
  | 0, l, j, w, h => by simp [gPad] at h
  | n + 1, [], j, w, h => by
    cases j with
    | zero => simp [gPad] at h
    | succ j => simp only [gPad, List.getElem?_cons_succ] at h; have := gPad_some n [] j w h; simp at this
  | n + 1, o :: r, j, w, h => by
    cases j with
    | zero => simpa [gPad] using h
    | succ j => simp only [gPad, List.getElem?_cons_succ] at h ⊢; exact gPad_some n r j w h
theorem gAr_some : ∀ (vs : List Value) (i j : Nat) (w : Value), (gAr vs)[j]? = some (some w) → (i + j, w) ∈ lv_args i vs
  | [], i, j, w, h => by simp [gAr] at h
  | v :: r, i, j, w, h => by
    have c1 : ∀ (hv : gAr (v :: r) = some v :: gAr r) (hc : ¬ v.category = 2), (i + j, w) ∈ lv_args i (v :: r) := by
      intro hv hc
      rw [hv] at h
      rw [lv_args, if_neg hc]
      cases j with
      | zero => simp at h; subst h; exact List.mem_cons_self
      | succ j => have := gAr_some r (i + 1) j w (by simpa using h); rw [show i + 1 + j = i + (j + 1) by omega] at this; exact List.mem_cons_of_mem _ this
    have c2 : ∀ (hv : gAr (v :: r) = some v :: none :: gAr r) (hc : v.category = 2), (i + j, w) ∈ lv_args i (v :: r) := by
      intro hv hc
      rw [hv] at h
      rw [lv_args, if_pos hc]
      match j, h with
      | 0, h => simp at h; subst h; exact List.mem_cons_self
      | 1, h => simp at h
      | j + 2, h => have := gAr_some r (i + 2) j w (by simpa using h); rw [show i + 2 + j = i + (j + 2) by omega] at this; exact List.mem_cons_of_mem _ this
    cases v <;> first | exact c1 rfl (by simp [Value.category]) | exact c2 rfl (by simp [Value.category])
/-! the walk -/
def gCx (E : gEv) (y : MethodName) (cc : ByteArray) (nL : Nat) (ret : Option FieldType) (p : Program) (s : State) (mi : MethodId) (args : Array Value) (meth : Method) (c : Code) : Prop :=
  p.tables.exec = Jvm.exec ∧ c.code = cc ∧ meth.sig.returnType = ret ∧ c.maxLocals = nL ∧ s.vm.findClass y.cls = some mi.cls ∧ (∀ w ∈ gT, w.before args s = true) ∧ meth.locks = false ∧ meth.name = y.name ∧ gK E s
abbrev gFT : Type := List Frame → Array Value → State → State → Prop
def gJ (E : gEv) (y : MethodName) (cc : ByteArray) (nL : Nat) (ret : Option FieldType) (R : Room) (F : gFT) (pc : Nat) (l : List (Option Value)) (st : List Value) (ck cn : Nat) (σ : gSg) (m : gMem) (hi : Nat) : Prop :=
  ∀ (p : Program) (e : Env) (s : State) (mi : MethodId) (args : Array Value) (below : List Frame) (meth : Method) (c : Code), gCx E y cc nL ret p s mi args meth c → ∀ (H : Heap) (locs : List Loc) (ls : Array Slot), gRep E σ m hi H → (∀ q ∈ locs, gB E ≤ q.base) → gLs ls nL l → W p E.1 e R s mi args below meth c H locs ck cn (F below args s) (F0 mi pc ls st)
abbrev gQT : Type := Option Value → gSg → gMem → Nat → Prop
def gQc (E : gEv) (Q : gQT) : Array Value → State → Outcome → State → Prop := fun _ _ oc t => ∃ (v : Option Value) (σ : gSg) (m : gMem) (hi : Nat), oc = .returned v ∧ Q v σ m hi ∧ gRep E σ m hi t.heap
def gFn (E : gEv) (Q : gQT) (mc ms : Nat) : gFT := fun below args s => MQ below (gQc E Q) args s mc ms (gA E)
def gRm (d mc ms : Nat) : Room := { frames := d, cells := mc, slots := ms, locals := 40 * d }
/-- a method's contract -/
def gCt (E : gEv) (y : MethodName) (cc : ByteArray) (nL : Nat) (ret : Option FieldType) (d mc ms : Nat) (As : List Value) (σ : gSg) (m : gMem) (hi : Nat) (Q : gQT) : Prop :=
  Met E.1 y (Cond.code y cc nL ret :: gT) (gRm d mc ms) (va_Pc As (fun U => gRep E σ m hi U.heap ∧ gK E U)) (gQc E Q) mc ms (gA E)
theorem gCt.of {E : gEv} {y : MethodName} {cc : ByteArray} {nL n : Nat} {ret : Option FieldType} {d mc ms : Nat} {As : List Value} {σ : gSg} {m : gMem} {hi : Nat} {Q : gQT} (hw : gMw y cc nL ret n) (hn : (lg_sl As).length ≤ nL)
    (h : ∀ F : gFT, F = gFn E Q mc ms → gJ E y cc nL ret (gRm d mc ms) F 0 (gPad nL (gAr As)) [] 0 0 σ m hi) : gCt E y cc nL ret d mc ms As σ m hi Q := by
  refine Met.ofW (cc := cc) (maxL := nL) (ret := ret) hw.2.2.2.1 rfl ?_
  intro p e s mi args below meth c s₁ B hml hv
  obtain ⟨rfl, hP, hK⟩ := hv
  have hts := atoms_spec (ws := Cond.code y cc nL ret :: gT) B.pre
  have hl := lv_entry As (n := nL) hn
  rw [lg_entry_eq]
  refine h _ rfl p e s mi _ below meth c ⟨B.exec, B.bytes, B.returns, hml, findClass_of_methodNamed B.named, fun w hw => hts w (List.mem_cons_of_mem _ hw), B.notSynchronized, (name_of_methodNamed B.named B.method).1, hK⟩ s.heap [] _ hP (fun q hq => by cases hq) ⟨hl.1, hl.2.1, fun i v hi => ?_⟩
  have h1 := gAr_some As 0 i v (gPad_some nL _ i v hi)
  rw [Nat.zero_add] at h1
  exact hl.2.2 (i, v) h1
section GJ
variable {E : gEv} {y : MethodName} {cc : ByteArray} {nL : Nat} {ret : Option FieldType} {R : Room} {F : gFT} {pc q : Nat} {l : List (Option Value)} {st : List Value} {ck cn : Nat} {σ : gSg} {m : gMem} {hi : Nat}
theorem gJ.at {pc' : Nat} (h : pc = pc') (k : gJ E y cc nL ret R F pc' l st ck cn σ m hi) : gJ E y cc nL ret R F pc l st ck cn σ m hi := h ▸ k
theorem j_iconst {n : Int} {v : Int32} (hd : decode cc pc = .ok (.iconst n, 1)) (hq : pc + 1 = q) (hv : Int32.ofInt n = v) (kk : gJ E y cc nL ret R F q l (.int v :: st) ck cn σ m hi) : gJ E y cc nL ret R F pc l (st) ck cn σ m hi := by
  subst hq
  exact fun p e s mi args below meth c C H locs ls hR hL hl => lv_iconst C.1 C.2.1 hd hv (kk p e s mi args below meth c C H locs ls hR hL hl)
theorem j_bipush {n : Int} {v : Int32} (hd : decode cc pc = .ok (.bipush n, 2)) (hq : pc + 2 = q) (hv : (Int8.ofInt n).toInt32 = v) (kk : gJ E y cc nL ret R F q l (.int v :: st) ck cn σ m hi) : gJ E y cc nL ret R F pc l (st) ck cn σ m hi := by
  subst hq
  exact fun p e s mi args below meth c C H locs ls hR hL hl => lv_bipush C.1 C.2.1 hd hv (kk p e s mi args below meth c C H locs ls hR hL hl)
theorem j_sipush {n : Int} {v : Int32} (hd : decode cc pc = .ok (.sipush n, 3)) (hq : pc + 3 = q) (hv : (Int16.ofInt n).toInt32 = v) (kk : gJ E y cc nL ret R F q l (.int v :: st) ck cn σ m hi) : gJ E y cc nL ret R F pc l (st) ck cn σ m hi := by
  subst hq
  exact fun p e s mi args below meth c C H locs ls hR hL hl => lv_sipush C.1 C.2.1 hd hv (kk p e s mi args below meth c C H locs ls hR hL hl)
theorem j_lconst {n : Fin 2} {v : Int64} (hd : decode cc pc = .ok (.lconst n, 1)) (hq : pc + 1 = q) (hv : Int64.ofNat (n : Nat) = v) (kk : gJ E y cc nL ret R F q l (.long v :: st) ck cn σ m hi) : gJ E y cc nL ret R F pc l (st) ck cn σ m hi := by
  subst hq
  exact fun p e s mi args below meth c C H locs ls hR hL hl => lv_lconst C.1 C.2.1 hd hv (kk p e s mi args below meth c C H locs ls hR hL hl)
theorem j_iload_n {k : Fin 4} {x : Int32} (hd : decode cc pc = .ok (.iload_n k, 1)) (hq : pc + 1 = q) (hv : l[(k : Nat)]? = some (some (.int x))) (kk : gJ E y cc nL ret R F q l (.int x :: st) ck cn σ m hi) : gJ E y cc nL ret R F pc l (st) ck cn σ m hi := by
  subst hq
  exact fun p e s mi args below meth c C H locs ls hR hL hl => lv_iload_n C.1 C.2.1 hd rfl (hl.at hv) (kk p e s mi args below meth c C H locs ls hR hL hl)
theorem j_iload {i : Nat} {x : Int32} (hd : decode cc pc = .ok (.iload i, 2)) (hq : pc + 2 = q) (hv : l[i]? = some (some (.int x))) (kk : gJ E y cc nL ret R F q l (.int x :: st) ck cn σ m hi) : gJ E y cc nL ret R F pc l (st) ck cn σ m hi := by
  subst hq
  exact fun p e s mi args below meth c C H locs ls hR hL hl => lv_iload C.1 C.2.1 hd (hl.at hv) (kk p e s mi args below meth c C H locs ls hR hL hl)
theorem j_istore_n {k : Fin 4} {x : Int32} (hd : decode cc pc = .ok (.istore_n k, 1)) (hq : pc + 1 = q) (hn : (k : Nat) < nL) (kk : gJ E y cc nL ret R F q (gS1 l (k : Nat) (.int x)) st ck cn σ m hi) : gJ E y cc nL ret R F pc l (.int x :: st) ck cn σ m hi := by
  subst hq
  exact fun p e s mi args below meth c C H locs ls hR hL hl => lv_istore_n C.1 C.2.1 hd rfl hl.has hn rfl (fun ls' hl' => kk p e s mi args below meth c C H locs ls' hR hL (gLs.s1 rfl hl'))
theorem j_istore {i : Nat} {x : Int32} (hd : decode cc pc = .ok (.istore i, 2)) (hq : pc + 2 = q) (hn : i < nL) (kk : gJ E y cc nL ret R F q (gS1 l i (.int x)) st ck cn σ m hi) : gJ E y cc nL ret R F pc l (.int x :: st) ck cn σ m hi := by
  subst hq
  exact fun p e s mi args below meth c C H locs ls hR hL hl => lv_istore C.1 C.2.1 hd hl.has hn rfl (fun ls' hl' => kk p e s mi args below meth c C H locs ls' hR hL (gLs.s1 rfl hl'))
theorem j_lload_n {k : Fin 4} {x : Int64} (hd : decode cc pc = .ok (.lload_n k, 1)) (hq : pc + 1 = q) (hv : l[(k : Nat)]? = some (some (.long x))) (kk : gJ E y cc nL ret R F q l (.long x :: st) ck cn σ m hi) : gJ E y cc nL ret R F pc l (st) ck cn σ m hi := by
  subst hq
  exact fun p e s mi args below meth c C H locs ls hR hL hl => lv_lload_n C.1 C.2.1 hd rfl (hl.at hv) (kk p e s mi args below meth c C H locs ls hR hL hl)
theorem j_lload {i : Nat} {x : Int64} (hd : decode cc pc = .ok (.lload i, 2)) (hq : pc + 2 = q) (hv : l[i]? = some (some (.long x))) (kk : gJ E y cc nL ret R F q l (.long x :: st) ck cn σ m hi) : gJ E y cc nL ret R F pc l (st) ck cn σ m hi := by
  subst hq
  exact fun p e s mi args below meth c C H locs ls hR hL hl => lv_lload C.1 C.2.1 hd (hl.at hv) (kk p e s mi args below meth c C H locs ls hR hL hl)
theorem j_lstore_n {k : Fin 4} {x : Int64} (hd : decode cc pc = .ok (.lstore_n k, 1)) (hq : pc + 1 = q) (hn : (k : Nat) + 1 < nL) (kk : gJ E y cc nL ret R F q (gS2 l (k : Nat) (.long x)) st ck cn σ m hi) : gJ E y cc nL ret R F pc l (.long x :: st) ck cn σ m hi := by
  subst hq
  exact fun p e s mi args below meth c C H locs ls hR hL hl => lv_lstore_n C.1 C.2.1 hd rfl hl.has hn rfl (fun ls' hl' => kk p e s mi args below meth c C H locs ls' hR hL (gLs.s2 rfl hl'))
theorem j_lstore {i : Nat} {x : Int64} (hd : decode cc pc = .ok (.lstore i, 2)) (hq : pc + 2 = q) (hn : i + 1 < nL) (kk : gJ E y cc nL ret R F q (gS2 l i (.long x)) st ck cn σ m hi) : gJ E y cc nL ret R F pc l (.long x :: st) ck cn σ m hi := by
  subst hq
  exact fun p e s mi args below meth c C H locs ls hR hL hl => lv_lstore C.1 C.2.1 hd hl.has hn rfl (fun ls' hl' => kk p e s mi args below meth c C H locs ls' hR hL (gLs.s2 rfl hl'))
theorem j_aload_n {k : Fin 4} {x : Nat} (hd : decode cc pc = .ok (.aload_n k, 1)) (hq : pc + 1 = q) (hv : l[(k : Nat)]? = some (some (.ref x))) (kk : gJ E y cc nL ret R F q l (.ref x :: st) ck cn σ m hi) : gJ E y cc nL ret R F pc l (st) ck cn σ m hi := by
  subst hq
  exact fun p e s mi args below meth c C H locs ls hR hL hl => lv_aload_n C.1 C.2.1 hd rfl (hl.at hv) (kk p e s mi args below meth c C H locs ls hR hL hl)
theorem j_aload {i : Nat} {x : Nat} (hd : decode cc pc = .ok (.aload i, 2)) (hq : pc + 2 = q) (hv : l[i]? = some (some (.ref x))) (kk : gJ E y cc nL ret R F q l (.ref x :: st) ck cn σ m hi) : gJ E y cc nL ret R F pc l (st) ck cn σ m hi := by
  subst hq
  exact fun p e s mi args below meth c C H locs ls hR hL hl => lv_aload C.1 C.2.1 hd (hl.at hv) (kk p e s mi args below meth c C H locs ls hR hL hl)
theorem j_astore_n {k : Fin 4} {x : Nat} (hd : decode cc pc = .ok (.astore_n k, 1)) (hq : pc + 1 = q) (hn : (k : Nat) < nL) (kk : gJ E y cc nL ret R F q (gS1 l (k : Nat) (.ref x)) st ck cn σ m hi) : gJ E y cc nL ret R F pc l (.ref x :: st) ck cn σ m hi := by
  subst hq
  exact fun p e s mi args below meth c C H locs ls hR hL hl => lv_astore_n C.1 C.2.1 hd rfl hl.has hn rfl (fun ls' hl' => kk p e s mi args below meth c C H locs ls' hR hL (gLs.s1 rfl hl'))
theorem j_astore {i : Nat} {x : Nat} (hd : decode cc pc = .ok (.astore i, 2)) (hq : pc + 2 = q) (hn : i < nL) (kk : gJ E y cc nL ret R F q (gS1 l i (.ref x)) st ck cn σ m hi) : gJ E y cc nL ret R F pc l (.ref x :: st) ck cn σ m hi := by
  subst hq
  exact fun p e s mi args below meth c C H locs ls hR hL hl => lv_astore C.1 C.2.1 hd hl.has hn rfl (fun ls' hl' => kk p e s mi args below meth c C H locs ls' hR hL (gLs.s1 rfl hl'))
theorem j_iinc {i : Nat} {n : Int} {x v : Int32} (hd : decode cc pc = .ok (.iinc i n, 3)) (hq : pc + 3 = q) (hv : l[i]? = some (some (.int x))) (hx : x + Int32.ofInt n = v) (hn : i < nL) (kk : gJ E y cc nL ret R F q (gS1 l i (.int v)) st ck cn σ m hi) : gJ E y cc nL ret R F pc l st ck cn σ m hi := by
  subst hq
  intro p e s mi args below meth c C H locs ls hR hL hl
  obtain ⟨k, hk⟩ := List.getElem?_of_mem (gEn_mem.mpr hv : (i, Value.int x) ∈ gEn l)
  exact lv_iinc C.1 C.2.1 hd hl.has hk hx hn rfl (fun ls' hl' => kk p e s mi args below meth c C H locs ls' hR hL (gLs.s1 rfl hl'))
theorem j_iadd {x z : Int32} (hd : decode cc pc = .ok (.iadd, 1)) (hq : pc + 1 = q)  (kk : gJ E y cc nL ret R F q l (.int (x + z) :: st) ck cn σ m hi) : gJ E y cc nL ret R F pc l (.int z :: .int x :: st) ck cn σ m hi := by
  subst hq
  exact fun p e s mi args below meth c C H locs ls hR hL hl => lv_iadd C.1 C.2.1 hd  (kk p e s mi args below meth c C H locs ls hR hL hl)
theorem j_isub {x z : Int32} (hd : decode cc pc = .ok (.isub, 1)) (hq : pc + 1 = q)  (kk : gJ E y cc nL ret R F q l (.int (x - z) :: st) ck cn σ m hi) : gJ E y cc nL ret R F pc l (.int z :: .int x :: st) ck cn σ m hi := by
  subst hq
  exact fun p e s mi args below meth c C H locs ls hR hL hl => lv_isub C.1 C.2.1 hd  (kk p e s mi args below meth c C H locs ls hR hL hl)
theorem j_imul {x z : Int32} (hd : decode cc pc = .ok (.imul, 1)) (hq : pc + 1 = q)  (kk : gJ E y cc nL ret R F q l (.int (x * z) :: st) ck cn σ m hi) : gJ E y cc nL ret R F pc l (.int z :: .int x :: st) ck cn σ m hi := by
  subst hq
  exact fun p e s mi args below meth c C H locs ls hR hL hl => lv_imul C.1 C.2.1 hd  (kk p e s mi args below meth c C H locs ls hR hL hl)
theorem j_iand {x z : Int32} (hd : decode cc pc = .ok (.iand, 1)) (hq : pc + 1 = q)  (kk : gJ E y cc nL ret R F q l (.int (x &&& z) :: st) ck cn σ m hi) : gJ E y cc nL ret R F pc l (.int z :: .int x :: st) ck cn σ m hi := by
  subst hq
  exact fun p e s mi args below meth c C H locs ls hR hL hl => lv_iand C.1 C.2.1 hd  (kk p e s mi args below meth c C H locs ls hR hL hl)
theorem j_ior {x z : Int32} (hd : decode cc pc = .ok (.ior, 1)) (hq : pc + 1 = q)  (kk : gJ E y cc nL ret R F q l (.int (x ||| z) :: st) ck cn σ m hi) : gJ E y cc nL ret R F pc l (.int z :: .int x :: st) ck cn σ m hi := by
  subst hq
  exact fun p e s mi args below meth c C H locs ls hR hL hl => lv_ior C.1 C.2.1 hd  (kk p e s mi args below meth c C H locs ls hR hL hl)
theorem j_ixor {x z : Int32} (hd : decode cc pc = .ok (.ixor, 1)) (hq : pc + 1 = q)  (kk : gJ E y cc nL ret R F q l (.int (x ^^^ z) :: st) ck cn σ m hi) : gJ E y cc nL ret R F pc l (.int z :: .int x :: st) ck cn σ m hi := by
  subst hq
  exact fun p e s mi args below meth c C H locs ls hR hL hl => lv_ixor C.1 C.2.1 hd  (kk p e s mi args below meth c C H locs ls hR hL hl)
theorem j_ishl {x z : Int32} (hd : decode cc pc = .ok (.ishl, 1)) (hq : pc + 1 = q)  (kk : gJ E y cc nL ret R F q l (.int (x <<< (z &&& 31)) :: st) ck cn σ m hi) : gJ E y cc nL ret R F pc l (.int z :: .int x :: st) ck cn σ m hi := by
  subst hq
  exact fun p e s mi args below meth c C H locs ls hR hL hl => lv_ishl C.1 C.2.1 hd  (kk p e s mi args below meth c C H locs ls hR hL hl)
theorem j_ishr {x z : Int32} (hd : decode cc pc = .ok (.ishr, 1)) (hq : pc + 1 = q)  (kk : gJ E y cc nL ret R F q l (.int (x >>> (z &&& 31)) :: st) ck cn σ m hi) : gJ E y cc nL ret R F pc l (.int z :: .int x :: st) ck cn σ m hi := by
  subst hq
  exact fun p e s mi args below meth c C H locs ls hR hL hl => lv_ishr C.1 C.2.1 hd  (kk p e s mi args below meth c C H locs ls hR hL hl)
theorem j_ladd {x z : Int64} (hd : decode cc pc = .ok (.ladd, 1)) (hq : pc + 1 = q)  (kk : gJ E y cc nL ret R F q l (.long (x + z) :: st) ck cn σ m hi) : gJ E y cc nL ret R F pc l (.long z :: .long x :: st) ck cn σ m hi := by
  subst hq
  exact fun p e s mi args below meth c C H locs ls hR hL hl => lv_ladd C.1 C.2.1 hd  (kk p e s mi args below meth c C H locs ls hR hL hl)
theorem j_lsub {x z : Int64} (hd : decode cc pc = .ok (.lsub, 1)) (hq : pc + 1 = q)  (kk : gJ E y cc nL ret R F q l (.long (x - z) :: st) ck cn σ m hi) : gJ E y cc nL ret R F pc l (.long z :: .long x :: st) ck cn σ m hi := by
  subst hq
  exact fun p e s mi args below meth c C H locs ls hR hL hl => lv_lsub C.1 C.2.1 hd  (kk p e s mi args below meth c C H locs ls hR hL hl)
theorem j_lmul {x z : Int64} (hd : decode cc pc = .ok (.lmul, 1)) (hq : pc + 1 = q)  (kk : gJ E y cc nL ret R F q l (.long (x * z) :: st) ck cn σ m hi) : gJ E y cc nL ret R F pc l (.long z :: .long x :: st) ck cn σ m hi := by
  subst hq
  exact fun p e s mi args below meth c C H locs ls hR hL hl => lv_lmul C.1 C.2.1 hd  (kk p e s mi args below meth c C H locs ls hR hL hl)
theorem j_land {x z : Int64} (hd : decode cc pc = .ok (.land, 1)) (hq : pc + 1 = q)  (kk : gJ E y cc nL ret R F q l (.long (x &&& z) :: st) ck cn σ m hi) : gJ E y cc nL ret R F pc l (.long z :: .long x :: st) ck cn σ m hi := by
  subst hq
  exact fun p e s mi args below meth c C H locs ls hR hL hl => lv_land C.1 C.2.1 hd  (kk p e s mi args below meth c C H locs ls hR hL hl)
theorem j_lor {x z : Int64} (hd : decode cc pc = .ok (.lor, 1)) (hq : pc + 1 = q)  (kk : gJ E y cc nL ret R F q l (.long (x ||| z) :: st) ck cn σ m hi) : gJ E y cc nL ret R F pc l (.long z :: .long x :: st) ck cn σ m hi := by
  subst hq
  exact fun p e s mi args below meth c C H locs ls hR hL hl => lv_lor C.1 C.2.1 hd  (kk p e s mi args below meth c C H locs ls hR hL hl)
theorem j_idiv {x z : Int32} (hd : decode cc pc = .ok (.idiv, 1)) (hq : pc + 1 = q) (hz : ¬ z = 0) (kk : gJ E y cc nL ret R F q l (.int (x / z) :: st) ck cn σ m hi) : gJ E y cc nL ret R F pc l (.int z :: .int x :: st) ck cn σ m hi := by
  subst hq
  exact fun p e s mi args below meth c C H locs ls hR hL hl => lv_idiv C.1 C.2.1 hd hz (kk p e s mi args below meth c C H locs ls hR hL hl)
theorem j_irem {x z : Int32} (hd : decode cc pc = .ok (.irem, 1)) (hq : pc + 1 = q) (hz : ¬ z = 0) (kk : gJ E y cc nL ret R F q l (.int (x - x / z * z) :: st) ck cn σ m hi) : gJ E y cc nL ret R F pc l (.int z :: .int x :: st) ck cn σ m hi := by
  subst hq
  exact fun p e s mi args below meth c C H locs ls hR hL hl => lv_irem C.1 C.2.1 hd hz (kk p e s mi args below meth c C H locs ls hR hL hl)
theorem j_ldiv {x z : Int64} (hd : decode cc pc = .ok (.ldiv, 1)) (hq : pc + 1 = q) (hz : ¬ z = 0) (kk : gJ E y cc nL ret R F q l (.long (x / z) :: st) ck cn σ m hi) : gJ E y cc nL ret R F pc l (.long z :: .long x :: st) ck cn σ m hi := by
  subst hq
  exact fun p e s mi args below meth c C H locs ls hR hL hl => lv_ldiv C.1 C.2.1 hd hz (kk p e s mi args below meth c C H locs ls hR hL hl)
theorem j_lrem {x z : Int64} (hd : decode cc pc = .ok (.lrem, 1)) (hq : pc + 1 = q) (hz : ¬ z = 0) (kk : gJ E y cc nL ret R F q l (.long (x - x / z * z) :: st) ck cn σ m hi) : gJ E y cc nL ret R F pc l (.long z :: .long x :: st) ck cn σ m hi := by
  subst hq
  exact fun p e s mi args below meth c C H locs ls hR hL hl => lv_lrem C.1 C.2.1 hd hz (kk p e s mi args below meth c C H locs ls hR hL hl)
theorem j_i2l {x : Int32} (hd : decode cc pc = .ok (.i2l, 1)) (hq : pc + 1 = q)  (kk : gJ E y cc nL ret R F q l (.long x.toInt64 :: st) ck cn σ m hi) : gJ E y cc nL ret R F pc l (.int x :: st) ck cn σ m hi := by
  subst hq
  exact fun p e s mi args below meth c C H locs ls hR hL hl => lv_i2l C.1 C.2.1 hd rfl (kk p e s mi args below meth c C H locs ls hR hL hl)
theorem j_l2i {x : Int64} (hd : decode cc pc = .ok (.l2i, 1)) (hq : pc + 1 = q)  (kk : gJ E y cc nL ret R F q l (.int x.toInt32 :: st) ck cn σ m hi) : gJ E y cc nL ret R F pc l (.long x :: st) ck cn σ m hi := by
  subst hq
  exact fun p e s mi args below meth c C H locs ls hR hL hl => lv_l2i C.1 C.2.1 hd rfl (kk p e s mi args below meth c C H locs ls hR hL hl)
theorem j_i2b {x : Int32} (hd : decode cc pc = .ok (.i2b, 1)) (hq : pc + 1 = q)  (kk : gJ E y cc nL ret R F q l (.int x.toInt8.toInt32 :: st) ck cn σ m hi) : gJ E y cc nL ret R F pc l (.int x :: st) ck cn σ m hi := by
  subst hq
  exact fun p e s mi args below meth c C H locs ls hR hL hl => lv_i2b C.1 C.2.1 hd rfl (kk p e s mi args below meth c C H locs ls hR hL hl)
theorem j_i2s {x : Int32} (hd : decode cc pc = .ok (.i2s, 1)) (hq : pc + 1 = q)  (kk : gJ E y cc nL ret R F q l (.int x.toInt16.toInt32 :: st) ck cn σ m hi) : gJ E y cc nL ret R F pc l (.int x :: st) ck cn σ m hi := by
  subst hq
  exact fun p e s mi args below meth c C H locs ls hR hL hl => lv_i2s C.1 C.2.1 hd rfl (kk p e s mi args below meth c C H locs ls hR hL hl)
theorem j_iushr {x z : Int32} (hd : decode cc pc = .ok (.iushr, 1)) (hq : pc + 1 = q)  (kk : gJ E y cc nL ret R F q l (.int (x.toUInt32 >>> (z.toUInt32 &&& Int32.toUInt32 31)).toInt32 :: st) ck cn σ m hi) : gJ E y cc nL ret R F pc l (.int z :: .int x :: st) ck cn σ m hi := by
  subst hq
  exact fun p e s mi args below meth c C H locs ls hR hL hl => lv_iushr C.1 C.2.1 hd rfl (kk p e s mi args below meth c C H locs ls hR hL hl)
theorem j_lushr {x : Int64} {z : Int32} (hd : decode cc pc = .ok (.lushr, 1)) (hq : pc + 1 = q)  (kk : gJ E y cc nL ret R F q l (.long (x.toUInt64 >>> (z.toInt64.toUInt64 &&& Int64.toUInt64 63)).toInt64 :: st) ck cn σ m hi) : gJ E y cc nL ret R F pc l (.int z :: .long x :: st) ck cn σ m hi := by
  subst hq
  exact fun p e s mi args below meth c C H locs ls hR hL hl => lv_lushr C.1 C.2.1 hd rfl (kk p e s mi args below meth c C H locs ls hR hL hl)
theorem j_lshl {x : Int64} {z : Int32} (hd : decode cc pc = .ok (.lshl, 1)) (hq : pc + 1 = q)  (kk : gJ E y cc nL ret R F q l (.long (x <<< (z.toInt64 &&& 63)) :: st) ck cn σ m hi) : gJ E y cc nL ret R F pc l (.int z :: .long x :: st) ck cn σ m hi := by
  subst hq
  exact fun p e s mi args below meth c C H locs ls hR hL hl => lv_lshl C.1 C.2.1 hd rfl (kk p e s mi args below meth c C H locs ls hR hL hl)
theorem j_lcmp {x z : Int64} (hd : decode cc pc = .ok (.lcmp, 1)) (hq : pc + 1 = q)  (kk : gJ E y cc nL ret R F q l (.int (lg_cmp x z) :: st) ck cn σ m hi) : gJ E y cc nL ret R F pc l (.long z :: .long x :: st) ck cn σ m hi := by
  subst hq
  exact fun p e s mi args below meth c C H locs ls hR hL hl => W.lcmp C.1 C.2.1 hd  (kk p e s mi args below meth c C H locs ls hR hL hl)
theorem j_dup {v : Value} (hd : decode cc pc = .ok (.dup, 1)) (hq : pc + 1 = q) (hv : v.category = 1) (kk : gJ E y cc nL ret R F q l (v :: v :: st) ck cn σ m hi) : gJ E y cc nL ret R F pc l (v :: st) ck cn σ m hi := by
  subst hq
  exact fun p e s mi args below meth c C H locs ls hR hL hl => lv_dup C.1 C.2.1 hd hv (kk p e s mi args below meth c C H locs ls hR hL hl)
theorem j_pop {v : Value} (hd : decode cc pc = .ok (.pop, 1)) (hq : pc + 1 = q) (hv : v.category = 1) (kk : gJ E y cc nL ret R F q l (st) ck cn σ m hi) : gJ E y cc nL ret R F pc l (v :: st) ck cn σ m hi := by
  subst hq
  exact fun p e s mi args below meth c C H locs ls hR hL hl => lv_pop C.1 C.2.1 hd hv (kk p e s mi args below meth c C H locs ls hR hL hl)
theorem j_dup_x1 {v w : Value} (hd : decode cc pc = .ok (.dup_x1, 1)) (hq : pc + 1 = q) (hv : v.category = 1) (hw : w.category = 1) (kk : gJ E y cc nL ret R F q l (v :: w :: v :: st) ck cn σ m hi) : gJ E y cc nL ret R F pc l (v :: w :: st) ck cn σ m hi := by
  subst hq
  exact fun p e s mi args below meth c C H locs ls hR hL hl => lv_dup_x1 C.1 C.2.1 hd hv hw (kk p e s mi args below meth c C H locs ls hR hL hl)
theorem j_dup2 {v w : Value} (hd : decode cc pc = .ok (.dup2, 1)) (hq : pc + 1 = q) (hv : v.category = 1) (hw : w.category = 1) (kk : gJ E y cc nL ret R F q l (v :: w :: v :: w :: st) ck cn σ m hi) : gJ E y cc nL ret R F pc l (v :: w :: st) ck cn σ m hi := by
  subst hq
  exact fun p e s mi args below meth c C H locs ls hR hL hl => lv_dup2_11 C.1 C.2.1 hd hv hw (kk p e s mi args below meth c C H locs ls hR hL hl)
theorem j_ldc {index : Nat} {v : Int32} (hd : decode cc pc = .ok (.ldc index, 2)) (hq : pc + 2 = q) (hw : Cond.constant y.cls index v ∈ gT) (kk : gJ E y cc nL ret R F q l (.int v :: st) ck cn σ m hi) : gJ E y cc nL ret R F pc l (st) ck cn σ m hi := by
  subst hq
  exact fun p e s mi args below meth c C H locs ls hR hL hl => lv_ldc C.1 C.2.1 C.2.2.2.2.1 (C.2.2.2.2.2.1 _ hw) hd (kk p e s mi args below meth c C H locs ls hR hL hl)
theorem j_ldcw {index : Nat} {v : Int32} (hd : decode cc pc = .ok (.ldc_w index, 3)) (hq : pc + 3 = q) (hw : Cond.constant y.cls index v ∈ gT) (kk : gJ E y cc nL ret R F q l (.int v :: st) ck cn σ m hi) : gJ E y cc nL ret R F pc l (st) ck cn σ m hi := by
  subst hq
  exact fun p e s mi args below meth c C H locs ls hR hL hl => lv_ldcw C.1 C.2.1 C.2.2.2.2.1 (C.2.2.2.2.2.1 _ hw) hd (kk p e s mi args below meth c C H locs ls hR hL hl)
theorem j_ldc2 {index : Nat} {v : Int64} (hd : decode cc pc = .ok (.ldc2_w index, 3)) (hq : pc + 3 = q) (hw : Cond.constantLong y.cls index v ∈ gT) (kk : gJ E y cc nL ret R F q l (.long v :: st) ck cn σ m hi) : gJ E y cc nL ret R F pc l (st) ck cn σ m hi := by
  subst hq
  exact fun p e s mi args below meth c C H locs ls hR hL hl => lv_ldc2 C.1 C.2.1 C.2.2.2.2.1 (C.2.2.2.2.2.1 _ hw) hd (kk p e s mi args below meth c C H locs ls hR hL hl)
theorem j_if_eq {x : Int32} {off : Int} {tgt : Nat} (hd : decode cc pc = .ok (.ifCond .eq off, 3)) (hq : pc + 3 = q) (ht : (pc : Int) + off = (tgt : Int)) (kt : x = 0 → gJ E y cc nL ret R F tgt l st ck cn σ m hi) (kf : ¬ x = 0 → gJ E y cc nL ret R F q l st ck cn σ m hi) : gJ E y cc nL ret R F pc l (.int x :: st) ck cn σ m hi := by
  subst hq
  exact fun p e s mi args below meth c C H locs ls hR hL hl => lv_if_eq C.1 C.2.1 hd ht (fun h => kt h p e s mi args below meth c C H locs ls hR hL hl) (fun h => kf h p e s mi args below meth c C H locs ls hR hL hl)
theorem j_icmp_eq {x z : Int32} {off : Int} {tgt : Nat} (hd : decode cc pc = .ok (.if_icmp .eq off, 3)) (hq : pc + 3 = q) (ht : (pc : Int) + off = (tgt : Int)) (kt : x = z → gJ E y cc nL ret R F tgt l st ck cn σ m hi) (kf : ¬ x = z → gJ E y cc nL ret R F q l st ck cn σ m hi) : gJ E y cc nL ret R F pc l (.int z :: .int x :: st) ck cn σ m hi := by
  subst hq
  exact fun p e s mi args below meth c C H locs ls hR hL hl => lv_icmp_eq C.1 C.2.1 hd ht (fun h => kt h p e s mi args below meth c C H locs ls hR hL hl) (fun h => kf h p e s mi args below meth c C H locs ls hR hL hl)
theorem j_if_ne {x : Int32} {off : Int} {tgt : Nat} (hd : decode cc pc = .ok (.ifCond .ne off, 3)) (hq : pc + 3 = q) (ht : (pc : Int) + off = (tgt : Int)) (kt : ¬ x = 0 → gJ E y cc nL ret R F tgt l st ck cn σ m hi) (kf : x = 0 → gJ E y cc nL ret R F q l st ck cn σ m hi) : gJ E y cc nL ret R F pc l (.int x :: st) ck cn σ m hi := by
  subst hq
  exact fun p e s mi args below meth c C H locs ls hR hL hl => lv_if_ne C.1 C.2.1 hd ht (fun h => kt h p e s mi args below meth c C H locs ls hR hL hl) (fun h => kf h p e s mi args below meth c C H locs ls hR hL hl)
theorem j_icmp_ne {x z : Int32} {off : Int} {tgt : Nat} (hd : decode cc pc = .ok (.if_icmp .ne off, 3)) (hq : pc + 3 = q) (ht : (pc : Int) + off = (tgt : Int)) (kt : ¬ x = z → gJ E y cc nL ret R F tgt l st ck cn σ m hi) (kf : x = z → gJ E y cc nL ret R F q l st ck cn σ m hi) : gJ E y cc nL ret R F pc l (.int z :: .int x :: st) ck cn σ m hi := by
  subst hq
  exact fun p e s mi args below meth c C H locs ls hR hL hl => lv_icmp_ne C.1 C.2.1 hd ht (fun h => kt h p e s mi args below meth c C H locs ls hR hL hl) (fun h => kf h p e s mi args below meth c C H locs ls hR hL hl)
theorem j_if_lt {x : Int32} {off : Int} {tgt : Nat} (hd : decode cc pc = .ok (.ifCond .lt off, 3)) (hq : pc + 3 = q) (ht : (pc : Int) + off = (tgt : Int)) (kt : x < 0 → gJ E y cc nL ret R F tgt l st ck cn σ m hi) (kf : ¬ x < 0 → gJ E y cc nL ret R F q l st ck cn σ m hi) : gJ E y cc nL ret R F pc l (.int x :: st) ck cn σ m hi := by
  subst hq
  exact fun p e s mi args below meth c C H locs ls hR hL hl => lv_if_lt C.1 C.2.1 hd ht (fun h => kt h p e s mi args below meth c C H locs ls hR hL hl) (fun h => kf h p e s mi args below meth c C H locs ls hR hL hl)
theorem j_icmp_lt {x z : Int32} {off : Int} {tgt : Nat} (hd : decode cc pc = .ok (.if_icmp .lt off, 3)) (hq : pc + 3 = q) (ht : (pc : Int) + off = (tgt : Int)) (kt : x < z → gJ E y cc nL ret R F tgt l st ck cn σ m hi) (kf : ¬ x < z → gJ E y cc nL ret R F q l st ck cn σ m hi) : gJ E y cc nL ret R F pc l (.int z :: .int x :: st) ck cn σ m hi := by
  subst hq
  exact fun p e s mi args below meth c C H locs ls hR hL hl => lv_icmp_lt C.1 C.2.1 hd ht (fun h => kt h p e s mi args below meth c C H locs ls hR hL hl) (fun h => kf h p e s mi args below meth c C H locs ls hR hL hl)
theorem j_if_ge {x : Int32} {off : Int} {tgt : Nat} (hd : decode cc pc = .ok (.ifCond .ge off, 3)) (hq : pc + 3 = q) (ht : (pc : Int) + off = (tgt : Int)) (kt : 0 ≤ x → gJ E y cc nL ret R F tgt l st ck cn σ m hi) (kf : ¬ 0 ≤ x → gJ E y cc nL ret R F q l st ck cn σ m hi) : gJ E y cc nL ret R F pc l (.int x :: st) ck cn σ m hi := by
  subst hq
  exact fun p e s mi args below meth c C H locs ls hR hL hl => lv_if_ge C.1 C.2.1 hd ht (fun h => kt h p e s mi args below meth c C H locs ls hR hL hl) (fun h => kf h p e s mi args below meth c C H locs ls hR hL hl)
theorem j_icmp_ge {x z : Int32} {off : Int} {tgt : Nat} (hd : decode cc pc = .ok (.if_icmp .ge off, 3)) (hq : pc + 3 = q) (ht : (pc : Int) + off = (tgt : Int)) (kt : z ≤ x → gJ E y cc nL ret R F tgt l st ck cn σ m hi) (kf : ¬ z ≤ x → gJ E y cc nL ret R F q l st ck cn σ m hi) : gJ E y cc nL ret R F pc l (.int z :: .int x :: st) ck cn σ m hi := by
  subst hq
  exact fun p e s mi args below meth c C H locs ls hR hL hl => lv_icmp_ge C.1 C.2.1 hd ht (fun h => kt h p e s mi args below meth c C H locs ls hR hL hl) (fun h => kf h p e s mi args below meth c C H locs ls hR hL hl)
theorem j_if_gt {x : Int32} {off : Int} {tgt : Nat} (hd : decode cc pc = .ok (.ifCond .gt off, 3)) (hq : pc + 3 = q) (ht : (pc : Int) + off = (tgt : Int)) (kt : 0 < x → gJ E y cc nL ret R F tgt l st ck cn σ m hi) (kf : ¬ 0 < x → gJ E y cc nL ret R F q l st ck cn σ m hi) : gJ E y cc nL ret R F pc l (.int x :: st) ck cn σ m hi := by
  subst hq
  exact fun p e s mi args below meth c C H locs ls hR hL hl => lv_if_gt C.1 C.2.1 hd ht (fun h => kt h p e s mi args below meth c C H locs ls hR hL hl) (fun h => kf h p e s mi args below meth c C H locs ls hR hL hl)
theorem j_icmp_gt {x z : Int32} {off : Int} {tgt : Nat} (hd : decode cc pc = .ok (.if_icmp .gt off, 3)) (hq : pc + 3 = q) (ht : (pc : Int) + off = (tgt : Int)) (kt : z < x → gJ E y cc nL ret R F tgt l st ck cn σ m hi) (kf : ¬ z < x → gJ E y cc nL ret R F q l st ck cn σ m hi) : gJ E y cc nL ret R F pc l (.int z :: .int x :: st) ck cn σ m hi := by
  subst hq
  exact fun p e s mi args below meth c C H locs ls hR hL hl => lv_icmp_gt C.1 C.2.1 hd ht (fun h => kt h p e s mi args below meth c C H locs ls hR hL hl) (fun h => kf h p e s mi args below meth c C H locs ls hR hL hl)
theorem j_if_le {x : Int32} {off : Int} {tgt : Nat} (hd : decode cc pc = .ok (.ifCond .le off, 3)) (hq : pc + 3 = q) (ht : (pc : Int) + off = (tgt : Int)) (kt : x ≤ 0 → gJ E y cc nL ret R F tgt l st ck cn σ m hi) (kf : ¬ x ≤ 0 → gJ E y cc nL ret R F q l st ck cn σ m hi) : gJ E y cc nL ret R F pc l (.int x :: st) ck cn σ m hi := by
  subst hq
  exact fun p e s mi args below meth c C H locs ls hR hL hl => lv_if_le C.1 C.2.1 hd ht (fun h => kt h p e s mi args below meth c C H locs ls hR hL hl) (fun h => kf h p e s mi args below meth c C H locs ls hR hL hl)
theorem j_icmp_le {x z : Int32} {off : Int} {tgt : Nat} (hd : decode cc pc = .ok (.if_icmp .le off, 3)) (hq : pc + 3 = q) (ht : (pc : Int) + off = (tgt : Int)) (kt : x ≤ z → gJ E y cc nL ret R F tgt l st ck cn σ m hi) (kf : ¬ x ≤ z → gJ E y cc nL ret R F q l st ck cn σ m hi) : gJ E y cc nL ret R F pc l (.int z :: .int x :: st) ck cn σ m hi := by
  subst hq
  exact fun p e s mi args below meth c C H locs ls hR hL hl => lv_icmp_le C.1 C.2.1 hd ht (fun h => kt h p e s mi args below meth c C H locs ls hR hL hl) (fun h => kf h p e s mi args below meth c C H locs ls hR hL hl)
theorem j_goto {off : Int} {tgt : Nat} (hd : decode cc pc = .ok (.goto off, 3)) (ht : (pc : Int) + off = (tgt : Int)) (kk : gJ E y cc nL ret R F tgt l st ck cn σ m hi) : gJ E y cc nL ret R F pc l st ck cn σ m hi := fun p e s mi args below meth c C H locs ls hR hL hl => lv_goto C.1 C.2.1 hd ht (kk p e s mi args below meth c C H locs ls hR hL hl)
theorem j_tableOut {dflt lo hig : Int} {offs : Array Int} {len : Nat} {x : Int32} {tgt : Nat} (hd : decode cc pc = .ok (.tableswitch dflt lo hig offs, len)) (h : x.toInt < lo ∨ hig < x.toInt) (ht : (pc : Int) + dflt = (tgt : Int)) (kk : gJ E y cc nL ret R F tgt l st ck cn σ m hi) : gJ E y cc nL ret R F pc l (.int x :: st) ck cn σ m hi := fun p e s mi args below meth c C H locs ls hR hL hl => lv_tableOut C.1 C.2.1 hd h ht (kk p e s mi args below meth c C H locs ls hR hL hl)
theorem j_tableIn {dflt lo hig : Int} {offs : Array Int} {len : Nat} {x : Int32} {off : Int} {tgt : Nat} (hd : decode cc pc = .ok (.tableswitch dflt lo hig offs, len)) (h1 : ¬ x.toInt < lo) (h2 : ¬ hig < x.toInt) (ho : offs[(x.toInt - lo).toNat]? = some off) (ht : (pc : Int) + off = (tgt : Int)) (kk : gJ E y cc nL ret R F tgt l st ck cn σ m hi) : gJ E y cc nL ret R F pc l (.int x :: st) ck cn σ m hi := fun p e s mi args below meth c C H locs ls hR hL hl => lv_tableIn C.1 C.2.1 hd h1 h2 ho ht (kk p e s mi args below meth c C H locs ls hR hL hl)
theorem j_lookup {dflt : Int} {ps : Array (Int × Int)} {len : Nat} {x : Int32} {off : Int} {tgt : Nat} (hd : decode cc pc = .ok (.lookupswitch dflt ps, len)) (hp : (ps.toList.zip (ps.toList.drop 1)).all (fun (a, next) => a.1 < next.1) = true) (ho : Op.lookupswitch.offset ps.toList dflt x.toInt = off) (ht : (pc : Int) + off = (tgt : Int)) (kk : gJ E y cc nL ret R F tgt l st ck cn σ m hi) : gJ E y cc nL ret R F pc l (.int x :: st) ck cn σ m hi := fun p e s mi args below meth c C H locs ls hR hL hl => lv_lookup C.1 C.2.1 hd hp ho ht (kk p e s mi args below meth c C H locs ls hR hL hl)
theorem j_topi {x : Int32} (k : ∀ v : Int32, v = x → gJ E y cc nL ret R F pc l (.int v :: st) ck cn σ m hi) : gJ E y cc nL ret R F pc l (.int x :: st) ck cn σ m hi := k x rfl
theorem j_topl {x : Int64} (k : ∀ v : Int64, v = x → gJ E y cc nL ret R F pc l (.long v :: st) ck cn σ m hi) : gJ E y cc nL ret R F pc l (.long x :: st) ck cn σ m hi := k x rfl
end GJ
