/-! the reference: its constructor -/
abbrev iRT : Type := Nat × Nat × (Nat → Int32)
def iR (t : Nat) (σ0 : gSg) (m0 : gMem) (tm : List (Option Value)) (L : List iRT) (σ : gSg) (m : gMem) : Prop := σ t = some (.inl (7, tm)) ∧ m.1 t = (fun _ => 0) ∧ gKp t σ0 σ m0 m ∧ ∀ (i : Nat) (x : iRT), L[i]? = some x → σ (t + 1 + i) = some (.inr (x.1, x.2.1, fun _ => none)) ∧ m.1 (t + 1 + i) = x.2.2
theorem iR.st {t : Nat} {σ0 : gSg} {m0 : gMem} {tm : List (Option Value)} {L : List iRT} {σ : gSg} {m : gMem} (h : iR t σ0 m0 tm L σ m) (ty N : Nat) (f : Nat → Int32) (m2 : gMem) (tm' : List (Option Value)) (a : Nat) (ha : a = t + 1 + L.length) (h2 : m2.1 a = f) (hn : ∀ q, q ≠ a → m2.1 q = m.1 q) : iR t σ0 m0 tm' (L ++ [(ty, N, f)]) (va_up (va_up σ a (some (.inr (ty, N, fun _ => none)))) t (some (.inl (7, tm')))) m2 := by
  refine ⟨va_up_self _ _ _, by rw [hn t (by omega)]; exact h.2.1, fun q hq => ⟨by rw [va_up_ne _ _ (by omega), va_up_ne _ _ (by omega)]; exact (h.2.2.1 q hq).1, by rw [hn q (by omega)]; exact (h.2.2.1 q hq).2⟩, fun i x hx => ?_⟩
  rw [va_up_ne _ _ (by omega)]
  by_cases hi : i < L.length
  · rw [List.getElem?_append_left hi] at hx
    rw [va_up_ne _ _ (by omega), hn _ (by omega)]
    exact h.2.2.2 i x hx
  · have hl : i < (L ++ [(ty, N, f)]).length := (List.getElem?_eq_some_iff.mp hx).1
    rw [List.length_append] at hl
    have hie : i = L.length := by simp at hl; omega
    subst hie
    rw [List.getElem?_append_right (Nat.le_refl _), Nat.sub_self] at hx
    have hx' : (ty, N, f) = x := by simpa using hx
    subst hx'
    rw [← ha, va_up_self]
    exact ⟨rfl, h2⟩
def iF3 : Nat → Int32 := (upd (upd (upd (upd (upd (upd (upd (upd (fun _ => 0) 0 0) 1 5) 2 8) 3 13) 4 18) 5 22) 6 26) 7 30)
def iF4 : Nat → Int32 := (upd (upd (upd (upd (upd (upd (upd (upd (upd (upd (upd (upd (upd (upd (upd (upd (upd (upd (upd (upd (upd (upd (upd (upd (upd (upd (upd (upd (upd (upd (fun _ => 0) 0 112) 1 108) 2 97) 3 105) 4 110) 5 115) 6 104) 7 121) 8 115) 9 117) 10 108) 11 107) 12 121) 13 102) 14 97) 15 105) 16 110) 17 116) 18 102) 19 108) 20 111) 21 119) 22 99) 23 97) 24 108) 25 109) 26 104) 27 111) 28 117) 29 114)
def iF11 : Nat → Int32 := (upd (upd (upd (upd (fun _ => 0) 0 (-4)) 1 (-4)) 2 (-4)) 3 (-4))
abbrev iRL : List iRT := [(0, 318, (fun _ => 0)), (0, 53, (fun _ => 0)), (0, 160, (fun _ => 0)), (0, 8, iF3), (0, 30, iF4), (0, 4, (fun _ => 0)), (0, 4, (fun _ => 0)), (0, 4, (fun _ => 0)), (0, 18, (fun _ => 0)), (0, 410, (fun _ => 0)), (2, 2, (fun _ => 0)), (0, 4, iF11), (0, 4, (fun _ => 0)), (0, 160, (fun _ => 0))]
theorem cM_init (E : gEv) (σ0 : gSg) (m0 : gMem) (t : Nat) (hs : σ0 t = some (.inl (7, [oNl, oNl, none, none, oNl, none, none, none, none, none, none, none, none, oNl, oNl, none, none, none, oNl, oNl, oNl, none, oNl, none, oNl, oNl, oNl, oNl, oNl, none]))) (hz : m0.1 t = fun _ => 0) : gCt E yX7_init cX7_init 1 none 1 14 1179 [.ref t] σ0 m0 (t + 1) (fun v σ' m' hi' => v = none ∧ hi' = t + 15 ∧ iR t σ0 m0 [some (.ref (t + 1 + 0)), some (.ref (t + 1 + 1)), none, none, some (.ref (t + 1 + 2)), none, none, none, none, none, none, none, none, some (.ref (t + 1 + 3)), some (.ref (t + 1 + 4)), none, none, none, some (.ref (t + 1 + 5)), some (.ref (t + 1 + 6)), some (.ref (t + 1 + 7)), none, some (.ref (t + 1 + 8)), none, some (.ref (t + 1 + 9)), some (.ref (t + 1 + 10)), some (.ref (t + 1 + 11)), some (.ref (t + 1 + 12)), some (.ref (t + 1 + 13)), none] iRL σ' m') := by
  refine gCt.of mwX7_init (Nat.le_of_ble_eq_true rfl) ?_
  intro F hF
  have ix8_0 : gIdx 0 8 0 := gIdx.of rfl (by decide) (by decide)
  have ix8_1 : gIdx 1 8 1 := gIdx.of rfl (by decide) (by decide)
  have ix8_2 : gIdx 2 8 2 := gIdx.of rfl (by decide) (by decide)
  have ix8_3 : gIdx 3 8 3 := gIdx.of rfl (by decide) (by decide)
  have ix8_4 : gIdx 4 8 4 := gIdx.of rfl (by decide) (by decide)
  have ix8_5 : gIdx 5 8 5 := gIdx.of rfl (by decide) (by decide)
  have ix8_6 : gIdx 6 8 6 := gIdx.of rfl (by decide) (by decide)
  have ix8_7 : gIdx 7 8 7 := gIdx.of rfl (by decide) (by decide)
  have ix30_0 : gIdx 0 30 0 := gIdx.of rfl (by decide) (by decide)
  have ix30_1 : gIdx 1 30 1 := gIdx.of rfl (by decide) (by decide)
  have ix30_2 : gIdx 2 30 2 := gIdx.of rfl (by decide) (by decide)
  have ix30_3 : gIdx 3 30 3 := gIdx.of rfl (by decide) (by decide)
  have ix30_4 : gIdx 4 30 4 := gIdx.of rfl (by decide) (by decide)
  have ix30_5 : gIdx 5 30 5 := gIdx.of rfl (by decide) (by decide)
  have ix30_6 : gIdx 6 30 6 := gIdx.of rfl (by decide) (by decide)
  have ix30_7 : gIdx 7 30 7 := gIdx.of rfl (by decide) (by decide)
  have ix30_8 : gIdx 8 30 8 := gIdx.of rfl (by decide) (by decide)
  have ix30_9 : gIdx 9 30 9 := gIdx.of rfl (by decide) (by decide)
  have ix30_10 : gIdx 10 30 10 := gIdx.of rfl (by decide) (by decide)
  have ix30_11 : gIdx 11 30 11 := gIdx.of rfl (by decide) (by decide)
  have ix30_12 : gIdx 12 30 12 := gIdx.of rfl (by decide) (by decide)
  have ix30_13 : gIdx 13 30 13 := gIdx.of rfl (by decide) (by decide)
  have ix30_14 : gIdx 14 30 14 := gIdx.of rfl (by decide) (by decide)
  have ix30_15 : gIdx 15 30 15 := gIdx.of rfl (by decide) (by decide)
  have ix30_16 : gIdx 16 30 16 := gIdx.of rfl (by decide) (by decide)
  have ix30_17 : gIdx 17 30 17 := gIdx.of rfl (by decide) (by decide)
  have ix30_18 : gIdx 18 30 18 := gIdx.of rfl (by decide) (by decide)
  have ix30_19 : gIdx 19 30 19 := gIdx.of rfl (by decide) (by decide)
  have ix30_20 : gIdx 20 30 20 := gIdx.of rfl (by decide) (by decide)
  have ix30_21 : gIdx 21 30 21 := gIdx.of rfl (by decide) (by decide)
  have ix30_22 : gIdx 22 30 22 := gIdx.of rfl (by decide) (by decide)
  have ix30_23 : gIdx 23 30 23 := gIdx.of rfl (by decide) (by decide)
  have ix30_24 : gIdx 24 30 24 := gIdx.of rfl (by decide) (by decide)
  have ix30_25 : gIdx 25 30 25 := gIdx.of rfl (by decide) (by decide)
  have ix30_26 : gIdx 26 30 26 := gIdx.of rfl (by decide) (by decide)
  have ix30_27 : gIdx 27 30 27 := gIdx.of rfl (by decide) (by decide)
  have ix30_28 : gIdx 28 30 28 := gIdx.of rfl (by decide) (by decide)
  have ix30_29 : gIdx 29 30 29 := gIdx.of rfl (by decide) (by decide)
  have ix4_0 : gIdx 0 4 0 := gIdx.of rfl (by decide) (by decide)
  have ix4_1 : gIdx 1 4 1 := gIdx.of rfl (by decide) (by decide)
  have ix4_2 : gIdx 2 4 2 := gIdx.of rfl (by decide) (by decide)
  have ix4_3 : gIdx 3 4 3 := gIdx.of rfl (by decide) (by decide)
  have K14 : ∀ (σ : gSg) (m : gMem), iR t σ0 m0 [some (.ref (t + 1 + 0)), some (.ref (t + 1 + 1)), none, none, some (.ref (t + 1 + 2)), none, none, none, none, none, none, none, none, some (.ref (t + 1 + 3)), some (.ref (t + 1 + 4)), none, none, none, some (.ref (t + 1 + 5)), some (.ref (t + 1 + 6)), some (.ref (t + 1 + 7)), none, some (.ref (t + 1 + 8)), none, some (.ref (t + 1 + 9)), some (.ref (t + 1 + 10)), some (.ref (t + 1 + 11)), some (.ref (t + 1 + 12)), some (.ref (t + 1 + 13)), none] [(0, 318, (fun _ => 0)), (0, 53, (fun _ => 0)), (0, 160, (fun _ => 0)), (0, 8, iF3), (0, 30, iF4), (0, 4, (fun _ => 0)), (0, 4, (fun _ => 0)), (0, 4, (fun _ => 0)), (0, 18, (fun _ => 0)), (0, 410, (fun _ => 0)), (2, 2, (fun _ => 0)), (0, 4, iF11), (0, 4, (fun _ => 0)), (0, 160, (fun _ => 0))] σ m → gJ E yX7_init cX7_init 1 none (gRm 1 14 1179) F 348 [some (.ref t)] [] 14 1179 σ m (t + 1 + 14) := by
    intro σ m h
    exact j_vret hF rfl dX7_init_348 ⟨by decide, by decide⟩ ⟨rfl, rfl, h⟩
  have K13 : ∀ (σ : gSg) (m : gMem), iR t σ0 m0 [some (.ref (t + 1 + 0)), some (.ref (t + 1 + 1)), none, none, some (.ref (t + 1 + 2)), none, none, none, none, none, none, none, none, some (.ref (t + 1 + 3)), some (.ref (t + 1 + 4)), none, none, none, some (.ref (t + 1 + 5)), some (.ref (t + 1 + 6)), some (.ref (t + 1 + 7)), none, some (.ref (t + 1 + 8)), none, some (.ref (t + 1 + 9)), some (.ref (t + 1 + 10)), some (.ref (t + 1 + 11)), some (.ref (t + 1 + 12)), oNl, none] [(0, 318, (fun _ => 0)), (0, 53, (fun _ => 0)), (0, 160, (fun _ => 0)), (0, 8, iF3), (0, 30, iF4), (0, 4, (fun _ => 0)), (0, 4, (fun _ => 0)), (0, 4, (fun _ => 0)), (0, 18, (fun _ => 0)), (0, 410, (fun _ => 0)), (2, 2, (fun _ => 0)), (0, 4, iF11), (0, 4, (fun _ => 0))] σ m → gJ E yX7_init cX7_init 1 none (gRm 1 14 1179) F 339 [some (.ref t)] [] 13 1019 σ m (t + 1 + 13) := by
    intro σ m h
    have hst := h.1
    refine j_aload_n (q := 340) dX7_init_339 rfl (by rfl) ?_
    refine j_sipush (q := 343) (v := 160) dX7_init_340 rfl (by decide) ?_
    refine j_newI (q := 345) (N := 160) dX7_init_343 rfl rfl (by decide) ⟨by decide, by decide⟩ ?_
    have hsn : va_up σ (t + 1 + 13) (some (.inr (0, 160, fun _ => none))) (t + 1 + 13) = some (.inr (0, 160, fun _ => none)) := va_up_self _ _ _
    refine j_putr (q := 348) (tm := [some (.ref (t + 1 + 0)), some (.ref (t + 1 + 1)), none, none, some (.ref (t + 1 + 2)), none, none, none, none, none, none, none, none, some (.ref (t + 1 + 3)), some (.ref (t + 1 + 4)), none, none, none, some (.ref (t + 1 + 5)), some (.ref (t + 1 + 6)), some (.ref (t + 1 + 7)), none, some (.ref (t + 1 + 8)), none, some (.ref (t + 1 + 9)), some (.ref (t + 1 + 10)), some (.ref (t + 1 + 11)), some (.ref (t + 1 + 12)), oNl, none]) dX7_init_345 rfl fX7_50 p7_28 (Or.inr ⟨rfl, cn7⟩) (by rw [va_up_ne _ _ (by omega)]; exact hst) (by rfl) (Or.inr ⟨_, rfl⟩) ?_
    exact K14 _ _ (iR.st h 0 160 (fun _ => 0) _ [some (.ref (t + 1 + 0)), some (.ref (t + 1 + 1)), none, none, some (.ref (t + 1 + 2)), none, none, none, none, none, none, none, none, some (.ref (t + 1 + 3)), some (.ref (t + 1 + 4)), none, none, none, some (.ref (t + 1 + 5)), some (.ref (t + 1 + 6)), some (.ref (t + 1 + 7)), none, some (.ref (t + 1 + 8)), none, some (.ref (t + 1 + 9)), some (.ref (t + 1 + 10)), some (.ref (t + 1 + 11)), some (.ref (t + 1 + 12)), some (.ref (t + 1 + 13)), none] _ rfl (mZ_a _ _) (fun q hq => (mZ_n hq).1))
  have K12 : ∀ (σ : gSg) (m : gMem), iR t σ0 m0 [some (.ref (t + 1 + 0)), some (.ref (t + 1 + 1)), none, none, some (.ref (t + 1 + 2)), none, none, none, none, none, none, none, none, some (.ref (t + 1 + 3)), some (.ref (t + 1 + 4)), none, none, none, some (.ref (t + 1 + 5)), some (.ref (t + 1 + 6)), some (.ref (t + 1 + 7)), none, some (.ref (t + 1 + 8)), none, some (.ref (t + 1 + 9)), some (.ref (t + 1 + 10)), some (.ref (t + 1 + 11)), oNl, oNl, none] [(0, 318, (fun _ => 0)), (0, 53, (fun _ => 0)), (0, 160, (fun _ => 0)), (0, 8, iF3), (0, 30, iF4), (0, 4, (fun _ => 0)), (0, 4, (fun _ => 0)), (0, 4, (fun _ => 0)), (0, 18, (fun _ => 0)), (0, 410, (fun _ => 0)), (2, 2, (fun _ => 0)), (0, 4, iF11)] σ m → gJ E yX7_init cX7_init 1 none (gRm 1 14 1179) F 332 [some (.ref t)] [] 12 1015 σ m (t + 1 + 12) := by
    intro σ m h
    have hst := h.1
    refine j_aload_n (q := 333) dX7_init_332 rfl (by rfl) ?_
    refine j_iconst (q := 334) (v := 4) dX7_init_333 rfl (by decide) ?_
    refine j_newI (q := 336) (N := 4) dX7_init_334 rfl rfl (by decide) ⟨by decide, by decide⟩ ?_
    have hsn : va_up σ (t + 1 + 12) (some (.inr (0, 4, fun _ => none))) (t + 1 + 12) = some (.inr (0, 4, fun _ => none)) := va_up_self _ _ _
    refine j_putr (q := 339) (tm := [some (.ref (t + 1 + 0)), some (.ref (t + 1 + 1)), none, none, some (.ref (t + 1 + 2)), none, none, none, none, none, none, none, none, some (.ref (t + 1 + 3)), some (.ref (t + 1 + 4)), none, none, none, some (.ref (t + 1 + 5)), some (.ref (t + 1 + 6)), some (.ref (t + 1 + 7)), none, some (.ref (t + 1 + 8)), none, some (.ref (t + 1 + 9)), some (.ref (t + 1 + 10)), some (.ref (t + 1 + 11)), oNl, oNl, none]) dX7_init_336 rfl fX7_47 p7_27 (Or.inr ⟨rfl, cn7⟩) (by rw [va_up_ne _ _ (by omega)]; exact hst) (by rfl) (Or.inr ⟨_, rfl⟩) ?_
    exact K13 _ _ (iR.st h 0 4 (fun _ => 0) _ [some (.ref (t + 1 + 0)), some (.ref (t + 1 + 1)), none, none, some (.ref (t + 1 + 2)), none, none, none, none, none, none, none, none, some (.ref (t + 1 + 3)), some (.ref (t + 1 + 4)), none, none, none, some (.ref (t + 1 + 5)), some (.ref (t + 1 + 6)), some (.ref (t + 1 + 7)), none, some (.ref (t + 1 + 8)), none, some (.ref (t + 1 + 9)), some (.ref (t + 1 + 10)), some (.ref (t + 1 + 11)), some (.ref (t + 1 + 12)), oNl, none] _ rfl (mZ_a _ _) (fun q hq => (mZ_n hq).1))
  have K11 : ∀ (σ : gSg) (m : gMem), iR t σ0 m0 [some (.ref (t + 1 + 0)), some (.ref (t + 1 + 1)), none, none, some (.ref (t + 1 + 2)), none, none, none, none, none, none, none, none, some (.ref (t + 1 + 3)), some (.ref (t + 1 + 4)), none, none, none, some (.ref (t + 1 + 5)), some (.ref (t + 1 + 6)), some (.ref (t + 1 + 7)), none, some (.ref (t + 1 + 8)), none, some (.ref (t + 1 + 9)), some (.ref (t + 1 + 10)), oNl, oNl, oNl, none] [(0, 318, (fun _ => 0)), (0, 53, (fun _ => 0)), (0, 160, (fun _ => 0)), (0, 8, iF3), (0, 30, iF4), (0, 4, (fun _ => 0)), (0, 4, (fun _ => 0)), (0, 4, (fun _ => 0)), (0, 18, (fun _ => 0)), (0, 410, (fun _ => 0)), (2, 2, (fun _ => 0))] σ m → gJ E yX7_init cX7_init 1 none (gRm 1 14 1179) F 305 [some (.ref t)] [] 11 1011 σ m (t + 1 + 11) := by
    intro σ m h
    have hst := h.1
    refine j_aload_n (q := 306) dX7_init_305 rfl (by rfl) ?_
    refine j_iconst (q := 307) (v := 4) dX7_init_306 rfl (by decide) ?_
    refine j_newI (q := 309) (N := 4) dX7_init_307 rfl rfl (by decide) ⟨by decide, by decide⟩ ?_
    have hsn : va_up σ (t + 1 + 11) (some (.inr (0, 4, fun _ => none))) (t + 1 + 11) = some (.inr (0, 4, fun _ => none)) := va_up_self _ _ _
    refine j_dup (q := 310) dX7_init_309 rfl rfl ?_
    refine j_iconst (q := 311) (v := 0) dX7_init_310 rfl (by decide) ?_
    refine j_bipush (q := 313) (v := (-4)) dX7_init_311 rfl (by decide) ?_
    refine j_iastore (q := 314) dX7_init_313 rfl (by first | with_reducible assumption | assumption) (by first | with_reducible assumption | assumption) ?_
    refine j_dup (q := 315) dX7_init_314 rfl rfl ?_
    refine j_iconst (q := 316) (v := 1) dX7_init_315 rfl (by decide) ?_
    refine j_bipush (q := 318) (v := (-4)) dX7_init_316 rfl (by decide) ?_
    refine j_iastore (q := 319) dX7_init_318 rfl (by first | with_reducible assumption | assumption) (by first | with_reducible assumption | assumption) ?_
    refine j_dup (q := 320) dX7_init_319 rfl rfl ?_
    refine j_iconst (q := 321) (v := 2) dX7_init_320 rfl (by decide) ?_
    refine j_bipush (q := 323) (v := (-4)) dX7_init_321 rfl (by decide) ?_
    refine j_iastore (q := 324) dX7_init_323 rfl (by first | with_reducible assumption | assumption) (by first | with_reducible assumption | assumption) ?_
    refine j_dup (q := 325) dX7_init_324 rfl rfl ?_
    refine j_iconst (q := 326) (v := 3) dX7_init_325 rfl (by decide) ?_
    refine j_bipush (q := 328) (v := (-4)) dX7_init_326 rfl (by decide) ?_
    refine j_iastore (q := 329) dX7_init_328 rfl (by first | with_reducible assumption | assumption) (by first | with_reducible assumption | assumption) ?_
    refine j_putr (q := 332) (tm := [some (.ref (t + 1 + 0)), some (.ref (t + 1 + 1)), none, none, some (.ref (t + 1 + 2)), none, none, none, none, none, none, none, none, some (.ref (t + 1 + 3)), some (.ref (t + 1 + 4)), none, none, none, some (.ref (t + 1 + 5)), some (.ref (t + 1 + 6)), some (.ref (t + 1 + 7)), none, some (.ref (t + 1 + 8)), none, some (.ref (t + 1 + 9)), some (.ref (t + 1 + 10)), oNl, oNl, oNl, none]) dX7_init_329 rfl fX7_44 p7_26 (Or.inr ⟨rfl, cn7⟩) (by rw [va_up_ne _ _ (by omega)]; exact hst) (by rfl) (Or.inr ⟨_, rfl⟩) ?_
    exact K12 _ _ (iR.st h 0 4 iF11 _ [some (.ref (t + 1 + 0)), some (.ref (t + 1 + 1)), none, none, some (.ref (t + 1 + 2)), none, none, none, none, none, none, none, none, some (.ref (t + 1 + 3)), some (.ref (t + 1 + 4)), none, none, none, some (.ref (t + 1 + 5)), some (.ref (t + 1 + 6)), some (.ref (t + 1 + 7)), none, some (.ref (t + 1 + 8)), none, some (.ref (t + 1 + 9)), some (.ref (t + 1 + 10)), some (.ref (t + 1 + 11)), oNl, oNl, none] _ rfl (by simp only [gW_ro, mZ_a]; rfl) (fun q hq => by simp only [gW_rn hq]; exact (mZ_n hq).1))
  have K10 : ∀ (σ : gSg) (m : gMem), iR t σ0 m0 [some (.ref (t + 1 + 0)), some (.ref (t + 1 + 1)), none, none, some (.ref (t + 1 + 2)), none, none, none, none, none, none, none, none, some (.ref (t + 1 + 3)), some (.ref (t + 1 + 4)), none, none, none, some (.ref (t + 1 + 5)), some (.ref (t + 1 + 6)), some (.ref (t + 1 + 7)), none, some (.ref (t + 1 + 8)), none, some (.ref (t + 1 + 9)), oNl, oNl, oNl, oNl, none] [(0, 318, (fun _ => 0)), (0, 53, (fun _ => 0)), (0, 160, (fun _ => 0)), (0, 8, iF3), (0, 30, iF4), (0, 4, (fun _ => 0)), (0, 4, (fun _ => 0)), (0, 4, (fun _ => 0)), (0, 18, (fun _ => 0)), (0, 410, (fun _ => 0))] σ m → gJ E yX7_init cX7_init 1 none (gRm 1 14 1179) F 298 [some (.ref t)] [] 10 1009 σ m (t + 1 + 10) := by
    intro σ m h
    have hst := h.1
    refine j_aload_n (q := 299) dX7_init_298 rfl (by rfl) ?_
    refine j_iconst (q := 300) (v := 2) dX7_init_299 rfl (by decide) ?_
    refine j_newZ (q := 302) (N := 2) dX7_init_300 rfl rfl (by decide) ⟨by decide, by decide⟩ ?_
    have hsn : va_up σ (t + 1 + 10) (some (.inr (2, 2, fun _ => none))) (t + 1 + 10) = some (.inr (2, 2, fun _ => none)) := va_up_self _ _ _
    refine j_putr (q := 305) (tm := [some (.ref (t + 1 + 0)), some (.ref (t + 1 + 1)), none, none, some (.ref (t + 1 + 2)), none, none, none, none, none, none, none, none, some (.ref (t + 1 + 3)), some (.ref (t + 1 + 4)), none, none, none, some (.ref (t + 1 + 5)), some (.ref (t + 1 + 6)), some (.ref (t + 1 + 7)), none, some (.ref (t + 1 + 8)), none, some (.ref (t + 1 + 9)), oNl, oNl, oNl, oNl, none]) dX7_init_302 rfl fX7_40 p7_25 (Or.inr ⟨rfl, cn7⟩) (by rw [va_up_ne _ _ (by omega)]; exact hst) (by rfl) (Or.inr ⟨_, rfl⟩) ?_
    exact K11 _ _ (iR.st h 2 2 (fun _ => 0) _ [some (.ref (t + 1 + 0)), some (.ref (t + 1 + 1)), none, none, some (.ref (t + 1 + 2)), none, none, none, none, none, none, none, none, some (.ref (t + 1 + 3)), some (.ref (t + 1 + 4)), none, none, none, some (.ref (t + 1 + 5)), some (.ref (t + 1 + 6)), some (.ref (t + 1 + 7)), none, some (.ref (t + 1 + 8)), none, some (.ref (t + 1 + 9)), some (.ref (t + 1 + 10)), oNl, oNl, oNl, none] _ rfl (mZ_a _ _) (fun q hq => (mZ_n hq).1))
  have K9 : ∀ (σ : gSg) (m : gMem), iR t σ0 m0 [some (.ref (t + 1 + 0)), some (.ref (t + 1 + 1)), none, none, some (.ref (t + 1 + 2)), none, none, none, none, none, none, none, none, some (.ref (t + 1 + 3)), some (.ref (t + 1 + 4)), none, none, none, some (.ref (t + 1 + 5)), some (.ref (t + 1 + 6)), some (.ref (t + 1 + 7)), none, some (.ref (t + 1 + 8)), none, oNl, oNl, oNl, oNl, oNl, none] [(0, 318, (fun _ => 0)), (0, 53, (fun _ => 0)), (0, 160, (fun _ => 0)), (0, 8, iF3), (0, 30, iF4), (0, 4, (fun _ => 0)), (0, 4, (fun _ => 0)), (0, 4, (fun _ => 0)), (0, 18, (fun _ => 0))] σ m → gJ E yX7_init cX7_init 1 none (gRm 1 14 1179) F 289 [some (.ref t)] [] 9 599 σ m (t + 1 + 9) := by
    intro σ m h
    have hst := h.1
    refine j_aload_n (q := 290) dX7_init_289 rfl (by rfl) ?_
    refine j_sipush (q := 293) (v := 410) dX7_init_290 rfl (by decide) ?_
    refine j_newI (q := 295) (N := 410) dX7_init_293 rfl rfl (by decide) ⟨by decide, by decide⟩ ?_
    have hsn : va_up σ (t + 1 + 9) (some (.inr (0, 410, fun _ => none))) (t + 1 + 9) = some (.inr (0, 410, fun _ => none)) := va_up_self _ _ _
    refine j_putr (q := 298) (tm := [some (.ref (t + 1 + 0)), some (.ref (t + 1 + 1)), none, none, some (.ref (t + 1 + 2)), none, none, none, none, none, none, none, none, some (.ref (t + 1 + 3)), some (.ref (t + 1 + 4)), none, none, none, some (.ref (t + 1 + 5)), some (.ref (t + 1 + 6)), some (.ref (t + 1 + 7)), none, some (.ref (t + 1 + 8)), none, oNl, oNl, oNl, oNl, oNl, none]) dX7_init_295 rfl fX7_37 p7_24 (Or.inr ⟨rfl, cn7⟩) (by rw [va_up_ne _ _ (by omega)]; exact hst) (by rfl) (Or.inr ⟨_, rfl⟩) ?_
    exact K10 _ _ (iR.st h 0 410 (fun _ => 0) _ [some (.ref (t + 1 + 0)), some (.ref (t + 1 + 1)), none, none, some (.ref (t + 1 + 2)), none, none, none, none, none, none, none, none, some (.ref (t + 1 + 3)), some (.ref (t + 1 + 4)), none, none, none, some (.ref (t + 1 + 5)), some (.ref (t + 1 + 6)), some (.ref (t + 1 + 7)), none, some (.ref (t + 1 + 8)), none, some (.ref (t + 1 + 9)), oNl, oNl, oNl, oNl, none] _ rfl (mZ_a _ _) (fun q hq => (mZ_n hq).1))
  have K8 : ∀ (σ : gSg) (m : gMem), iR t σ0 m0 [some (.ref (t + 1 + 0)), some (.ref (t + 1 + 1)), none, none, some (.ref (t + 1 + 2)), none, none, none, none, none, none, none, none, some (.ref (t + 1 + 3)), some (.ref (t + 1 + 4)), none, none, none, some (.ref (t + 1 + 5)), some (.ref (t + 1 + 6)), some (.ref (t + 1 + 7)), none, oNl, none, oNl, oNl, oNl, oNl, oNl, none] [(0, 318, (fun _ => 0)), (0, 53, (fun _ => 0)), (0, 160, (fun _ => 0)), (0, 8, iF3), (0, 30, iF4), (0, 4, (fun _ => 0)), (0, 4, (fun _ => 0)), (0, 4, (fun _ => 0))] σ m → gJ E yX7_init cX7_init 1 none (gRm 1 14 1179) F 281 [some (.ref t)] [] 8 581 σ m (t + 1 + 8) := by
    intro σ m h
    have hst := h.1
    refine j_aload_n (q := 282) dX7_init_281 rfl (by rfl) ?_
    refine j_bipush (q := 284) (v := 18) dX7_init_282 rfl (by decide) ?_
    refine j_newI (q := 286) (N := 18) dX7_init_284 rfl rfl (by decide) ⟨by decide, by decide⟩ ?_
    have hsn : va_up σ (t + 1 + 8) (some (.inr (0, 18, fun _ => none))) (t + 1 + 8) = some (.inr (0, 18, fun _ => none)) := va_up_self _ _ _
    refine j_putr (q := 289) (tm := [some (.ref (t + 1 + 0)), some (.ref (t + 1 + 1)), none, none, some (.ref (t + 1 + 2)), none, none, none, none, none, none, none, none, some (.ref (t + 1 + 3)), some (.ref (t + 1 + 4)), none, none, none, some (.ref (t + 1 + 5)), some (.ref (t + 1 + 6)), some (.ref (t + 1 + 7)), none, oNl, none, oNl, oNl, oNl, oNl, oNl, none]) dX7_init_286 rfl fX7_34 p7_22 (Or.inr ⟨rfl, cn7⟩) (by rw [va_up_ne _ _ (by omega)]; exact hst) (by rfl) (Or.inr ⟨_, rfl⟩) ?_
    exact K9 _ _ (iR.st h 0 18 (fun _ => 0) _ [some (.ref (t + 1 + 0)), some (.ref (t + 1 + 1)), none, none, some (.ref (t + 1 + 2)), none, none, none, none, none, none, none, none, some (.ref (t + 1 + 3)), some (.ref (t + 1 + 4)), none, none, none, some (.ref (t + 1 + 5)), some (.ref (t + 1 + 6)), some (.ref (t + 1 + 7)), none, some (.ref (t + 1 + 8)), none, oNl, oNl, oNl, oNl, oNl, none] _ rfl (mZ_a _ _) (fun q hq => (mZ_n hq).1))
  have K7 : ∀ (σ : gSg) (m : gMem), iR t σ0 m0 [some (.ref (t + 1 + 0)), some (.ref (t + 1 + 1)), none, none, some (.ref (t + 1 + 2)), none, none, none, none, none, none, none, none, some (.ref (t + 1 + 3)), some (.ref (t + 1 + 4)), none, none, none, some (.ref (t + 1 + 5)), some (.ref (t + 1 + 6)), oNl, none, oNl, none, oNl, oNl, oNl, oNl, oNl, none] [(0, 318, (fun _ => 0)), (0, 53, (fun _ => 0)), (0, 160, (fun _ => 0)), (0, 8, iF3), (0, 30, iF4), (0, 4, (fun _ => 0)), (0, 4, (fun _ => 0))] σ m → gJ E yX7_init cX7_init 1 none (gRm 1 14 1179) F 274 [some (.ref t)] [] 7 577 σ m (t + 1 + 7) := by
    intro σ m h
    have hst := h.1
    refine j_aload_n (q := 275) dX7_init_274 rfl (by rfl) ?_
    refine j_iconst (q := 276) (v := 4) dX7_init_275 rfl (by decide) ?_
    refine j_newI (q := 278) (N := 4) dX7_init_276 rfl rfl (by decide) ⟨by decide, by decide⟩ ?_
    have hsn : va_up σ (t + 1 + 7) (some (.inr (0, 4, fun _ => none))) (t + 1 + 7) = some (.inr (0, 4, fun _ => none)) := va_up_self _ _ _
    refine j_putr (q := 281) (tm := [some (.ref (t + 1 + 0)), some (.ref (t + 1 + 1)), none, none, some (.ref (t + 1 + 2)), none, none, none, none, none, none, none, none, some (.ref (t + 1 + 3)), some (.ref (t + 1 + 4)), none, none, none, some (.ref (t + 1 + 5)), some (.ref (t + 1 + 6)), oNl, none, oNl, none, oNl, oNl, oNl, oNl, oNl, none]) dX7_init_278 rfl fX7_31 p7_20 (Or.inr ⟨rfl, cn7⟩) (by rw [va_up_ne _ _ (by omega)]; exact hst) (by rfl) (Or.inr ⟨_, rfl⟩) ?_
    exact K8 _ _ (iR.st h 0 4 (fun _ => 0) _ [some (.ref (t + 1 + 0)), some (.ref (t + 1 + 1)), none, none, some (.ref (t + 1 + 2)), none, none, none, none, none, none, none, none, some (.ref (t + 1 + 3)), some (.ref (t + 1 + 4)), none, none, none, some (.ref (t + 1 + 5)), some (.ref (t + 1 + 6)), some (.ref (t + 1 + 7)), none, oNl, none, oNl, oNl, oNl, oNl, oNl, none] _ rfl (mZ_a _ _) (fun q hq => (mZ_n hq).1))
  have K6 : ∀ (σ : gSg) (m : gMem), iR t σ0 m0 [some (.ref (t + 1 + 0)), some (.ref (t + 1 + 1)), none, none, some (.ref (t + 1 + 2)), none, none, none, none, none, none, none, none, some (.ref (t + 1 + 3)), some (.ref (t + 1 + 4)), none, none, none, some (.ref (t + 1 + 5)), oNl, oNl, none, oNl, none, oNl, oNl, oNl, oNl, oNl, none] [(0, 318, (fun _ => 0)), (0, 53, (fun _ => 0)), (0, 160, (fun _ => 0)), (0, 8, iF3), (0, 30, iF4), (0, 4, (fun _ => 0))] σ m → gJ E yX7_init cX7_init 1 none (gRm 1 14 1179) F 267 [some (.ref t)] [] 6 573 σ m (t + 1 + 6) := by
    intro σ m h
    have hst := h.1
    refine j_aload_n (q := 268) dX7_init_267 rfl (by rfl) ?_
    refine j_iconst (q := 269) (v := 4) dX7_init_268 rfl (by decide) ?_
    refine j_newI (q := 271) (N := 4) dX7_init_269 rfl rfl (by decide) ⟨by decide, by decide⟩ ?_
    have hsn : va_up σ (t + 1 + 6) (some (.inr (0, 4, fun _ => none))) (t + 1 + 6) = some (.inr (0, 4, fun _ => none)) := va_up_self _ _ _
    refine j_putr (q := 274) (tm := [some (.ref (t + 1 + 0)), some (.ref (t + 1 + 1)), none, none, some (.ref (t + 1 + 2)), none, none, none, none, none, none, none, none, some (.ref (t + 1 + 3)), some (.ref (t + 1 + 4)), none, none, none, some (.ref (t + 1 + 5)), oNl, oNl, none, oNl, none, oNl, oNl, oNl, oNl, oNl, none]) dX7_init_271 rfl fX7_28 p7_19 (Or.inr ⟨rfl, cn7⟩) (by rw [va_up_ne _ _ (by omega)]; exact hst) (by rfl) (Or.inr ⟨_, rfl⟩) ?_
    exact K7 _ _ (iR.st h 0 4 (fun _ => 0) _ [some (.ref (t + 1 + 0)), some (.ref (t + 1 + 1)), none, none, some (.ref (t + 1 + 2)), none, none, none, none, none, none, none, none, some (.ref (t + 1 + 3)), some (.ref (t + 1 + 4)), none, none, none, some (.ref (t + 1 + 5)), some (.ref (t + 1 + 6)), oNl, none, oNl, none, oNl, oNl, oNl, oNl, oNl, none] _ rfl (mZ_a _ _) (fun q hq => (mZ_n hq).1))
  have K5 : ∀ (σ : gSg) (m : gMem), iR t σ0 m0 [some (.ref (t + 1 + 0)), some (.ref (t + 1 + 1)), none, none, some (.ref (t + 1 + 2)), none, none, none, none, none, none, none, none, some (.ref (t + 1 + 3)), some (.ref (t + 1 + 4)), none, none, none, oNl, oNl, oNl, none, oNl, none, oNl, oNl, oNl, oNl, oNl, none] [(0, 318, (fun _ => 0)), (0, 53, (fun _ => 0)), (0, 160, (fun _ => 0)), (0, 8, iF3), (0, 30, iF4)] σ m → gJ E yX7_init cX7_init 1 none (gRm 1 14 1179) F 260 [some (.ref t)] [] 5 569 σ m (t + 1 + 5) := by
    intro σ m h
    have hst := h.1
    refine j_aload_n (q := 261) dX7_init_260 rfl (by rfl) ?_
    refine j_iconst (q := 262) (v := 4) dX7_init_261 rfl (by decide) ?_
    refine j_newI (q := 264) (N := 4) dX7_init_262 rfl rfl (by decide) ⟨by decide, by decide⟩ ?_
    have hsn : va_up σ (t + 1 + 5) (some (.inr (0, 4, fun _ => none))) (t + 1 + 5) = some (.inr (0, 4, fun _ => none)) := va_up_self _ _ _
    refine j_putr (q := 267) (tm := [some (.ref (t + 1 + 0)), some (.ref (t + 1 + 1)), none, none, some (.ref (t + 1 + 2)), none, none, none, none, none, none, none, none, some (.ref (t + 1 + 3)), some (.ref (t + 1 + 4)), none, none, none, oNl, oNl, oNl, none, oNl, none, oNl, oNl, oNl, oNl, oNl, none]) dX7_init_264 rfl fX7_25 p7_18 (Or.inr ⟨rfl, cn7⟩) (by rw [va_up_ne _ _ (by omega)]; exact hst) (by rfl) (Or.inr ⟨_, rfl⟩) ?_
    exact K6 _ _ (iR.st h 0 4 (fun _ => 0) _ [some (.ref (t + 1 + 0)), some (.ref (t + 1 + 1)), none, none, some (.ref (t + 1 + 2)), none, none, none, none, none, none, none, none, some (.ref (t + 1 + 3)), some (.ref (t + 1 + 4)), none, none, none, some (.ref (t + 1 + 5)), oNl, oNl, none, oNl, none, oNl, oNl, oNl, oNl, oNl, none] _ rfl (mZ_a _ _) (fun q hq => (mZ_n hq).1))
  have K4 : ∀ (σ : gSg) (m : gMem), iR t σ0 m0 [some (.ref (t + 1 + 0)), some (.ref (t + 1 + 1)), none, none, some (.ref (t + 1 + 2)), none, none, none, none, none, none, none, none, some (.ref (t + 1 + 3)), oNl, none, none, none, oNl, oNl, oNl, none, oNl, none, oNl, oNl, oNl, oNl, oNl, none] [(0, 318, (fun _ => 0)), (0, 53, (fun _ => 0)), (0, 160, (fun _ => 0)), (0, 8, iF3)] σ m → gJ E yX7_init cX7_init 1 none (gRm 1 14 1179) F 78 [some (.ref t)] [] 4 539 σ m (t + 1 + 4) := by
    intro σ m h
    have hst := h.1
    refine j_aload_n (q := 79) dX7_init_78 rfl (by rfl) ?_
    refine j_bipush (q := 81) (v := 30) dX7_init_79 rfl (by decide) ?_
    refine j_newI (q := 83) (N := 30) dX7_init_81 rfl rfl (by decide) ⟨by decide, by decide⟩ ?_
    have hsn : va_up σ (t + 1 + 4) (some (.inr (0, 30, fun _ => none))) (t + 1 + 4) = some (.inr (0, 30, fun _ => none)) := va_up_self _ _ _
    refine j_dup (q := 84) dX7_init_83 rfl rfl ?_
    refine j_iconst (q := 85) (v := 0) dX7_init_84 rfl (by decide) ?_
    refine j_bipush (q := 87) (v := 112) dX7_init_85 rfl (by decide) ?_
    refine j_iastore (q := 88) dX7_init_87 rfl (by first | with_reducible assumption | assumption) (by first | with_reducible assumption | assumption) ?_
    refine j_dup (q := 89) dX7_init_88 rfl rfl ?_
    refine j_iconst (q := 90) (v := 1) dX7_init_89 rfl (by decide) ?_
    refine j_bipush (q := 92) (v := 108) dX7_init_90 rfl (by decide) ?_
    refine j_iastore (q := 93) dX7_init_92 rfl (by first | with_reducible assumption | assumption) (by first | with_reducible assumption | assumption) ?_
    refine j_dup (q := 94) dX7_init_93 rfl rfl ?_
    refine j_iconst (q := 95) (v := 2) dX7_init_94 rfl (by decide) ?_
    refine j_bipush (q := 97) (v := 97) dX7_init_95 rfl (by decide) ?_
    refine j_iastore (q := 98) dX7_init_97 rfl (by first | with_reducible assumption | assumption) (by first | with_reducible assumption | assumption) ?_
    refine j_dup (q := 99) dX7_init_98 rfl rfl ?_
    refine j_iconst (q := 100) (v := 3) dX7_init_99 rfl (by decide) ?_
    refine j_bipush (q := 102) (v := 105) dX7_init_100 rfl (by decide) ?_
    refine j_iastore (q := 103) dX7_init_102 rfl (by first | with_reducible assumption | assumption) (by first | with_reducible assumption | assumption) ?_
    refine j_dup (q := 104) dX7_init_103 rfl rfl ?_
    refine j_iconst (q := 105) (v := 4) dX7_init_104 rfl (by decide) ?_
    refine j_bipush (q := 107) (v := 110) dX7_init_105 rfl (by decide) ?_
    refine j_iastore (q := 108) dX7_init_107 rfl (by first | with_reducible assumption | assumption) (by first | with_reducible assumption | assumption) ?_
    refine j_dup (q := 109) dX7_init_108 rfl rfl ?_
    refine j_iconst (q := 110) (v := 5) dX7_init_109 rfl (by decide) ?_
    refine j_bipush (q := 112) (v := 115) dX7_init_110 rfl (by decide) ?_
    refine j_iastore (q := 113) dX7_init_112 rfl (by first | with_reducible assumption | assumption) (by first | with_reducible assumption | assumption) ?_
    refine j_dup (q := 114) dX7_init_113 rfl rfl ?_
    refine j_bipush (q := 116) (v := 6) dX7_init_114 rfl (by decide) ?_
    refine j_bipush (q := 118) (v := 104) dX7_init_116 rfl (by decide) ?_
    refine j_iastore (q := 119) dX7_init_118 rfl (by first | with_reducible assumption | assumption) (by first | with_reducible assumption | assumption) ?_
    refine j_dup (q := 120) dX7_init_119 rfl rfl ?_
    refine j_bipush (q := 122) (v := 7) dX7_init_120 rfl (by decide) ?_
    refine j_bipush (q := 124) (v := 121) dX7_init_122 rfl (by decide) ?_
    refine j_iastore (q := 125) dX7_init_124 rfl (by first | with_reducible assumption | assumption) (by first | with_reducible assumption | assumption) ?_
    refine j_dup (q := 126) dX7_init_125 rfl rfl ?_
    refine j_bipush (q := 128) (v := 8) dX7_init_126 rfl (by decide) ?_
    refine j_bipush (q := 130) (v := 115) dX7_init_128 rfl (by decide) ?_
    refine j_iastore (q := 131) dX7_init_130 rfl (by first | with_reducible assumption | assumption) (by first | with_reducible assumption | assumption) ?_
    refine j_dup (q := 132) dX7_init_131 rfl rfl ?_
    refine j_bipush (q := 134) (v := 9) dX7_init_132 rfl (by decide) ?_
    refine j_bipush (q := 136) (v := 117) dX7_init_134 rfl (by decide) ?_
    refine j_iastore (q := 137) dX7_init_136 rfl (by first | with_reducible assumption | assumption) (by first | with_reducible assumption | assumption) ?_
    refine j_dup (q := 138) dX7_init_137 rfl rfl ?_
    refine j_bipush (q := 140) (v := 10) dX7_init_138 rfl (by decide) ?_
    refine j_bipush (q := 142) (v := 108) dX7_init_140 rfl (by decide) ?_
    refine j_iastore (q := 143) dX7_init_142 rfl (by first | with_reducible assumption | assumption) (by first | with_reducible assumption | assumption) ?_
    refine j_dup (q := 144) dX7_init_143 rfl rfl ?_
    refine j_bipush (q := 146) (v := 11) dX7_init_144 rfl (by decide) ?_
    refine j_bipush (q := 148) (v := 107) dX7_init_146 rfl (by decide) ?_
    refine j_iastore (q := 149) dX7_init_148 rfl (by first | with_reducible assumption | assumption) (by first | with_reducible assumption | assumption) ?_
    refine j_dup (q := 150) dX7_init_149 rfl rfl ?_
    refine j_bipush (q := 152) (v := 12) dX7_init_150 rfl (by decide) ?_
    refine j_bipush (q := 154) (v := 121) dX7_init_152 rfl (by decide) ?_
    refine j_iastore (q := 155) dX7_init_154 rfl (by first | with_reducible assumption | assumption) (by first | with_reducible assumption | assumption) ?_
    refine j_dup (q := 156) dX7_init_155 rfl rfl ?_
    refine j_bipush (q := 158) (v := 13) dX7_init_156 rfl (by decide) ?_
    refine j_bipush (q := 160) (v := 102) dX7_init_158 rfl (by decide) ?_
    refine j_iastore (q := 161) dX7_init_160 rfl (by first | with_reducible assumption | assumption) (by first | with_reducible assumption | assumption) ?_
    refine j_dup (q := 162) dX7_init_161 rfl rfl ?_
    refine j_bipush (q := 164) (v := 14) dX7_init_162 rfl (by decide) ?_
    refine j_bipush (q := 166) (v := 97) dX7_init_164 rfl (by decide) ?_
    refine j_iastore (q := 167) dX7_init_166 rfl (by first | with_reducible assumption | assumption) (by first | with_reducible assumption | assumption) ?_
    refine j_dup (q := 168) dX7_init_167 rfl rfl ?_
    refine j_bipush (q := 170) (v := 15) dX7_init_168 rfl (by decide) ?_
    refine j_bipush (q := 172) (v := 105) dX7_init_170 rfl (by decide) ?_
    refine j_iastore (q := 173) dX7_init_172 rfl (by first | with_reducible assumption | assumption) (by first | with_reducible assumption | assumption) ?_
    refine j_dup (q := 174) dX7_init_173 rfl rfl ?_
    refine j_bipush (q := 176) (v := 16) dX7_init_174 rfl (by decide) ?_
    refine j_bipush (q := 178) (v := 110) dX7_init_176 rfl (by decide) ?_
    refine j_iastore (q := 179) dX7_init_178 rfl (by first | with_reducible assumption | assumption) (by first | with_reducible assumption | assumption) ?_
    refine j_dup (q := 180) dX7_init_179 rfl rfl ?_
    refine j_bipush (q := 182) (v := 17) dX7_init_180 rfl (by decide) ?_
    refine j_bipush (q := 184) (v := 116) dX7_init_182 rfl (by decide) ?_
    refine j_iastore (q := 185) dX7_init_184 rfl (by first | with_reducible assumption | assumption) (by first | with_reducible assumption | assumption) ?_
    refine j_dup (q := 186) dX7_init_185 rfl rfl ?_
    refine j_bipush (q := 188) (v := 18) dX7_init_186 rfl (by decide) ?_
    refine j_bipush (q := 190) (v := 102) dX7_init_188 rfl (by decide) ?_
    refine j_iastore (q := 191) dX7_init_190 rfl (by first | with_reducible assumption | assumption) (by first | with_reducible assumption | assumption) ?_
    refine j_dup (q := 192) dX7_init_191 rfl rfl ?_
    refine j_bipush (q := 194) (v := 19) dX7_init_192 rfl (by decide) ?_
    refine j_bipush (q := 196) (v := 108) dX7_init_194 rfl (by decide) ?_
    refine j_iastore (q := 197) dX7_init_196 rfl (by first | with_reducible assumption | assumption) (by first | with_reducible assumption | assumption) ?_
    refine j_dup (q := 198) dX7_init_197 rfl rfl ?_
    refine j_bipush (q := 200) (v := 20) dX7_init_198 rfl (by decide) ?_
    refine j_bipush (q := 202) (v := 111) dX7_init_200 rfl (by decide) ?_
    refine j_iastore (q := 203) dX7_init_202 rfl (by first | with_reducible assumption | assumption) (by first | with_reducible assumption | assumption) ?_
    refine j_dup (q := 204) dX7_init_203 rfl rfl ?_
    refine j_bipush (q := 206) (v := 21) dX7_init_204 rfl (by decide) ?_
    refine j_bipush (q := 208) (v := 119) dX7_init_206 rfl (by decide) ?_
    refine j_iastore (q := 209) dX7_init_208 rfl (by first | with_reducible assumption | assumption) (by first | with_reducible assumption | assumption) ?_
    refine j_dup (q := 210) dX7_init_209 rfl rfl ?_
    refine j_bipush (q := 212) (v := 22) dX7_init_210 rfl (by decide) ?_
    refine j_bipush (q := 214) (v := 99) dX7_init_212 rfl (by decide) ?_
    refine j_iastore (q := 215) dX7_init_214 rfl (by first | with_reducible assumption | assumption) (by first | with_reducible assumption | assumption) ?_
    refine j_dup (q := 216) dX7_init_215 rfl rfl ?_
    refine j_bipush (q := 218) (v := 23) dX7_init_216 rfl (by decide) ?_
    refine j_bipush (q := 220) (v := 97) dX7_init_218 rfl (by decide) ?_
    refine j_iastore (q := 221) dX7_init_220 rfl (by first | with_reducible assumption | assumption) (by first | with_reducible assumption | assumption) ?_
    refine j_dup (q := 222) dX7_init_221 rfl rfl ?_
    refine j_bipush (q := 224) (v := 24) dX7_init_222 rfl (by decide) ?_
    refine j_bipush (q := 226) (v := 108) dX7_init_224 rfl (by decide) ?_
    refine j_iastore (q := 227) dX7_init_226 rfl (by first | with_reducible assumption | assumption) (by first | with_reducible assumption | assumption) ?_
    refine j_dup (q := 228) dX7_init_227 rfl rfl ?_
    refine j_bipush (q := 230) (v := 25) dX7_init_228 rfl (by decide) ?_
    refine j_bipush (q := 232) (v := 109) dX7_init_230 rfl (by decide) ?_
    refine j_iastore (q := 233) dX7_init_232 rfl (by first | with_reducible assumption | assumption) (by first | with_reducible assumption | assumption) ?_
    refine j_dup (q := 234) dX7_init_233 rfl rfl ?_
    refine j_bipush (q := 236) (v := 26) dX7_init_234 rfl (by decide) ?_
    refine j_bipush (q := 238) (v := 104) dX7_init_236 rfl (by decide) ?_
    refine j_iastore (q := 239) dX7_init_238 rfl (by first | with_reducible assumption | assumption) (by first | with_reducible assumption | assumption) ?_
    refine j_dup (q := 240) dX7_init_239 rfl rfl ?_
    refine j_bipush (q := 242) (v := 27) dX7_init_240 rfl (by decide) ?_
    refine j_bipush (q := 244) (v := 111) dX7_init_242 rfl (by decide) ?_
    refine j_iastore (q := 245) dX7_init_244 rfl (by first | with_reducible assumption | assumption) (by first | with_reducible assumption | assumption) ?_
    refine j_dup (q := 246) dX7_init_245 rfl rfl ?_
    refine j_bipush (q := 248) (v := 28) dX7_init_246 rfl (by decide) ?_
    refine j_bipush (q := 250) (v := 117) dX7_init_248 rfl (by decide) ?_
    refine j_iastore (q := 251) dX7_init_250 rfl (by first | with_reducible assumption | assumption) (by first | with_reducible assumption | assumption) ?_
    refine j_dup (q := 252) dX7_init_251 rfl rfl ?_
    refine j_bipush (q := 254) (v := 29) dX7_init_252 rfl (by decide) ?_
    refine j_bipush (q := 256) (v := 114) dX7_init_254 rfl (by decide) ?_
    refine j_iastore (q := 257) dX7_init_256 rfl (by first | with_reducible assumption | assumption) (by first | with_reducible assumption | assumption) ?_
    refine j_putr (q := 260) (tm := [some (.ref (t + 1 + 0)), some (.ref (t + 1 + 1)), none, none, some (.ref (t + 1 + 2)), none, none, none, none, none, none, none, none, some (.ref (t + 1 + 3)), oNl, none, none, none, oNl, oNl, oNl, none, oNl, none, oNl, oNl, oNl, oNl, oNl, none]) dX7_init_257 rfl fX7_22 p7_14 (Or.inr ⟨rfl, cn7⟩) (by rw [va_up_ne _ _ (by omega)]; exact hst) (by rfl) (Or.inr ⟨_, rfl⟩) ?_
    exact K5 _ _ (iR.st h 0 30 iF4 _ [some (.ref (t + 1 + 0)), some (.ref (t + 1 + 1)), none, none, some (.ref (t + 1 + 2)), none, none, none, none, none, none, none, none, some (.ref (t + 1 + 3)), some (.ref (t + 1 + 4)), none, none, none, oNl, oNl, oNl, none, oNl, none, oNl, oNl, oNl, oNl, oNl, none] _ rfl (by simp only [gW_ro, mZ_a]; rfl) (fun q hq => by simp only [gW_rn hq]; exact (mZ_n hq).1))
  have K3 : ∀ (σ : gSg) (m : gMem), iR t σ0 m0 [some (.ref (t + 1 + 0)), some (.ref (t + 1 + 1)), none, none, some (.ref (t + 1 + 2)), none, none, none, none, none, none, none, none, oNl, oNl, none, none, none, oNl, oNl, oNl, none, oNl, none, oNl, oNl, oNl, oNl, oNl, none] [(0, 318, (fun _ => 0)), (0, 53, (fun _ => 0)), (0, 160, (fun _ => 0))] σ m → gJ E yX7_init cX7_init 1 none (gRm 1 14 1179) F 30 [some (.ref t)] [] 3 531 σ m (t + 1 + 3) := by
    intro σ m h
    have hst := h.1
    refine j_aload_n (q := 31) dX7_init_30 rfl (by rfl) ?_
    refine j_bipush (q := 33) (v := 8) dX7_init_31 rfl (by decide) ?_
    refine j_newI (q := 35) (N := 8) dX7_init_33 rfl rfl (by decide) ⟨by decide, by decide⟩ ?_
    have hsn : va_up σ (t + 1 + 3) (some (.inr (0, 8, fun _ => none))) (t + 1 + 3) = some (.inr (0, 8, fun _ => none)) := va_up_self _ _ _
    refine j_dup (q := 36) dX7_init_35 rfl rfl ?_
    refine j_iconst (q := 37) (v := 0) dX7_init_36 rfl (by decide) ?_
    refine j_iconst (q := 38) (v := 0) dX7_init_37 rfl (by decide) ?_
    refine j_iastore (q := 39) dX7_init_38 rfl (by first | with_reducible assumption | assumption) (by first | with_reducible assumption | assumption) ?_
    refine j_dup (q := 40) dX7_init_39 rfl rfl ?_
    refine j_iconst (q := 41) (v := 1) dX7_init_40 rfl (by decide) ?_
    refine j_iconst (q := 42) (v := 5) dX7_init_41 rfl (by decide) ?_
    refine j_iastore (q := 43) dX7_init_42 rfl (by first | with_reducible assumption | assumption) (by first | with_reducible assumption | assumption) ?_
    refine j_dup (q := 44) dX7_init_43 rfl rfl ?_
    refine j_iconst (q := 45) (v := 2) dX7_init_44 rfl (by decide) ?_
    refine j_bipush (q := 47) (v := 8) dX7_init_45 rfl (by decide) ?_
    refine j_iastore (q := 48) dX7_init_47 rfl (by first | with_reducible assumption | assumption) (by first | with_reducible assumption | assumption) ?_
    refine j_dup (q := 49) dX7_init_48 rfl rfl ?_
    refine j_iconst (q := 50) (v := 3) dX7_init_49 rfl (by decide) ?_
    refine j_bipush (q := 52) (v := 13) dX7_init_50 rfl (by decide) ?_
    refine j_iastore (q := 53) dX7_init_52 rfl (by first | with_reducible assumption | assumption) (by first | with_reducible assumption | assumption) ?_
    refine j_dup (q := 54) dX7_init_53 rfl rfl ?_
    refine j_iconst (q := 55) (v := 4) dX7_init_54 rfl (by decide) ?_
    refine j_bipush (q := 57) (v := 18) dX7_init_55 rfl (by decide) ?_
    refine j_iastore (q := 58) dX7_init_57 rfl (by first | with_reducible assumption | assumption) (by first | with_reducible assumption | assumption) ?_
    refine j_dup (q := 59) dX7_init_58 rfl rfl ?_
    refine j_iconst (q := 60) (v := 5) dX7_init_59 rfl (by decide) ?_
    refine j_bipush (q := 62) (v := 22) dX7_init_60 rfl (by decide) ?_
    refine j_iastore (q := 63) dX7_init_62 rfl (by first | with_reducible assumption | assumption) (by first | with_reducible assumption | assumption) ?_
    refine j_dup (q := 64) dX7_init_63 rfl rfl ?_
    refine j_bipush (q := 66) (v := 6) dX7_init_64 rfl (by decide) ?_
    refine j_bipush (q := 68) (v := 26) dX7_init_66 rfl (by decide) ?_
    refine j_iastore (q := 69) dX7_init_68 rfl (by first | with_reducible assumption | assumption) (by first | with_reducible assumption | assumption) ?_
    refine j_dup (q := 70) dX7_init_69 rfl rfl ?_
    refine j_bipush (q := 72) (v := 7) dX7_init_70 rfl (by decide) ?_
    refine j_bipush (q := 74) (v := 30) dX7_init_72 rfl (by decide) ?_
    refine j_iastore (q := 75) dX7_init_74 rfl (by first | with_reducible assumption | assumption) (by first | with_reducible assumption | assumption) ?_
    refine j_putr (q := 78) (tm := [some (.ref (t + 1 + 0)), some (.ref (t + 1 + 1)), none, none, some (.ref (t + 1 + 2)), none, none, none, none, none, none, none, none, oNl, oNl, none, none, none, oNl, oNl, oNl, none, oNl, none, oNl, oNl, oNl, oNl, oNl, none]) dX7_init_75 rfl fX7_19 p7_13 (Or.inr ⟨rfl, cn7⟩) (by rw [va_up_ne _ _ (by omega)]; exact hst) (by rfl) (Or.inr ⟨_, rfl⟩) ?_
    exact K4 _ _ (iR.st h 0 8 iF3 _ [some (.ref (t + 1 + 0)), some (.ref (t + 1 + 1)), none, none, some (.ref (t + 1 + 2)), none, none, none, none, none, none, none, none, some (.ref (t + 1 + 3)), oNl, none, none, none, oNl, oNl, oNl, none, oNl, none, oNl, oNl, oNl, oNl, oNl, none] _ rfl (by simp only [gW_ro, mZ_a]; rfl) (fun q hq => by simp only [gW_rn hq]; exact (mZ_n hq).1))
  have K2 : ∀ (σ : gSg) (m : gMem), iR t σ0 m0 [some (.ref (t + 1 + 0)), some (.ref (t + 1 + 1)), none, none, oNl, none, none, none, none, none, none, none, none, oNl, oNl, none, none, none, oNl, oNl, oNl, none, oNl, none, oNl, oNl, oNl, oNl, oNl, none] [(0, 318, (fun _ => 0)), (0, 53, (fun _ => 0))] σ m → gJ E yX7_init cX7_init 1 none (gRm 1 14 1179) F 21 [some (.ref t)] [] 2 371 σ m (t + 1 + 2) := by
    intro σ m h
    have hst := h.1
    refine j_aload_n (q := 22) dX7_init_21 rfl (by rfl) ?_
    refine j_sipush (q := 25) (v := 160) dX7_init_22 rfl (by decide) ?_
    refine j_newI (q := 27) (N := 160) dX7_init_25 rfl rfl (by decide) ⟨by decide, by decide⟩ ?_
    have hsn : va_up σ (t + 1 + 2) (some (.inr (0, 160, fun _ => none))) (t + 1 + 2) = some (.inr (0, 160, fun _ => none)) := va_up_self _ _ _
    refine j_putr (q := 30) (tm := [some (.ref (t + 1 + 0)), some (.ref (t + 1 + 1)), none, none, oNl, none, none, none, none, none, none, none, none, oNl, oNl, none, none, none, oNl, oNl, oNl, none, oNl, none, oNl, oNl, oNl, oNl, oNl, none]) dX7_init_27 rfl fX7_16 p7_4 (Or.inr ⟨rfl, cn7⟩) (by rw [va_up_ne _ _ (by omega)]; exact hst) (by rfl) (Or.inr ⟨_, rfl⟩) ?_
    exact K3 _ _ (iR.st h 0 160 (fun _ => 0) _ [some (.ref (t + 1 + 0)), some (.ref (t + 1 + 1)), none, none, some (.ref (t + 1 + 2)), none, none, none, none, none, none, none, none, oNl, oNl, none, none, none, oNl, oNl, oNl, none, oNl, none, oNl, oNl, oNl, oNl, oNl, none] _ rfl (mZ_a _ _) (fun q hq => (mZ_n hq).1))
  have K1 : ∀ (σ : gSg) (m : gMem), iR t σ0 m0 [some (.ref (t + 1 + 0)), oNl, none, none, oNl, none, none, none, none, none, none, none, none, oNl, oNl, none, none, none, oNl, oNl, oNl, none, oNl, none, oNl, oNl, oNl, oNl, oNl, none] [(0, 318, (fun _ => 0))] σ m → gJ E yX7_init cX7_init 1 none (gRm 1 14 1179) F 13 [some (.ref t)] [] 1 318 σ m (t + 1 + 1) := by
    intro σ m h
    have hst := h.1
    refine j_aload_n (q := 14) dX7_init_13 rfl (by rfl) ?_
    refine j_bipush (q := 16) (v := 53) dX7_init_14 rfl (by decide) ?_
    refine j_newI (q := 18) (N := 53) dX7_init_16 rfl rfl (by decide) ⟨by decide, by decide⟩ ?_
    have hsn : va_up σ (t + 1 + 1) (some (.inr (0, 53, fun _ => none))) (t + 1 + 1) = some (.inr (0, 53, fun _ => none)) := va_up_self _ _ _
    refine j_putr (q := 21) (tm := [some (.ref (t + 1 + 0)), oNl, none, none, oNl, none, none, none, none, none, none, none, none, oNl, oNl, none, none, none, oNl, oNl, oNl, none, oNl, none, oNl, oNl, oNl, oNl, oNl, none]) dX7_init_18 rfl fX7_13 p7_1 (Or.inr ⟨rfl, cn7⟩) (by rw [va_up_ne _ _ (by omega)]; exact hst) (by rfl) (Or.inr ⟨_, rfl⟩) ?_
    exact K2 _ _ (iR.st h 0 53 (fun _ => 0) _ [some (.ref (t + 1 + 0)), some (.ref (t + 1 + 1)), none, none, oNl, none, none, none, none, none, none, none, none, oNl, oNl, none, none, none, oNl, oNl, oNl, none, oNl, none, oNl, oNl, oNl, oNl, oNl, none] _ rfl (mZ_a _ _) (fun q hq => (mZ_n hq).1))
  have K0 : ∀ (σ : gSg) (m : gMem), iR t σ0 m0 [oNl, oNl, none, none, oNl, none, none, none, none, none, none, none, none, oNl, oNl, none, none, none, oNl, oNl, oNl, none, oNl, none, oNl, oNl, oNl, oNl, oNl, none] [] σ m → gJ E yX7_init cX7_init 1 none (gRm 1 14 1179) F 4 [some (.ref t)] [] 0 0 σ m (t + 1 + 0) := by
    intro σ m h
    have hst := h.1
    refine j_aload_n (q := 5) dX7_init_4 rfl (by rfl) ?_
    refine j_sipush (q := 8) (v := 318) dX7_init_5 rfl (by decide) ?_
    refine j_newI (q := 10) (N := 318) dX7_init_8 rfl rfl (by decide) ⟨by decide, by decide⟩ ?_
    have hsn : va_up σ (t + 1 + 0) (some (.inr (0, 318, fun _ => none))) (t + 1 + 0) = some (.inr (0, 318, fun _ => none)) := va_up_self _ _ _
    refine j_putr (q := 13) (tm := [oNl, oNl, none, none, oNl, none, none, none, none, none, none, none, none, oNl, oNl, none, none, none, oNl, oNl, oNl, none, oNl, none, oNl, oNl, oNl, oNl, oNl, none]) dX7_init_10 rfl fX7_7 p7_0 (Or.inr ⟨rfl, cn7⟩) (by rw [va_up_ne _ _ (by omega)]; exact hst) (by rfl) (Or.inr ⟨_, rfl⟩) ?_
    exact K1 _ _ (iR.st h 0 318 (fun _ => 0) _ [some (.ref (t + 1 + 0)), oNl, none, none, oNl, none, none, none, none, none, none, none, none, oNl, oNl, none, none, none, oNl, oNl, oNl, none, oNl, none, oNl, oNl, oNl, oNl, oNl, none] _ rfl (mZ_a _ _) (fun q hq => (mZ_n hq).1))
  refine j_aload_n (q := 1) dX7_init_0 rfl (by rfl) ?_
  refine j_objInit (q := 4) dX7_init_1 rfl lX7_1 ⟨by decide, Nat.le_of_ble_eq_true (by rfl)⟩ ?_
  exact K0 σ0 m0 ⟨hs, hz, gKp.rf t σ0 m0, fun i x hx => by simp at hx⟩
theorem gR_of {t : Nat} {σ0 σ : gSg} {m0 m : gMem} (h : iR t σ0 m0 [some (.ref (t + 1 + 0)), some (.ref (t + 1 + 1)), none, none, some (.ref (t + 1 + 2)), none, none, none, none, none, none, none, none, some (.ref (t + 1 + 3)), some (.ref (t + 1 + 4)), none, none, none, some (.ref (t + 1 + 5)), some (.ref (t + 1 + 6)), some (.ref (t + 1 + 7)), none, some (.ref (t + 1 + 8)), none, some (.ref (t + 1 + 9)), some (.ref (t + 1 + 10)), some (.ref (t + 1 + 11)), some (.ref (t + 1 + 12)), some (.ref (t + 1 + 13)), none] iRL σ m) : gR σ t := by
  have k := fun (i : Nat) (x : iRT) (hx : iRL[i]? = some x) => (h.2.2.2 i x hx).1
  exact ⟨h.1, k 0 _ rfl, k 1 _ rfl, k 2 _ rfl, k 3 _ rfl, k 4 _ rfl, k 5 _ rfl, k 6 _ rfl, k 7 _ rfl, k 8 _ rfl, k 9 _ rfl, k 10 _ rfl, k 11 _ rfl, k 12 _ rfl, k 13 _ rfl⟩
theorem iF_lt {t : Nat} {σ0 σ : gSg} {m0 m : gMem} (h : iR t σ0 m0 [some (.ref (t + 1 + 0)), some (.ref (t + 1 + 1)), none, none, some (.ref (t + 1 + 2)), none, none, none, none, none, none, none, none, some (.ref (t + 1 + 3)), some (.ref (t + 1 + 4)), none, none, none, some (.ref (t + 1 + 5)), some (.ref (t + 1 + 6)), some (.ref (t + 1 + 7)), none, some (.ref (t + 1 + 8)), none, some (.ref (t + 1 + 9)), some (.ref (t + 1 + 10)), some (.ref (t + 1 + 11)), some (.ref (t + 1 + 12)), some (.ref (t + 1 + 13)), none] iRL σ m) : okLt m t := by
  have h3 : m.1 (t + 4) = iF3 := (h.2.2.2 3 _ rfl).2
  have h4 : m.1 (t + 5) = iF4 := (h.2.2.2 4 _ rfl).2
  unfold okLt
  rw [h3, h4]
  exact ⟨by decide +kernel, by decide +kernel⟩
