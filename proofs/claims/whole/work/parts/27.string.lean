/-! the seven words of the text: String constants -/
abbrev gAd (E : gEv) (i : Nat) : Nat := E.2.2.2.2.1 i
abbrev gAv (E : gEv) (i : Nat) : Nat := E.2.2.2.2.2.1 i
theorem fJ0_9 : Cond.fieldLink RJ0 9 "java/lang/String" "value" "[B" ∈ gT := gTm (List.mem_of_getElem? (i := 1261) (by decide +kernel)) (by decide +kernel)
theorem fJ0_15 : Cond.fieldLink RJ0 15 "java/lang/String" "coder" "B" ∈ gT := gTm (List.mem_of_getElem? (i := 1262) (by decide +kernel)) (by decide +kernel)
theorem fJ0_38 : Cond.fieldLink RJ0 38 "java/lang/String" "COMPACT_STRINGS" "Z" ∈ gT := gTm (List.mem_of_getElem? (i := 353) (by decide +kernel)) (by decide +kernel)
theorem fJ0_1053 : Cond.fieldLink RJ0 1053 "jdk/internal/util/Preconditions" "SIOOBE_FORMATTER" "Ljava/util/function/BiFunction;" ∈ gT := gTm (List.mem_of_getElem? (i := 369) (by decide +kernel)) (by decide +kernel)
section GS
variable {E : gEv} {y : MethodName} {cc : ByteArray} {nL : Nat} {ret : Option FieldType} {R : Room} {F : gFT} {pc q : Nat} {l : List (Option Value)} {st : List Value} {ck cn : Nat} {σ : gSg} {m : gMem} {hi : Nat}
theorem gRep.kp {H : Heap} (hR : gRep E σ m hi H) : ∀ a : Nat, a < E.2.2.1.size → ¬ gA E a → H[a]? = E.2.2.1[a]? := fun a ha _ => hR.2.2.1 a ha
theorem j_ldcs {idx i : Nat} {tx : String} (hd : decode cc pc = .ok (.ldc idx, 2)) (hq : pc + 2 = q) (hy : y.cls = RX1) (hi' : i < 7) (hx : gIx.getD i 0 = idx) (kk : gJ E y cc nL ret R F q l (.ref (gAd E i) :: st) ck cn σ m hi) : gJ E y cc nL ret R F pc l st ck cn σ m hi := by
  subst hq
  subst hx
  intro p e s mi args below meth c C H locs ls hR hL hl
  have hK := C.2.2.2.2.2.2.2.2.2.1
  exact va_ldcS (own := RX1) C.1 C.2.1 (by rw [← hy]; exact C.2.2.2.2.1) (hK.2.1 i hi') hd (kk p e s mi args below meth c C H locs ls hR hL hl)
theorem j_sget {idx i : Nat} {n d : String} {v : Value} (hd : decode cc pc = .ok (.getfield idx, 3)) (hq : pc + 3 = q) (hlk : Cond.fieldLink y.cls idx "java/lang/String" n d ∈ gT) (hv : ∀ s : State, gK E s → va_OF "java/lang/String" n d v (gAd E i) (gA E) s E.2.2.1) (kk : gJ E y cc nL ret R F q l (v :: st) ck cn σ m hi) : gJ E y cc nL ret R F pc l (.ref (gAd E i) :: st) ck cn σ m hi := by
  subst hq
  intro p e s mi args below meth c C H locs ls hR hL hl
  obtain ⟨cf, k, fi, f, cell, h1, h2, h3, h4, h5, h6⟩ := (hv s C.2.2.2.2.2.2.2.2).kept (gRep.kp hR)
  exact W.getf C.1 C.2.1 C.2.2.2.2.1 (C.2.2.2.2.2.1 _ hlk) h1 h2 h3 h4 (v := v) h5 rfl rfl hd (kk p e s mi args below meth c C H locs ls hR hL hl)
theorem j_sval {idx i : Nat} (hd : decode cc pc = .ok (.getfield idx, 3)) (hq : pc + 3 = q) (hlk : Cond.fieldLink y.cls idx "java/lang/String" "value" "[B" ∈ gT) (hi' : i < 7) (kk : gJ E y cc nL ret R F q l (.ref (gAv E i) :: st) ck cn σ m hi) : gJ E y cc nL ret R F pc l (.ref (gAd E i) :: st) ck cn σ m hi := j_sget hd hq hlk (fun _ hK => (hK.2.1.1.1 i hi').2.2.1) kk
theorem j_scod {idx i : Nat} (hd : decode cc pc = .ok (.getfield idx, 3)) (hq : pc + 3 = q) (hlk : Cond.fieldLink y.cls idx "java/lang/String" "coder" "B" ∈ gT) (hi' : i < 7) (kk : gJ E y cc nL ret R F q l (.int 0 :: st) ck cn σ m hi) : gJ E y cc nL ret R F pc l (.ref (gAd E i) :: st) ck cn σ m hi := j_sget hd hq hlk (fun _ hK => (hK.2.1.1.1 i hi').2.1) kk
theorem j_gets {idx : Nat} {C' n d : String} {v : Value} (hd : decode cc pc = .ok (.getstatic idx, 3)) (hq : pc + 3 = q) (hlk : Cond.fieldLink y.cls idx C' n d ∈ gT) (hv : ∀ s : State, gK E s → va_Z C' n d v (gA E) s E.2.2.1) (kk : gJ E y cc nL ret R F q l (v :: st) ck cn σ m hi) : gJ E y cc nL ret R F pc l st ck cn σ m hi := by
  subst hq
  intro p e s mi args below meth c C H locs ls hR hL hl
  obtain ⟨cf, kf, fi, f, a, cell, h1, h2, h3, h4, h5, h6, h7, h8⟩ := (hv s C.2.2.2.2.2.2.2.2).kept (gRep.kp hR)
  exact W.gets C.1 C.2.1 C.2.2.2.2.1 (C.2.2.2.2.2.1 _ hlk) h1 h2 h3 h4 h5 (fun e => by rw [e] at h6; cases h6) h7 rfl hd (kk p e s mi args below meth c C H locs ls hR hL hl)
theorem j_getq {idx : Nat} {C' n d : String} (hd : decode cc pc = .ok (.getstatic idx, 3)) (hq : pc + 3 = q) (hlk : Cond.fieldLink y.cls idx C' n d ∈ gT) (hv : ∀ s : State, gK E s → va_Zq C' n d (gA E) s E.2.2.1) (kk : ∀ v : Value, (v = .null ∨ ∃ t, v = .ref t) → gJ E y cc nL ret R F q l (v :: st) ck cn σ m hi) : gJ E y cc nL ret R F pc l st ck cn σ m hi := by
  subst hq
  intro p e s mi args below meth c C H locs ls hR hL hl
  obtain ⟨v, hv2, hz⟩ : ∃ v : Value, (v = .null ∨ ∃ t, v = .ref t) ∧ va_Z C' n d v (gA E) s E.2.2.1 := by
    rcases hv s C.2.2.2.2.2.2.2.2 with h | ⟨t, h⟩
    · exact ⟨_, Or.inl rfl, h⟩
    · exact ⟨_, Or.inr ⟨t, rfl⟩, h⟩
  obtain ⟨cf, kf, fi, f, a, cell, h1, h2, h3, h4, h5, h6, h7, h8⟩ := hz.kept (gRep.kp hR)
  exact W.gets C.1 C.2.1 C.2.2.2.2.1 (C.2.2.2.2.2.1 _ hlk) h1 h2 h3 h4 h5 (fun e => by rw [e] at h6; cases h6) h7 rfl hd (kk v hv2 p e s mi args below meth c C H locs ls hR hL hl)
theorem j_wlen {i : Nat} (hd : decode cc pc = .ok (.arraylength, 1)) (hq : pc + 1 = q) (hi' : i < 7) (kk : gJ E y cc nL ret R F q l (.int (nI (gLen.getD i 0)) :: st) ck cn σ m hi) : gJ E y cc nL ret R F pc l (.ref (gAv E i) :: st) ck cn σ m hi := by
  subst hq
  intro p e s mi args below meth c C H locs ls hR hL hl
  obtain ⟨cell, h1, h2, h3, h4, h5, h6, h7⟩ := (C.2.2.2.2.2.2.2.2.2.1.1.1 i hi').2.2.2.kept (gRep.kp hR)
  exact W.alen (n := nI (gLen.getD i 0)) C.1 C.2.1 h1 h2 h5 rfl rfl hd (kk p e s mi args below meth c C H locs ls hR hL hl)
theorem j_sbal {i j : Nat} {x : Int32} (hd : decode cc pc = .ok (.baload, 1)) (hq : pc + 1 = q) (hi' : i < 7) (hx : gIdx x (gLen.getD i 0) j) (kk : gJ E y cc nL ret R F q l (.int ((gByt.getD i []).getD j 0) :: st) ck cn σ m hi) : gJ E y cc nL ret R F pc l (.int x :: .ref (gAv E i) :: st) ck cn σ m hi := by
  subst hq
  obtain ⟨hin, rfl⟩ := hx
  intro p e s mi args below meth c C H locs ls hR hL hl
  obtain ⟨cell, h1, h2, h3, h4, h5, h6, h7⟩ := (C.2.2.2.2.2.2.2.2.2.1.1.1 i hi').2.2.2.kept (gRep.kp hR)
  have hlt : x.toNatClampNeg < gLen.getD i 0 := Nat.not_le.mp fun q => hin (Or.inr q)
  have hin' : ¬ (x < 0 ∨ cell.slots.size ≤ x.toNatClampNeg) := by
    intro q
    rcases q with q | q
    · exact hin (Or.inl q)
    · omega
  exact W.bald (v := .int ((gByt.getD i []).getD x.toNatClampNeg 0)) C.1 C.2.1 h1 h2 h3 hin' (h6 _ hlt) rfl rfl hd (kk p e s mi args below meth c C H locs ls hR hL hl)
theorem j_i2c {x : Int32} (hd : decode cc pc = .ok (.i2c, 1)) (hq : pc + 1 = q)  (kk : gJ E y cc nL ret R F q l (.int (x.toUInt32 % 65536).toInt32 :: st) ck cn σ m hi) : gJ E y cc nL ret R F pc l (.int x :: st) ck cn σ m hi := by
  subst hq
  exact fun p e s mi args below meth c C H locs ls hR hL hl => lv_i2c C.1 C.2.1 hd rfl (kk p e s mi args below meth c C H locs ls hR hL hl)
theorem j_nret {Q : gQT} {mc ms : Nat} {v : Int32} {ty : FieldType} (hF : F = gFn E Q mc ms) (hty : ty = .byte ∨ ty = .char) (hr : ret = some ty) (hd : decode cc pc = .ok (.ireturn, 1)) (hk : ck ≤ mc ∧ cn ≤ ms) (hv : narrow ty (.int v) = .int v) (hQ : Q (some (.int v)) σ m hi) : gJ E y cc nL ret R F pc l [.int v] ck cn σ m hi := by
  subst hF
  intro p e s mi args below meth c C H locs ls hR hL hl
  have hlk : meth.locks = false := C.2.2.2.2.2.2.1
  rcases hty with rfl | rfl
  · exact W.widen hk.1 hk.2 (W.zret (ty := .byte) C.1 C.2.1 (C.2.2.1.trans hr) hv (fun t ht _ => ⟨_, _, _, _, rfl, hQ, by rw [ht]; exact hR⟩) hL hd hlk)
  · exact W.widen hk.1 hk.2 (W.zret (ty := .char) C.1 C.2.1 (C.2.2.1.trans hr) hv (fun t ht _ => ⟨_, _, _, _, rfl, hQ, by rw [ht]; exact hR⟩) hL hd hlk)
theorem j_callW {idx i nL' n' d mc ms : Nat} {y' : MethodName} {cc' : ByteArray} {ret' : Option FieldType} {As st0 : List Value} {Q : gQT} (hd : decode cc pc = .ok (.invokevirtual idx, 3)) (hq : pc + 3 = q) (hl : Cond.methodLink y.cls idx y' ∈ gT) (hw : gMw y' cc' nL' ret' n') (hv : gMv y') (hc : y'.cls = RJ0) (hi' : i < 7) (hst : st0 = As.reverse ++ .ref (gAd E i) :: st) (hn : As.length = n') (hsum : (st.map fun v => v.category).sum ≤ 8) (hf : gFit R nL' d mc ms ck cn) (hM : gCt E y' cc' nL' ret' d mc ms (.ref (gAd E i) :: As) σ m hi Q)
    (kk : ∀ (v : Option Value) (σ' : gSg) (m' : gMem) (hi' : Nat), Q v σ' m' hi' → gJ E y cc nL ret R F q l (v.toList ++ st) (ck + mc) (cn + ms) σ' m' hi') : gJ E y cc nL ret R F pc l st0 ck cn σ m hi := by
  subst hq
  intro p e s mi args below meth c C H locs ls hR hL hls
  have hts := C.2.2.2.2.2.1
  obtain ⟨cell, c1, c2, c3, -⟩ := (C.2.2.2.2.2.2.2.2.2.1.1.1 i hi').1.kept (gRep.kp hR)
  refine gCallW (a := (Value.ref (gAd E i) :: As).toArray) (st := st) hL (va_runV (C := y'.cls) (b := gAd E i) (As := As) (rest := st) (cc := cc) (nL := nL) (own := y.cls) (Ts := gT) ⟨C.1, C.2.1, C.2.2.2.1, C.2.2.2.2.1, hts⟩ hM ⟨callB_of n' hts (gGood y' cc' nL' ret' hw) rfl rfl rfl (hts _ hw.2.1) (hts _ hl) hw.2.2.1 hf.1, hts _ hv.1, hts _ hv.2⟩ ⟨gBlind, ⟨cell, c1, c2, by rw [hc]; exact c3⟩, fun U hU hW => ⟨rfl, by rw [hU]; exact hR, gK.warm hW C.2.2.2.2.2.2.2.2⟩⟩ rfl hn hls.1 hst (lv_room hsum) hd hf.2) ?_
  intro v σ' m' hi' hQ H1 locs1 hR1 hL1
  exact kk v σ' m' hi' hQ p e s mi args below meth c C H1 locs1 ls hR1 hL1 hls
end GS
section GSO
variable {E : gEv} {y : MethodName} {cc : ByteArray} {nL : Nat} {ret : Option FieldType} {F : gFT} {pc q : Nat} {l : List (Option Value)} {st : List Value} {σ : gSg} {m : gMem} {hi d : Nat} {P : Option Value → gMem → Prop}
theorem o_nret {v : Int32} {ty : FieldType} (hF : F = gFn E (gQo σ hi P) 0 0) (hty : ty = .byte ∨ ty = .char) (hr : ret = some ty) (hd : decode cc pc = .ok (.ireturn, 1)) (hv : narrow ty (.int v) = .int v) (hP : P (some (.int v)) m) : gJ E y cc nL ret (gRm d 0 0) F pc l [.int v] 0 0 σ m hi := j_nret hF hty hr hd ⟨Nat.le_refl 0, Nat.le_refl 0⟩ hv ⟨rfl, rfl, hP⟩
theorem o_callWi {idx i nL' n' d' : Nat} {y' : MethodName} {cc' : ByteArray} {ret' : Option FieldType} {As st0 : List Value} {r : Int32} {m1 : gMem} (hd : decode cc pc = .ok (.invokevirtual idx, 3)) (hq : pc + 3 = q) (hl : Cond.methodLink y.cls idx y' ∈ gT) (hw : gMw y' cc' nL' ret' n') (hv : gMv y') (hc : y'.cls = RJ0) (hi' : i < 7) (hst : st0 = As.reverse ++ .ref (gAd E i) :: st) (hn : As.length = n') (hsum : (st.map fun v => v.category).sum ≤ 8) (hf : d' + 1 ≤ d) (hM : gCo E y' cc' nL' ret' d' (.ref (gAd E i) :: As) σ m hi (gX (some (.int r)) m1)) (kk : gJ E y cc nL ret (gRm d 0 0) F q l (.int r :: st) 0 0 σ m1 hi) : gJ E y cc nL ret (gRm d 0 0) F pc l st0 0 0 σ m hi := by
  refine j_callW hd hq hl hw hv hc hi' hst hn hsum (gFit.o hf hw.2.2.2.2) hM ?_
  rintro v σ' m' hi' ⟨rfl, rfl, rfl, rfl⟩
  exact kk
end GSO
theorem cJ_coder (E : gEv) (σ : gSg) (m : gMem) (hi i : Nat) (h7 : i < 7) : gCo E yJ0_coder_7d493 cJ0_coder_7d493 1 (some .byte) 0 [.ref (gAd E i)] σ m hi (gX (some (.int 0)) m) := by
  refine gCo.of mwJ0_coder_7d493 (Nat.le_of_ble_eq_true rfl) ?_
  intro F hF
  refine j_gets (q := 3) (v := .int 1) dJ0_coder_7d493_0 rfl fJ0_38 (fun _ hK => hK.2.1.2.2.1) ?_
  refine j_if_eq (q := 6) (tgt := 13) dJ0_coder_7d493_3 rfl (by decide) (fun h3 => ?_) (fun h3 => ?_)
  · exact absurd h3 (by decide)
  refine j_aload_n (q := 7) dJ0_coder_7d493_6 rfl (by rfl) ?_
  refine j_scod (q := 10) dJ0_coder_7d493_7 rfl fJ0_15 h7 ?_
  refine j_goto (tgt := 14) dJ0_coder_7d493_10 (by decide) ?_
  refine o_nret (ty := .byte) hF (Or.inl rfl) rfl dJ0_coder_7d493_14 (by decide) ?_
  exact ⟨rfl, rfl⟩
theorem cJ_isLatin1 (E : gEv) (σ : gSg) (m : gMem) (hi i : Nat) (h7 : i < 7) : gCo E yJ0_isLatin1_aae02 cJ0_isLatin1_aae02 1 (some .boolean) 0 [.ref (gAd E i)] σ m hi (gX (some (.int 1)) m) := by
  refine gCo.of mwJ0_isLatin1_aae02 (Nat.le_of_ble_eq_true rfl) ?_
  intro F hF
  refine j_gets (q := 3) (v := .int 1) dJ0_isLatin1_aae02_0 rfl fJ0_38 (fun _ hK => hK.2.1.2.2.1) ?_
  refine j_if_eq (q := 6) (tgt := 17) dJ0_isLatin1_aae02_3 rfl (by decide) (fun h3 => ?_) (fun h3 => ?_)
  · exact absurd h3 (by decide)
  refine j_aload_n (q := 7) dJ0_isLatin1_aae02_6 rfl (by rfl) ?_
  refine j_scod (q := 10) dJ0_isLatin1_aae02_7 rfl fJ0_15 h7 ?_
  refine j_if_ne (q := 13) (tgt := 17) dJ0_isLatin1_aae02_10 rfl (by decide) (fun h10 => ?_) (fun h10 => ?_)
  · exact absurd rfl h10
  refine j_iconst (q := 14) (v := 1) dJ0_isLatin1_aae02_13 rfl (by decide) ?_
  refine j_goto (tgt := 18) dJ0_isLatin1_aae02_14 (by decide) ?_
  refine o_zret hF rfl dJ0_isLatin1_aae02_18 (by first | assumption | exact Or.inl rfl | exact Or.inr rfl) ?_
  exact ⟨rfl, rfl⟩
theorem cJ_length (E : gEv) (σ : gSg) (m : gMem) (hi i : Nat) (h7 : i < 7) : gCo E yJ0_length_8abf5 cJ0_length_8abf5 1 (some .int) 1 [.ref (gAd E i)] σ m hi (gX (some (.int (nI (gLen.getD i 0)))) m) := by
  refine gCo.of mwJ0_length_8abf5 (Nat.le_of_ble_eq_true rfl) ?_
  intro F hF
  refine j_aload_n (q := 1) dJ0_length_8abf5_0 rfl (by rfl) ?_
  refine j_sval (q := 4) dJ0_length_8abf5_1 rfl fJ0_9 h7 ?_
  refine j_wlen (q := 5) dJ0_length_8abf5_4 rfl h7 ?_
  refine j_aload_n (q := 6) dJ0_length_8abf5_5 rfl (by rfl) ?_
  refine o_callWi (q := 9) dJ0_length_8abf5_6 rfl lJ0_335 mwJ0_coder_7d493 mvJ0_coder_7d493 rfl h7 (As := []) (by rfl) rfl (Nat.le_of_ble_eq_true (by rfl)) (by decide) (cJ_coder E σ m hi i h7) ?_
  refine j_ishr (q := 10) dJ0_length_8abf5_9 rfl ?_
  refine o_iret hF rfl dJ0_length_8abf5_10 ?_
  refine ⟨?_, rfl⟩
  have : ∀ i, i < 7 → nI (gLen.getD i 0) >>> ((0 : Int32) &&& 31) = nI (gLen.getD i 0) := by decide +kernel
  rw [this i h7]
theorem cJ_pre (E : gEv) (σ : gSg) (m : gMem) (hi j n : Nat) (v : Value) (hv : v = .null ∨ ∃ t, v = .ref t) (hj : j < n) (hn : n < 2 ^ 31) : gCo E yJ3_checkIndex_8e157 cJ3_checkIndex_8e157 3 (some .int) 0 [.int (nI j), .int (nI n), v] σ m hi (gX (some (.int (nI j))) m) := by
  have key : gCo E yJ3_checkIndex_8e157 cJ3_checkIndex_8e157 3 (some .int) 0 [.int (nI j), .int (nI n), v] σ m hi (gX (some (.int (nI j))) m) := by
    refine gCo.of mwJ3_checkIndex_8e157 (by rcases hv with rfl | ⟨t, rfl⟩ <;> exact Nat.le_of_ble_eq_true rfl) ?_
    intro F hF
    have hl : gPad 3 (gAr [.int (nI j), .int (nI n), v]) = [some (.int (nI j)), some (.int (nI n)), some v] := by
      rcases hv with rfl | ⟨t, rfl⟩ <;> rfl
    rw [hl]
    refine j_iload_n (q := 1) dJ3_checkIndex_8e157_0 rfl (by rfl) ?_
    refine j_if_lt (q := 4) (tgt := 9) dJ3_checkIndex_8e157_1 rfl (by decide) (fun h1 => ?_) (fun h1 => ?_)
    · exact absurd h1 (nI_pos (by omega))
    refine j_iload_n (q := 5) dJ3_checkIndex_8e157_4 rfl (by rfl) ?_
    refine j_iload_n (q := 6) dJ3_checkIndex_8e157_5 rfl (by rfl) ?_
    refine j_icmp_lt (q := 9) (tgt := 16) dJ3_checkIndex_8e157_6 rfl (by decide) (fun h6 => ?_) (fun h6 => ?_)
    · refine j_iload_n (q := 17) dJ3_checkIndex_8e157_16 rfl (by rfl) ?_
      refine o_iret hF rfl dJ3_checkIndex_8e157_17 ?_
      exact ⟨rfl, rfl⟩
    · exact absurd (nI_lt hj hn) h6
  exact key
theorem cJ_check (E : gEv) (σ : gSg) (m : gMem) (hi j n : Nat) (hj : j < n) (hn : n < 2 ^ 31) : gCo E yJ0_checkIndex_df160 cJ0_checkIndex_df160 2 (none) 1 [.int (nI j), .int (nI n)] σ m hi (gX none m) := by
  refine gCo.of mwJ0_checkIndex_df160 (Nat.le_of_ble_eq_true rfl) ?_
  intro F hF
  refine j_iload_n (q := 1) dJ0_checkIndex_df160_0 rfl (by rfl) ?_
  refine j_iload_n (q := 2) dJ0_checkIndex_df160_1 rfl (by rfl) ?_
  refine j_getq (q := 5) dJ0_checkIndex_df160_2 rfl fJ0_1053 (fun _ hK => hK.2.1.2.2.2) (fun v hv => ?_)
  refine o_callSi (q := 8) dJ0_checkIndex_df160_5 rfl lJ0_1059 mwJ3_checkIndex_8e157 msJ3_checkIndex_8e157 (As := [.int (nI j), .int (nI n), v]) (by rfl) rfl (Nat.le_of_ble_eq_true (by rfl)) (by decide) (cJ_pre E σ m hi j n v hv hj hn) ?_
  refine j_pop (q := 9) dJ0_checkIndex_df160_8 rfl rfl ?_
  refine o_vret hF rfl dJ0_checkIndex_df160_9 ?_
  exact ⟨rfl, rfl⟩
theorem gByt_ch : ∀ i, i < 7 → ∀ j, j < gLen.getD i 0 → (((gByt.getD i []).getD j 0 &&& 255).toUInt32 % 65536).toInt32 = (gByt.getD i []).getD j 0 := by decide +kernel
theorem gLen_lt : ∀ i, i < 7 → gLen.getD i 0 < 6 := by decide +kernel
theorem cJ_lat (E : gEv) (σ : gSg) (m : gMem) (hi i j : Nat) (h7 : i < 7) (hj : j < gLen.getD i 0) : gCo E yJ1_charAt_3b067 cJ1_charAt_3b067 2 (some .char) 2 [.ref (gAv E i), .int (nI j)] σ m hi (gX (some (.int ((gByt.getD i []).getD j 0))) m) := by
  refine gCo.of mwJ1_charAt_3b067 (Nat.le_of_ble_eq_true rfl) ?_
  intro F hF
  have hl := gLen_lt i h7
  have hix : gIdx (nI j) (gLen.getD i 0) j := gIdx.of rfl hj (by omega)
  refine j_iload_n (q := 1) dJ1_charAt_3b067_0 rfl (by rfl) ?_
  refine j_aload_n (q := 2) dJ1_charAt_3b067_1 rfl (by rfl) ?_
  refine j_wlen (q := 3) dJ1_charAt_3b067_2 rfl h7 ?_
  refine o_callSv (q := 6) dJ1_charAt_3b067_3 rfl lJ1_9 mwJ0_checkIndex_df160 msJ0_checkIndex_df160 (by rfl) rfl (Nat.le_of_ble_eq_true (by rfl)) (by first | decide | omega) (cJ_check E σ m hi j (gLen.getD i 0) hj (by omega)) ?_
  refine j_aload_n (q := 7) dJ1_charAt_3b067_6 rfl (by rfl) ?_
  refine j_iload_n (q := 8) dJ1_charAt_3b067_7 rfl (by rfl) ?_
  refine j_sbal (q := 9) dJ1_charAt_3b067_8 rfl h7 hix ?_
  refine j_sipush (q := 12) (v := 255) dJ1_charAt_3b067_9 rfl (by decide) ?_
  refine j_iand (q := 13) dJ1_charAt_3b067_12 rfl ?_
  refine j_i2c (q := 14) dJ1_charAt_3b067_13 rfl ?_
  refine o_nret (ty := .char) hF (Or.inr rfl) rfl dJ1_charAt_3b067_14 (pk_nc _) ?_
  exact ⟨by rw [gByt_ch i h7 j hj], rfl⟩
theorem cJ_charAt (E : gEv) (σ : gSg) (m : gMem) (hi i j : Nat) (h7 : i < 7) (hj : j < gLen.getD i 0) : gCo E yJ0_charAt_5068e cJ0_charAt_5068e 2 (some .char) 3 [.ref (gAd E i), .int (nI j)] σ m hi (gX (some (.int ((gByt.getD i []).getD j 0))) m) := by
  refine gCo.of mwJ0_charAt_5068e (Nat.le_of_ble_eq_true rfl) ?_
  intro F hF
  refine j_aload_n (q := 1) dJ0_charAt_5068e_0 rfl (by rfl) ?_
  refine o_callWi (q := 4) dJ0_charAt_5068e_1 rfl lJ0_492 mwJ0_isLatin1_aae02 mvJ0_isLatin1_aae02 rfl h7 (As := []) (by rfl) rfl (Nat.le_of_ble_eq_true (by rfl)) (by decide) (cJ_isLatin1 E σ m hi i h7) ?_
  refine j_if_eq (q := 7) (tgt := 16) dJ0_charAt_5068e_4 rfl (by decide) (fun h4 => ?_) (fun h4 => ?_)
  · exact absurd h4 (by decide)
  refine j_aload_n (q := 8) dJ0_charAt_5068e_7 rfl (by rfl) ?_
  refine j_sval (q := 11) dJ0_charAt_5068e_8 rfl fJ0_9 h7 ?_
  refine j_iload_n (q := 12) dJ0_charAt_5068e_11 rfl (by rfl) ?_
  refine o_callSi (q := 15) dJ0_charAt_5068e_12 rfl lJ0_495 mwJ1_charAt_3b067 msJ1_charAt_3b067 (by rfl) rfl (Nat.le_of_ble_eq_true (by rfl)) (by first | decide | omega) (cJ_lat E σ m hi i j h7 hj) ?_
  refine o_nret (ty := .char) hF (Or.inr rfl) rfl dJ0_charAt_5068e_15 (by rw [← gByt_ch i h7 j hj]; exact pk_nc _) ?_
  exact ⟨rfl, rfl⟩
