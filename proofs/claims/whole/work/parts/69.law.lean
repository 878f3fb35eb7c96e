/-! the law: its cases -/
abbrev gXs (E : gEv) : Nat → Int32 := E.2.2.2.2.2.2.2.2
abbrev gSL (E : gEv) : Nat := E.2.2.2.2.2.2.2.1
abbrev gSa (E : gEv) : Nat := E.2.2.2.2.2.2.1
abbrev yLn (nm : String) : MethodName := ⟨RL, nm, "([I)Z"⟩
abbrev lwJ (E : gEv) (nm : String) (F : gFT) (pc : Nat) (st : List Value) (σ : gSg) (m : gMem) (hi x t i : Nat) : Prop := gJ E (yLn nm) code 4 ret room_1 F pc [some (.ref (gSa E)), some (.ref x), some (.ref t), some (.int (nI i))] st 109 2191 σ m hi
theorem j_arg {E : gEv} {y : MethodName} {cc : ByteArray} {nL : Nat} {ret : Option FieldType} {R : Room} {F : gFT} {pc q : Nat} {l : List (Option Value)} {st : List Value} {ck cn : Nat} {σ : gSg} {m : gMem} {hi j : Nat} {v : Int32} (hd : decode cc pc = .ok (.iaload, 1)) (hq : pc + 1 = q) (hv : v = nI j) (hj : j < gSL E) (hL : gSL E ≤ 2560) (kk : gJ E y cc nL ret R F q l (.int (gXs E j) :: st) ck cn σ m hi) : gJ E y cc nL ret R F pc l (.int v :: .ref (gSa E) :: st) ck cn σ m hi := by
  subst hv
  refine j_sload hd hq (vp_in_nI hj (Nat.lt_of_le_of_lt hL (by decide))) ?_
  rw [nI_clamp (Nat.lt_trans (Nat.lt_of_lt_of_le hj hL) (by decide))]
  exact kk
theorem lgc_0 (z : Int64) : lg_cmp z z = 0 := Int32.le_antisymm (Int32.not_lt.mp (fun q => absurd ((lgc_gt z z).mp q) (Int64.lt_irrefl))) (Int32.not_lt.mp (fun q => absurd ((lgc_lt z z).mp q) (Int64.lt_irrefl)))
theorem lw_feed {E : gEv} {nm : String} {F : gFT} {σ : gSg} {m : gMem} {hi x t i : Nat} (hN : gN σ x) (hR : gR σ t) (h : REL m x t) (ht : x + 94 ≤ t) (hi5 : i + 5 ≤ gSL E) (hL : gSL E ≤ 2560) (kk : ∀ m', REL m' x t → lwJ E nm F 1544 [] σ m' hi x t i) : lwJ E nm F 216 [] σ m hi x t i := by
  have h0 := hN.1
  have h1 := hR.1
  obtain ⟨P, hC, hP⟩ := pr_feed E σ m hi x t (gXs E (i + 1)) hN hR h ht
  refine j_aload_n (q := 217) dL_law_216 rfl (by rfl) ?_
  refine j_aload_n (q := 218) dL_law_217 rfl (by rfl) ?_
  refine j_iload_n (q := 219) dL_law_218 rfl (by rfl) ?_
  refine j_iconst (q := 220) (v := 1) dL_law_219 rfl (by decide) ?_
  refine j_iadd (q := 221) dL_law_220 rfl ?_
  refine j_arg (q := 222) (j := i + 1) dL_law_221 rfl (nI_add i 1) (by omega) hL ?_
  refine j_callV (q := 225) dL_law_222 rfl lL_13 mwX6_feed mvX6_feed cn6 h0 (by rfl) rfl (Nat.le_of_ble_eq_true (by rfl)) ⟨⟨Nat.le_of_ble_eq_true rfl, Nat.le_of_ble_eq_true rfl⟩, Nat.le_of_ble_eq_true rfl, Nat.le_of_ble_eq_true rfl⟩ hC ?_
  rintro v σ1 m1 hi1 ⟨rfl, rfl, q1⟩
  obtain ⟨z, rfl, hC2⟩ := hP v m1 q1
  refine j_aload_n (q := 226) dL_law_225 rfl (by rfl) ?_
  refine j_aload_n (q := 227) dL_law_226 rfl (by rfl) ?_
  refine j_iload_n (q := 228) dL_law_227 rfl (by rfl) ?_
  refine j_iconst (q := 229) (v := 1) dL_law_228 rfl (by decide) ?_
  refine j_iadd (q := 230) dL_law_229 rfl ?_
  refine j_arg (q := 231) (j := i + 1) dL_law_230 rfl (nI_add i 1) (by omega) hL ?_
  refine j_callV (q := 234) dL_law_231 rfl lL_17 mwX7_feed mvX7_feed cn7 h1 (by rfl) rfl (Nat.le_of_ble_eq_true (by rfl)) ⟨⟨Nat.le_of_ble_eq_true rfl, Nat.le_of_ble_eq_true rfl⟩, Nat.le_of_ble_eq_true rfl, Nat.le_of_ble_eq_true rfl⟩ hC2 ?_
  rintro v σ2 m2 hi2 ⟨rfl, rfl, rfl, q2⟩
  exact j_icmp_eq (q := 237) (tgt := 1544) dL_law_234 rfl (by decide) (fun _ => kk m2 q2) (fun hn => absurd rfl hn)
theorem lw_end {E : gEv} {nm : String} {F : gFT} {σ : gSg} {m : gMem} {hi x t i : Nat} (hN : gN σ x) (hR : gR σ t) (h : REL m x t) (ht : x + 94 ≤ t) (hi5 : i + 5 ≤ gSL E) (hL : gSL E ≤ 2560) (kk : ∀ m', REL m' x t → lwJ E nm F 1544 [] σ m' hi x t i) : lwJ E nm F 239 [] σ m hi x t i := by
  have h0 := hN.1
  have h1 := hR.1
  obtain ⟨P, hC, hP⟩ := pr_end E σ m hi x t (gXs E (i + 1)) hN hR h ht
  refine j_aload_n (q := 240) dL_law_239 rfl (by rfl) ?_
  refine j_aload_n (q := 241) dL_law_240 rfl (by rfl) ?_
  refine j_iload_n (q := 242) dL_law_241 rfl (by rfl) ?_
  refine j_iconst (q := 243) (v := 1) dL_law_242 rfl (by decide) ?_
  refine j_iadd (q := 244) dL_law_243 rfl ?_
  refine j_arg (q := 245) (j := i + 1) dL_law_244 rfl (nI_add i 1) (by omega) hL ?_
  refine j_callV (q := 248) dL_law_245 rfl lL_18 mwX6_end mvX6_end cn6 h0 (by rfl) rfl (Nat.le_of_ble_eq_true (by rfl)) ⟨⟨Nat.le_of_ble_eq_true rfl, Nat.le_of_ble_eq_true rfl⟩, Nat.le_of_ble_eq_true rfl, Nat.le_of_ble_eq_true rfl⟩ hC ?_
  rintro v σ1 m1 hi1 ⟨rfl, rfl, q1⟩
  obtain ⟨z, rfl, hC2⟩ := hP v m1 q1
  refine j_aload_n (q := 249) dL_law_248 rfl (by rfl) ?_
  refine j_aload_n (q := 250) dL_law_249 rfl (by rfl) ?_
  refine j_iload_n (q := 251) dL_law_250 rfl (by rfl) ?_
  refine j_iconst (q := 252) (v := 1) dL_law_251 rfl (by decide) ?_
  refine j_iadd (q := 253) dL_law_252 rfl ?_
  refine j_arg (q := 254) (j := i + 1) dL_law_253 rfl (nI_add i 1) (by omega) hL ?_
  refine j_callV (q := 257) dL_law_254 rfl lL_21 mwX7_end mvX7_end cn7 h1 (by rfl) rfl (Nat.le_of_ble_eq_true (by rfl)) ⟨⟨Nat.le_of_ble_eq_true rfl, Nat.le_of_ble_eq_true rfl⟩, Nat.le_of_ble_eq_true rfl, Nat.le_of_ble_eq_true rfl⟩ hC2 ?_
  rintro v σ2 m2 hi2 ⟨rfl, rfl, rfl, q2⟩
  exact j_icmp_eq (q := 260) (tgt := 1544) dL_law_257 rfl (by decide) (fun _ => kk m2 q2) (fun hn => absurd rfl hn)
theorem lw_text {E : gEv} {nm : String} {F : gFT} {σ : gSg} {m : gMem} {hi x t i : Nat} (hN : gN σ x) (hR : gR σ t) (h : REL m x t) (ht : x + 94 ≤ t) (hi5 : i + 5 ≤ gSL E) (hL : gSL E ≤ 2560) (kk : ∀ m', REL m' x t → lwJ E nm F 1544 [] σ m' hi x t i) : lwJ E nm F 262 [] σ m hi x t i := by
  have h0 := hN.1
  have h1 := hR.1
  obtain ⟨P, hC, hP⟩ := pr_text E σ m hi x t  hN hR h ht
  refine j_aload_n (q := 263) dL_law_262 rfl (by rfl) ?_
  refine j_callV (q := 266) dL_law_263 rfl lL_22 mwX6_text mvX6_text cn6 h0 (by rfl) rfl (Nat.le_of_ble_eq_true (by rfl)) ⟨⟨Nat.le_of_ble_eq_true rfl, Nat.le_of_ble_eq_true rfl⟩, Nat.le_of_ble_eq_true rfl, Nat.le_of_ble_eq_true rfl⟩ hC ?_
  rintro v σ1 m1 hi1 ⟨rfl, rfl, q1⟩
  obtain ⟨z, rfl, hC2⟩ := hP v m1 q1
  refine j_aload_n (q := 267) dL_law_266 rfl (by rfl) ?_
  refine j_callV (q := 270) dL_law_267 rfl lL_26 mwX7_text mvX7_text cn7 h1 (by rfl) rfl (Nat.le_of_ble_eq_true (by rfl)) ⟨⟨Nat.le_of_ble_eq_true rfl, Nat.le_of_ble_eq_true rfl⟩, Nat.le_of_ble_eq_true rfl, Nat.le_of_ble_eq_true rfl⟩ hC2 ?_
  rintro v σ2 m2 hi2 ⟨rfl, rfl, rfl, q2⟩
  exact j_icmp_eq (q := 273) (tgt := 1544) dL_law_270 rfl (by decide) (fun _ => kk m2 q2) (fun hn => absurd rfl hn)
theorem lw_fault {E : gEv} {nm : String} {F : gFT} {σ : gSg} {m : gMem} {hi x t i : Nat} (hN : gN σ x) (hR : gR σ t) (h : REL m x t) (ht : x + 94 ≤ t) (hi5 : i + 5 ≤ gSL E) (hL : gSL E ≤ 2560) (kk : ∀ m', REL m' x t → lwJ E nm F 1544 [] σ m' hi x t i) : lwJ E nm F 275 [] σ m hi x t i := by
  have h0 := hN.1
  have h1 := hR.1
  obtain ⟨P, hC, hP⟩ := pr_fault E σ m hi x t  hN hR h ht
  refine j_aload_n (q := 276) dL_law_275 rfl (by rfl) ?_
  refine j_callV (q := 279) dL_law_276 rfl lL_27 mwX6_fault mvX6_fault cn6 h0 (by rfl) rfl (Nat.le_of_ble_eq_true (by rfl)) ⟨⟨Nat.le_of_ble_eq_true rfl, Nat.le_of_ble_eq_true rfl⟩, Nat.le_of_ble_eq_true rfl, Nat.le_of_ble_eq_true rfl⟩ hC ?_
  rintro v σ1 m1 hi1 ⟨rfl, rfl, q1⟩
  obtain ⟨z, rfl, hC2⟩ := hP v m1 q1
  refine j_aload_n (q := 280) dL_law_279 rfl (by rfl) ?_
  refine j_callV (q := 283) dL_law_280 rfl lL_30 mwX7_fault mvX7_fault cn7 h1 (by rfl) rfl (Nat.le_of_ble_eq_true (by rfl)) ⟨⟨Nat.le_of_ble_eq_true rfl, Nat.le_of_ble_eq_true rfl⟩, Nat.le_of_ble_eq_true rfl, Nat.le_of_ble_eq_true rfl⟩ hC2 ?_
  rintro v σ2 m2 hi2 ⟨rfl, rfl, rfl, q2⟩
  exact j_icmp_eq (q := 286) (tgt := 1544) dL_law_283 rfl (by decide) (fun _ => kk m2 q2) (fun hn => absurd rfl hn)
theorem lw_rule {E : gEv} {nm : String} {F : gFT} {σ : gSg} {m : gMem} {hi x t i : Nat} (hN : gN σ x) (hR : gR σ t) (h : REL m x t) (ht : x + 94 ≤ t) (hi5 : i + 5 ≤ gSL E) (hL : gSL E ≤ 2560) (kk : ∀ m', REL m' x t → lwJ E nm F 1544 [] σ m' hi x t i) : lwJ E nm F 288 [] σ m hi x t i := by
  have h0 := hN.1
  have h1 := hR.1
  obtain ⟨P, hC, hP⟩ := pr_rule E σ m hi x t (gXs E (i + 1)) hN hR h ht
  refine j_aload_n (q := 289) dL_law_288 rfl (by rfl) ?_
  refine j_aload_n (q := 290) dL_law_289 rfl (by rfl) ?_
  refine j_iload_n (q := 291) dL_law_290 rfl (by rfl) ?_
  refine j_iconst (q := 292) (v := 1) dL_law_291 rfl (by decide) ?_
  refine j_iadd (q := 293) dL_law_292 rfl ?_
  refine j_arg (q := 294) (j := i + 1) dL_law_293 rfl (nI_add i 1) (by omega) hL ?_
  refine j_callV (q := 297) dL_law_294 rfl lL_31 mwX6_rule mvX6_rule cn6 h0 (by rfl) rfl (Nat.le_of_ble_eq_true (by rfl)) ⟨⟨Nat.le_of_ble_eq_true rfl, Nat.le_of_ble_eq_true rfl⟩, Nat.le_of_ble_eq_true rfl, Nat.le_of_ble_eq_true rfl⟩ hC ?_
  rintro v σ1 m1 hi1 ⟨rfl, rfl, q1⟩
  obtain ⟨z, rfl, hC2⟩ := hP v m1 q1
  refine j_aload_n (q := 298) dL_law_297 rfl (by rfl) ?_
  refine j_aload_n (q := 299) dL_law_298 rfl (by rfl) ?_
  refine j_iload_n (q := 300) dL_law_299 rfl (by rfl) ?_
  refine j_iconst (q := 301) (v := 1) dL_law_300 rfl (by decide) ?_
  refine j_iadd (q := 302) dL_law_301 rfl ?_
  refine j_arg (q := 303) (j := i + 1) dL_law_302 rfl (nI_add i 1) (by omega) hL ?_
  refine j_callV (q := 306) dL_law_303 rfl lL_34 mwX7_rule mvX7_rule cn7 h1 (by rfl) rfl (Nat.le_of_ble_eq_true (by rfl)) ⟨⟨Nat.le_of_ble_eq_true rfl, Nat.le_of_ble_eq_true rfl⟩, Nat.le_of_ble_eq_true rfl, Nat.le_of_ble_eq_true rfl⟩ hC2 ?_
  rintro v σ2 m2 hi2 ⟨rfl, rfl, rfl, q2⟩
  exact j_icmp_eq (q := 309) (tgt := 1544) dL_law_306 rfl (by decide) (fun _ => kk m2 q2) (fun hn => absurd rfl hn)
theorem lw_geyser {E : gEv} {nm : String} {F : gFT} {σ : gSg} {m : gMem} {hi x t i : Nat} (hN : gN σ x) (hR : gR σ t) (h : REL m x t) (ht : x + 94 ≤ t) (hi5 : i + 5 ≤ gSL E) (hL : gSL E ≤ 2560) (kk : ∀ m', REL m' x t → lwJ E nm F 1544 [] σ m' hi x t i) : lwJ E nm F 311 [] σ m hi x t i := by
  have h0 := hN.1
  have h1 := hR.1
  obtain ⟨P, hC, hP⟩ := pr_geyser E σ m hi x t (gXs E (i + 1)) (gXs E (i + 2)) hN hR h ht
  refine j_aload_n (q := 312) dL_law_311 rfl (by rfl) ?_
  refine j_aload_n (q := 313) dL_law_312 rfl (by rfl) ?_
  refine j_iload_n (q := 314) dL_law_313 rfl (by rfl) ?_
  refine j_iconst (q := 315) (v := 1) dL_law_314 rfl (by decide) ?_
  refine j_iadd (q := 316) dL_law_315 rfl ?_
  refine j_arg (q := 317) (j := i + 1) dL_law_316 rfl (nI_add i 1) (by omega) hL ?_
  refine j_aload_n (q := 318) dL_law_317 rfl (by rfl) ?_
  refine j_iload_n (q := 319) dL_law_318 rfl (by rfl) ?_
  refine j_iconst (q := 320) (v := 2) dL_law_319 rfl (by decide) ?_
  refine j_iadd (q := 321) dL_law_320 rfl ?_
  refine j_arg (q := 322) (j := i + 2) dL_law_321 rfl (nI_add i 2) (by omega) hL ?_
  refine j_callV (q := 325) dL_law_322 rfl lL_35 mwX6_geyser mvX6_geyser cn6 h0 (by rfl) rfl (Nat.le_of_ble_eq_true (by rfl)) ⟨⟨Nat.le_of_ble_eq_true rfl, Nat.le_of_ble_eq_true rfl⟩, Nat.le_of_ble_eq_true rfl, Nat.le_of_ble_eq_true rfl⟩ hC ?_
  rintro v σ1 m1 hi1 ⟨rfl, rfl, q1⟩
  obtain ⟨z, rfl, hC2⟩ := hP v m1 q1
  refine j_aload_n (q := 326) dL_law_325 rfl (by rfl) ?_
  refine j_aload_n (q := 327) dL_law_326 rfl (by rfl) ?_
  refine j_iload_n (q := 328) dL_law_327 rfl (by rfl) ?_
  refine j_iconst (q := 329) (v := 1) dL_law_328 rfl (by decide) ?_
  refine j_iadd (q := 330) dL_law_329 rfl ?_
  refine j_arg (q := 331) (j := i + 1) dL_law_330 rfl (nI_add i 1) (by omega) hL ?_
  refine j_aload_n (q := 332) dL_law_331 rfl (by rfl) ?_
  refine j_iload_n (q := 333) dL_law_332 rfl (by rfl) ?_
  refine j_iconst (q := 334) (v := 2) dL_law_333 rfl (by decide) ?_
  refine j_iadd (q := 335) dL_law_334 rfl ?_
  refine j_arg (q := 336) (j := i + 2) dL_law_335 rfl (nI_add i 2) (by omega) hL ?_
  refine j_callV (q := 339) dL_law_336 rfl lL_39 mwX7_geyser mvX7_geyser cn7 h1 (by rfl) rfl (Nat.le_of_ble_eq_true (by rfl)) ⟨⟨Nat.le_of_ble_eq_true rfl, Nat.le_of_ble_eq_true rfl⟩, Nat.le_of_ble_eq_true rfl, Nat.le_of_ble_eq_true rfl⟩ hC2 ?_
  rintro v σ2 m2 hi2 ⟨rfl, rfl, rfl, q2⟩
  exact j_icmp_eq (q := 342) (tgt := 1544) dL_law_339 rfl (by decide) (fun _ => kk m2 q2) (fun hn => absurd rfl hn)
theorem lw_row {E : gEv} {nm : String} {F : gFT} {σ : gSg} {m : gMem} {hi x t i : Nat} (hN : gN σ x) (hR : gR σ t) (h : REL m x t) (ht : x + 94 ≤ t) (hi5 : i + 5 ≤ gSL E) (hL : gSL E ≤ 2560) (kk : ∀ m', REL m' x t → lwJ E nm F 1544 [] σ m' hi x t i) : lwJ E nm F 344 [] σ m hi x t i := by
  have h0 := hN.1
  have h1 := hR.1
  obtain ⟨P, hC, hP⟩ := pr_row E σ m hi x t (gXs E (i + 1)) (gXs E (i + 2)) hN hR h ht
  refine j_aload_n (q := 345) dL_law_344 rfl (by rfl) ?_
  refine j_aload_n (q := 346) dL_law_345 rfl (by rfl) ?_
  refine j_iload_n (q := 347) dL_law_346 rfl (by rfl) ?_
  refine j_iconst (q := 348) (v := 1) dL_law_347 rfl (by decide) ?_
  refine j_iadd (q := 349) dL_law_348 rfl ?_
  refine j_arg (q := 350) (j := i + 1) dL_law_349 rfl (nI_add i 1) (by omega) hL ?_
  refine j_aload_n (q := 351) dL_law_350 rfl (by rfl) ?_
  refine j_iload_n (q := 352) dL_law_351 rfl (by rfl) ?_
  refine j_iconst (q := 353) (v := 2) dL_law_352 rfl (by decide) ?_
  refine j_iadd (q := 354) dL_law_353 rfl ?_
  refine j_arg (q := 355) (j := i + 2) dL_law_354 rfl (nI_add i 2) (by omega) hL ?_
  refine j_callV (q := 358) dL_law_355 rfl lL_40 mwX6_row mvX6_row cn6 h0 (by rfl) rfl (Nat.le_of_ble_eq_true (by rfl)) ⟨⟨Nat.le_of_ble_eq_true rfl, Nat.le_of_ble_eq_true rfl⟩, Nat.le_of_ble_eq_true rfl, Nat.le_of_ble_eq_true rfl⟩ hC ?_
  rintro v σ1 m1 hi1 ⟨rfl, rfl, q1⟩
  obtain ⟨z, rfl, hC2⟩ := hP v m1 q1
  refine j_aload_n (q := 359) dL_law_358 rfl (by rfl) ?_
  refine j_aload_n (q := 360) dL_law_359 rfl (by rfl) ?_
  refine j_iload_n (q := 361) dL_law_360 rfl (by rfl) ?_
  refine j_iconst (q := 362) (v := 1) dL_law_361 rfl (by decide) ?_
  refine j_iadd (q := 363) dL_law_362 rfl ?_
  refine j_arg (q := 364) (j := i + 1) dL_law_363 rfl (nI_add i 1) (by omega) hL ?_
  refine j_aload_n (q := 365) dL_law_364 rfl (by rfl) ?_
  refine j_iload_n (q := 366) dL_law_365 rfl (by rfl) ?_
  refine j_iconst (q := 367) (v := 2) dL_law_366 rfl (by decide) ?_
  refine j_iadd (q := 368) dL_law_367 rfl ?_
  refine j_arg (q := 369) (j := i + 2) dL_law_368 rfl (nI_add i 2) (by omega) hL ?_
  refine j_callV (q := 372) dL_law_369 rfl lL_43 mwX7_row mvX7_row cn7 h1 (by rfl) rfl (Nat.le_of_ble_eq_true (by rfl)) ⟨⟨Nat.le_of_ble_eq_true rfl, Nat.le_of_ble_eq_true rfl⟩, Nat.le_of_ble_eq_true rfl, Nat.le_of_ble_eq_true rfl⟩ hC2 ?_
  rintro v σ2 m2 hi2 ⟨rfl, rfl, rfl, q2⟩
  exact j_icmp_eq (q := 375) (tgt := 1544) dL_law_372 rfl (by decide) (fun _ => kk m2 q2) (fun hn => absurd rfl hn)
theorem lw_alter {E : gEv} {nm : String} {F : gFT} {σ : gSg} {m : gMem} {hi x t i : Nat} (hN : gN σ x) (hR : gR σ t) (h : REL m x t) (ht : x + 94 ≤ t) (hi5 : i + 5 ≤ gSL E) (hL : gSL E ≤ 2560) (kk : ∀ m', REL m' x t → lwJ E nm F 1544 [] σ m' hi x t i) : lwJ E nm F 377 [] σ m hi x t i := by
  have h0 := hN.1
  have h1 := hR.1
  obtain ⟨P, hC, hP⟩ := pr_alter E σ m hi x t (gXs E (i + 1)) (gXs E (i + 2)) (gXs E (i + 3)) hN hR h ht
  refine j_aload_n (q := 378) dL_law_377 rfl (by rfl) ?_
  refine j_aload_n (q := 379) dL_law_378 rfl (by rfl) ?_
  refine j_iload_n (q := 380) dL_law_379 rfl (by rfl) ?_
  refine j_iconst (q := 381) (v := 1) dL_law_380 rfl (by decide) ?_
  refine j_iadd (q := 382) dL_law_381 rfl ?_
  refine j_arg (q := 383) (j := i + 1) dL_law_382 rfl (nI_add i 1) (by omega) hL ?_
  refine j_aload_n (q := 384) dL_law_383 rfl (by rfl) ?_
  refine j_iload_n (q := 385) dL_law_384 rfl (by rfl) ?_
  refine j_iconst (q := 386) (v := 2) dL_law_385 rfl (by decide) ?_
  refine j_iadd (q := 387) dL_law_386 rfl ?_
  refine j_arg (q := 388) (j := i + 2) dL_law_387 rfl (nI_add i 2) (by omega) hL ?_
  refine j_aload_n (q := 389) dL_law_388 rfl (by rfl) ?_
  refine j_iload_n (q := 390) dL_law_389 rfl (by rfl) ?_
  refine j_iconst (q := 391) (v := 3) dL_law_390 rfl (by decide) ?_
  refine j_iadd (q := 392) dL_law_391 rfl ?_
  refine j_arg (q := 393) (j := i + 3) dL_law_392 rfl (nI_add i 3) (by omega) hL ?_
  refine j_callV (q := 396) dL_law_393 rfl lL_44 mwX6_alter mvX6_alter cn6 h0 (by rfl) rfl (Nat.le_of_ble_eq_true (by rfl)) ⟨⟨Nat.le_of_ble_eq_true rfl, Nat.le_of_ble_eq_true rfl⟩, Nat.le_of_ble_eq_true rfl, Nat.le_of_ble_eq_true rfl⟩ hC ?_
  rintro v σ1 m1 hi1 ⟨rfl, rfl, q1⟩
  obtain ⟨z, rfl, hC2⟩ := hP v m1 q1
  refine j_aload_n (q := 397) dL_law_396 rfl (by rfl) ?_
  refine j_aload_n (q := 398) dL_law_397 rfl (by rfl) ?_
  refine j_iload_n (q := 399) dL_law_398 rfl (by rfl) ?_
  refine j_iconst (q := 400) (v := 1) dL_law_399 rfl (by decide) ?_
  refine j_iadd (q := 401) dL_law_400 rfl ?_
  refine j_arg (q := 402) (j := i + 1) dL_law_401 rfl (nI_add i 1) (by omega) hL ?_
  refine j_aload_n (q := 403) dL_law_402 rfl (by rfl) ?_
  refine j_iload_n (q := 404) dL_law_403 rfl (by rfl) ?_
  refine j_iconst (q := 405) (v := 2) dL_law_404 rfl (by decide) ?_
  refine j_iadd (q := 406) dL_law_405 rfl ?_
  refine j_arg (q := 407) (j := i + 2) dL_law_406 rfl (nI_add i 2) (by omega) hL ?_
  refine j_aload_n (q := 408) dL_law_407 rfl (by rfl) ?_
  refine j_iload_n (q := 409) dL_law_408 rfl (by rfl) ?_
  refine j_iconst (q := 410) (v := 3) dL_law_409 rfl (by decide) ?_
  refine j_iadd (q := 411) dL_law_410 rfl ?_
  refine j_arg (q := 412) (j := i + 3) dL_law_411 rfl (nI_add i 3) (by omega) hL ?_
  refine j_callV (q := 415) dL_law_412 rfl lL_48 mwX7_alter mvX7_alter cn7 h1 (by rfl) rfl (Nat.le_of_ble_eq_true (by rfl)) ⟨⟨Nat.le_of_ble_eq_true rfl, Nat.le_of_ble_eq_true rfl⟩, Nat.le_of_ble_eq_true rfl, Nat.le_of_ble_eq_true rfl⟩ hC2 ?_
  rintro v σ2 m2 hi2 ⟨rfl, rfl, rfl, q2⟩
  exact j_icmp_eq (q := 418) (tgt := 1544) dL_law_415 rfl (by decide) (fun _ => kk m2 q2) (fun hn => absurd rfl hn)
theorem lw_tell {E : gEv} {nm : String} {F : gFT} {σ : gSg} {m : gMem} {hi x t i : Nat} (hN : gN σ x) (hR : gR σ t) (h : REL m x t) (ht : x + 94 ≤ t) (hi5 : i + 5 ≤ gSL E) (hL : gSL E ≤ 2560) (kk : ∀ m', REL m' x t → lwJ E nm F 1544 [] σ m' hi x t i) : lwJ E nm F 420 [] σ m hi x t i := by
  have h0 := hN.1
  have h1 := hR.1
  obtain ⟨P, hC, hP⟩ := pr_tell E σ m hi x t (gXs E (i + 1)) (gXs E (i + 2)) hN hR h ht
  refine j_aload_n (q := 421) dL_law_420 rfl (by rfl) ?_
  refine j_aload_n (q := 422) dL_law_421 rfl (by rfl) ?_
  refine j_iload_n (q := 423) dL_law_422 rfl (by rfl) ?_
  refine j_iconst (q := 424) (v := 1) dL_law_423 rfl (by decide) ?_
  refine j_iadd (q := 425) dL_law_424 rfl ?_
  refine j_arg (q := 426) (j := i + 1) dL_law_425 rfl (nI_add i 1) (by omega) hL ?_
  refine j_aload_n (q := 427) dL_law_426 rfl (by rfl) ?_
  refine j_iload_n (q := 428) dL_law_427 rfl (by rfl) ?_
  refine j_iconst (q := 429) (v := 2) dL_law_428 rfl (by decide) ?_
  refine j_iadd (q := 430) dL_law_429 rfl ?_
  refine j_arg (q := 431) (j := i + 2) dL_law_430 rfl (nI_add i 2) (by omega) hL ?_
  refine j_callV (q := 434) dL_law_431 rfl lL_49 mwX6_tell mvX6_tell cn6 h0 (by rfl) rfl (Nat.le_of_ble_eq_true (by rfl)) ⟨⟨Nat.le_of_ble_eq_true rfl, Nat.le_of_ble_eq_true rfl⟩, Nat.le_of_ble_eq_true rfl, Nat.le_of_ble_eq_true rfl⟩ hC ?_
  rintro v σ1 m1 hi1 ⟨rfl, rfl, q1⟩
  obtain ⟨z, rfl, hC2⟩ := hP v m1 q1
  refine j_aload_n (q := 435) dL_law_434 rfl (by rfl) ?_
  refine j_aload_n (q := 436) dL_law_435 rfl (by rfl) ?_
  refine j_iload_n (q := 437) dL_law_436 rfl (by rfl) ?_
  refine j_iconst (q := 438) (v := 1) dL_law_437 rfl (by decide) ?_
  refine j_iadd (q := 439) dL_law_438 rfl ?_
  refine j_arg (q := 440) (j := i + 1) dL_law_439 rfl (nI_add i 1) (by omega) hL ?_
  refine j_aload_n (q := 441) dL_law_440 rfl (by rfl) ?_
  refine j_iload_n (q := 442) dL_law_441 rfl (by rfl) ?_
  refine j_iconst (q := 443) (v := 2) dL_law_442 rfl (by decide) ?_
  refine j_iadd (q := 444) dL_law_443 rfl ?_
  refine j_arg (q := 445) (j := i + 2) dL_law_444 rfl (nI_add i 2) (by omega) hL ?_
  refine j_callV (q := 448) dL_law_445 rfl lL_52 mwX7_tell mvX7_tell cn7 h1 (by rfl) rfl (Nat.le_of_ble_eq_true (by rfl)) ⟨⟨Nat.le_of_ble_eq_true rfl, Nat.le_of_ble_eq_true rfl⟩, Nat.le_of_ble_eq_true rfl, Nat.le_of_ble_eq_true rfl⟩ hC2 ?_
  rintro v σ2 m2 hi2 ⟨rfl, rfl, rfl, q2⟩
  exact j_icmp_eq (q := 451) (tgt := 1544) dL_law_448 rfl (by decide) (fun _ => kk m2 q2) (fun hn => absurd rfl hn)
theorem lw_set {E : gEv} {nm : String} {F : gFT} {σ : gSg} {m : gMem} {hi x t i : Nat} (hN : gN σ x) (hR : gR σ t) (h : REL m x t) (ht : x + 94 ≤ t) (hi5 : i + 5 ≤ gSL E) (hL : gSL E ≤ 2560) (kk : ∀ m', REL m' x t → lwJ E nm F 1544 [] σ m' hi x t i) : lwJ E nm F 453 [] σ m hi x t i := by
  have h0 := hN.1
  have h1 := hR.1
  obtain ⟨P, hC, hP⟩ := pr_set E σ m hi x t (gXs E (i + 1)) (gXs E (i + 2)) (gXs E (i + 3)) hN hR h ht
  refine j_aload_n (q := 454) dL_law_453 rfl (by rfl) ?_
  refine j_aload_n (q := 455) dL_law_454 rfl (by rfl) ?_
  refine j_iload_n (q := 456) dL_law_455 rfl (by rfl) ?_
  refine j_iconst (q := 457) (v := 1) dL_law_456 rfl (by decide) ?_
  refine j_iadd (q := 458) dL_law_457 rfl ?_
  refine j_arg (q := 459) (j := i + 1) dL_law_458 rfl (nI_add i 1) (by omega) hL ?_
  refine j_aload_n (q := 460) dL_law_459 rfl (by rfl) ?_
  refine j_iload_n (q := 461) dL_law_460 rfl (by rfl) ?_
  refine j_iconst (q := 462) (v := 2) dL_law_461 rfl (by decide) ?_
  refine j_iadd (q := 463) dL_law_462 rfl ?_
  refine j_arg (q := 464) (j := i + 2) dL_law_463 rfl (nI_add i 2) (by omega) hL ?_
  refine j_aload_n (q := 465) dL_law_464 rfl (by rfl) ?_
  refine j_iload_n (q := 466) dL_law_465 rfl (by rfl) ?_
  refine j_iconst (q := 467) (v := 3) dL_law_466 rfl (by decide) ?_
  refine j_iadd (q := 468) dL_law_467 rfl ?_
  refine j_arg (q := 469) (j := i + 3) dL_law_468 rfl (nI_add i 3) (by omega) hL ?_
  refine j_callV (q := 472) dL_law_469 rfl lL_53 mwX6_set mvX6_set cn6 h0 (by rfl) rfl (Nat.le_of_ble_eq_true (by rfl)) ⟨⟨Nat.le_of_ble_eq_true rfl, Nat.le_of_ble_eq_true rfl⟩, Nat.le_of_ble_eq_true rfl, Nat.le_of_ble_eq_true rfl⟩ hC ?_
  rintro v σ1 m1 hi1 ⟨rfl, rfl, q1⟩
  obtain ⟨z, rfl, hC2⟩ := hP v m1 q1
  refine j_aload_n (q := 473) dL_law_472 rfl (by rfl) ?_
  refine j_aload_n (q := 474) dL_law_473 rfl (by rfl) ?_
  refine j_iload_n (q := 475) dL_law_474 rfl (by rfl) ?_
  refine j_iconst (q := 476) (v := 1) dL_law_475 rfl (by decide) ?_
  refine j_iadd (q := 477) dL_law_476 rfl ?_
  refine j_arg (q := 478) (j := i + 1) dL_law_477 rfl (nI_add i 1) (by omega) hL ?_
  refine j_aload_n (q := 479) dL_law_478 rfl (by rfl) ?_
  refine j_iload_n (q := 480) dL_law_479 rfl (by rfl) ?_
  refine j_iconst (q := 481) (v := 2) dL_law_480 rfl (by decide) ?_
  refine j_iadd (q := 482) dL_law_481 rfl ?_
  refine j_arg (q := 483) (j := i + 2) dL_law_482 rfl (nI_add i 2) (by omega) hL ?_
  refine j_aload_n (q := 484) dL_law_483 rfl (by rfl) ?_
  refine j_iload_n (q := 485) dL_law_484 rfl (by rfl) ?_
  refine j_iconst (q := 486) (v := 3) dL_law_485 rfl (by decide) ?_
  refine j_iadd (q := 487) dL_law_486 rfl ?_
  refine j_arg (q := 488) (j := i + 3) dL_law_487 rfl (nI_add i 3) (by omega) hL ?_
  refine j_callV (q := 491) dL_law_488 rfl lL_56 mwX7_set mvX7_set cn7 h1 (by rfl) rfl (Nat.le_of_ble_eq_true (by rfl)) ⟨⟨Nat.le_of_ble_eq_true rfl, Nat.le_of_ble_eq_true rfl⟩, Nat.le_of_ble_eq_true rfl, Nat.le_of_ble_eq_true rfl⟩ hC2 ?_
  rintro v σ2 m2 hi2 ⟨rfl, rfl, rfl, q2⟩
  exact j_icmp_eq (q := 494) (tgt := 1544) dL_law_491 rfl (by decide) (fun _ => kk m2 q2) (fun hn => absurd rfl hn)
theorem lw_open {E : gEv} {nm : String} {F : gFT} {σ : gSg} {m : gMem} {hi x t i : Nat} (hN : gN σ x) (hR : gR σ t) (h : REL m x t) (ht : x + 94 ≤ t) (hi5 : i + 5 ≤ gSL E) (hL : gSL E ≤ 2560) (kk : ∀ m', REL m' x t → lwJ E nm F 1544 [] σ m' hi x t i) : lwJ E nm F 496 [] σ m hi x t i := by
  have h0 := hN.1
  have h1 := hR.1
  obtain ⟨P, hC, hP⟩ := pr_open E σ m hi x t (gXs E (i + 1)) (gXs E (i + 2)) (gXs E (i + 3)) hN hR h ht
  refine j_aload_n (q := 497) dL_law_496 rfl (by rfl) ?_
  refine j_aload_n (q := 498) dL_law_497 rfl (by rfl) ?_
  refine j_iload_n (q := 499) dL_law_498 rfl (by rfl) ?_
  refine j_iconst (q := 500) (v := 1) dL_law_499 rfl (by decide) ?_
  refine j_iadd (q := 501) dL_law_500 rfl ?_
  refine j_arg (q := 502) (j := i + 1) dL_law_501 rfl (nI_add i 1) (by omega) hL ?_
  refine j_aload_n (q := 503) dL_law_502 rfl (by rfl) ?_
  refine j_iload_n (q := 504) dL_law_503 rfl (by rfl) ?_
  refine j_iconst (q := 505) (v := 2) dL_law_504 rfl (by decide) ?_
  refine j_iadd (q := 506) dL_law_505 rfl ?_
  refine j_arg (q := 507) (j := i + 2) dL_law_506 rfl (nI_add i 2) (by omega) hL ?_
  refine j_aload_n (q := 508) dL_law_507 rfl (by rfl) ?_
  refine j_iload_n (q := 509) dL_law_508 rfl (by rfl) ?_
  refine j_iconst (q := 510) (v := 3) dL_law_509 rfl (by decide) ?_
  refine j_iadd (q := 511) dL_law_510 rfl ?_
  refine j_arg (q := 512) (j := i + 3) dL_law_511 rfl (nI_add i 3) (by omega) hL ?_
  refine j_callV (q := 515) dL_law_512 rfl lL_57 mwX6_open mvX6_open cn6 h0 (by rfl) rfl (Nat.le_of_ble_eq_true (by rfl)) ⟨⟨Nat.le_of_ble_eq_true rfl, Nat.le_of_ble_eq_true rfl⟩, Nat.le_of_ble_eq_true rfl, Nat.le_of_ble_eq_true rfl⟩ hC ?_
  rintro v σ1 m1 hi1 ⟨rfl, rfl, q1⟩
  obtain ⟨z, rfl, hC2⟩ := hP v m1 q1
  refine j_aload_n (q := 516) dL_law_515 rfl (by rfl) ?_
  refine j_aload_n (q := 517) dL_law_516 rfl (by rfl) ?_
  refine j_iload_n (q := 518) dL_law_517 rfl (by rfl) ?_
  refine j_iconst (q := 519) (v := 1) dL_law_518 rfl (by decide) ?_
  refine j_iadd (q := 520) dL_law_519 rfl ?_
  refine j_arg (q := 521) (j := i + 1) dL_law_520 rfl (nI_add i 1) (by omega) hL ?_
  refine j_aload_n (q := 522) dL_law_521 rfl (by rfl) ?_
  refine j_iload_n (q := 523) dL_law_522 rfl (by rfl) ?_
  refine j_iconst (q := 524) (v := 2) dL_law_523 rfl (by decide) ?_
  refine j_iadd (q := 525) dL_law_524 rfl ?_
  refine j_arg (q := 526) (j := i + 2) dL_law_525 rfl (nI_add i 2) (by omega) hL ?_
  refine j_aload_n (q := 527) dL_law_526 rfl (by rfl) ?_
  refine j_iload_n (q := 528) dL_law_527 rfl (by rfl) ?_
  refine j_iconst (q := 529) (v := 3) dL_law_528 rfl (by decide) ?_
  refine j_iadd (q := 530) dL_law_529 rfl ?_
  refine j_arg (q := 531) (j := i + 3) dL_law_530 rfl (nI_add i 3) (by omega) hL ?_
  refine j_callV (q := 534) dL_law_531 rfl lL_60 mwX7_open mvX7_open cn7 h1 (by rfl) rfl (Nat.le_of_ble_eq_true (by rfl)) ⟨⟨Nat.le_of_ble_eq_true rfl, Nat.le_of_ble_eq_true rfl⟩, Nat.le_of_ble_eq_true rfl, Nat.le_of_ble_eq_true rfl⟩ hC2 ?_
  rintro v σ2 m2 hi2 ⟨rfl, rfl, rfl, q2⟩
  exact j_icmp_eq (q := 537) (tgt := 1544) dL_law_534 rfl (by decide) (fun _ => kk m2 q2) (fun hn => absurd rfl hn)
theorem lw_cut {E : gEv} {nm : String} {F : gFT} {σ : gSg} {m : gMem} {hi x t i : Nat} (hN : gN σ x) (hR : gR σ t) (h : REL m x t) (ht : x + 94 ≤ t) (hi5 : i + 5 ≤ gSL E) (hL : gSL E ≤ 2560) (kk : ∀ m', REL m' x t → lwJ E nm F 1544 [] σ m' hi x t i) : lwJ E nm F 539 [] σ m hi x t i := by
  have h0 := hN.1
  have h1 := hR.1
  obtain ⟨P, hC, hP⟩ := pr_cut E σ m hi x t (gXs E (i + 1)) hN hR h ht
  refine j_aload_n (q := 540) dL_law_539 rfl (by rfl) ?_
  refine j_aload_n (q := 541) dL_law_540 rfl (by rfl) ?_
  refine j_iload_n (q := 542) dL_law_541 rfl (by rfl) ?_
  refine j_iconst (q := 543) (v := 1) dL_law_542 rfl (by decide) ?_
  refine j_iadd (q := 544) dL_law_543 rfl ?_
  refine j_arg (q := 545) (j := i + 1) dL_law_544 rfl (nI_add i 1) (by omega) hL ?_
  refine j_callV (q := 548) dL_law_545 rfl lL_61 mwX6_cut mvX6_cut cn6 h0 (by rfl) rfl (Nat.le_of_ble_eq_true (by rfl)) ⟨⟨Nat.le_of_ble_eq_true rfl, Nat.le_of_ble_eq_true rfl⟩, Nat.le_of_ble_eq_true rfl, Nat.le_of_ble_eq_true rfl⟩ hC ?_
  rintro v σ1 m1 hi1 ⟨rfl, rfl, q1⟩
  obtain ⟨z, rfl, hC2⟩ := hP v m1 q1
  refine j_aload_n (q := 549) dL_law_548 rfl (by rfl) ?_
  refine j_aload_n (q := 550) dL_law_549 rfl (by rfl) ?_
  refine j_iload_n (q := 551) dL_law_550 rfl (by rfl) ?_
  refine j_iconst (q := 552) (v := 1) dL_law_551 rfl (by decide) ?_
  refine j_iadd (q := 553) dL_law_552 rfl ?_
  refine j_arg (q := 554) (j := i + 1) dL_law_553 rfl (nI_add i 1) (by omega) hL ?_
  refine j_callV (q := 557) dL_law_554 rfl lL_64 mwX7_cut mvX7_cut cn7 h1 (by rfl) rfl (Nat.le_of_ble_eq_true (by rfl)) ⟨⟨Nat.le_of_ble_eq_true rfl, Nat.le_of_ble_eq_true rfl⟩, Nat.le_of_ble_eq_true rfl, Nat.le_of_ble_eq_true rfl⟩ hC2 ?_
  rintro v σ2 m2 hi2 ⟨rfl, rfl, rfl, q2⟩
  exact j_icmp_eq (q := 560) (tgt := 1544) dL_law_557 rfl (by decide) (fun _ => kk m2 q2) (fun hn => absurd rfl hn)
theorem lw_add {E : gEv} {nm : String} {F : gFT} {σ : gSg} {m : gMem} {hi x t i : Nat} (hN : gN σ x) (hR : gR σ t) (h : REL m x t) (ht : x + 94 ≤ t) (hi5 : i + 5 ≤ gSL E) (hL : gSL E ≤ 2560) (kk : ∀ m', REL m' x t → lwJ E nm F 1544 [] σ m' hi x t i) : lwJ E nm F 562 [] σ m hi x t i := by
  have h0 := hN.1
  have h1 := hR.1
  obtain ⟨P, hC, hP⟩ := pr_add E σ m hi x t (gXs E (i + 1)) (gXs E (i + 2)) hN hR h ht
  refine j_aload_n (q := 563) dL_law_562 rfl (by rfl) ?_
  refine j_aload_n (q := 564) dL_law_563 rfl (by rfl) ?_
  refine j_iload_n (q := 565) dL_law_564 rfl (by rfl) ?_
  refine j_iconst (q := 566) (v := 1) dL_law_565 rfl (by decide) ?_
  refine j_iadd (q := 567) dL_law_566 rfl ?_
  refine j_arg (q := 568) (j := i + 1) dL_law_567 rfl (nI_add i 1) (by omega) hL ?_
  refine j_aload_n (q := 569) dL_law_568 rfl (by rfl) ?_
  refine j_iload_n (q := 570) dL_law_569 rfl (by rfl) ?_
  refine j_iconst (q := 571) (v := 2) dL_law_570 rfl (by decide) ?_
  refine j_iadd (q := 572) dL_law_571 rfl ?_
  refine j_arg (q := 573) (j := i + 2) dL_law_572 rfl (nI_add i 2) (by omega) hL ?_
  refine j_callV (q := 576) dL_law_573 rfl lL_65 mwX6_add mvX6_add cn6 h0 (by rfl) rfl (Nat.le_of_ble_eq_true (by rfl)) ⟨⟨Nat.le_of_ble_eq_true rfl, Nat.le_of_ble_eq_true rfl⟩, Nat.le_of_ble_eq_true rfl, Nat.le_of_ble_eq_true rfl⟩ hC ?_
  rintro v σ1 m1 hi1 ⟨rfl, rfl, q1⟩
  obtain ⟨z, rfl, hC2⟩ := hP v m1 q1
  refine j_aload_n (q := 577) dL_law_576 rfl (by rfl) ?_
  refine j_aload_n (q := 578) dL_law_577 rfl (by rfl) ?_
  refine j_iload_n (q := 579) dL_law_578 rfl (by rfl) ?_
  refine j_iconst (q := 580) (v := 1) dL_law_579 rfl (by decide) ?_
  refine j_iadd (q := 581) dL_law_580 rfl ?_
  refine j_arg (q := 582) (j := i + 1) dL_law_581 rfl (nI_add i 1) (by omega) hL ?_
  refine j_aload_n (q := 583) dL_law_582 rfl (by rfl) ?_
  refine j_iload_n (q := 584) dL_law_583 rfl (by rfl) ?_
  refine j_iconst (q := 585) (v := 2) dL_law_584 rfl (by decide) ?_
  refine j_iadd (q := 586) dL_law_585 rfl ?_
  refine j_arg (q := 587) (j := i + 2) dL_law_586 rfl (nI_add i 2) (by omega) hL ?_
  refine j_callV (q := 590) dL_law_587 rfl lL_68 mwX7_add mvX7_add cn7 h1 (by rfl) rfl (Nat.le_of_ble_eq_true (by rfl)) ⟨⟨Nat.le_of_ble_eq_true rfl, Nat.le_of_ble_eq_true rfl⟩, Nat.le_of_ble_eq_true rfl, Nat.le_of_ble_eq_true rfl⟩ hC2 ?_
  rintro v σ2 m2 hi2 ⟨rfl, rfl, rfl, q2⟩
  exact j_icmp_eq (q := 593) (tgt := 1544) dL_law_590 rfl (by decide) (fun _ => kk m2 q2) (fun hn => absurd rfl hn)
theorem lw_drop {E : gEv} {nm : String} {F : gFT} {σ : gSg} {m : gMem} {hi x t i : Nat} (hN : gN σ x) (hR : gR σ t) (h : REL m x t) (ht : x + 94 ≤ t) (hi5 : i + 5 ≤ gSL E) (hL : gSL E ≤ 2560) (kk : ∀ m', REL m' x t → lwJ E nm F 1544 [] σ m' hi x t i) : lwJ E nm F 595 [] σ m hi x t i := by
  have h0 := hN.1
  have h1 := hR.1
  obtain ⟨P, hC, hP⟩ := pr_drop E σ m hi x t (gXs E (i + 1)) hN hR h ht
  refine j_aload_n (q := 596) dL_law_595 rfl (by rfl) ?_
  refine j_aload_n (q := 597) dL_law_596 rfl (by rfl) ?_
  refine j_iload_n (q := 598) dL_law_597 rfl (by rfl) ?_
  refine j_iconst (q := 599) (v := 1) dL_law_598 rfl (by decide) ?_
  refine j_iadd (q := 600) dL_law_599 rfl ?_
  refine j_arg (q := 601) (j := i + 1) dL_law_600 rfl (nI_add i 1) (by omega) hL ?_
  refine j_callV (q := 604) dL_law_601 rfl lL_69 mwX6_drop mvX6_drop cn6 h0 (by rfl) rfl (Nat.le_of_ble_eq_true (by rfl)) ⟨⟨Nat.le_of_ble_eq_true rfl, Nat.le_of_ble_eq_true rfl⟩, Nat.le_of_ble_eq_true rfl, Nat.le_of_ble_eq_true rfl⟩ hC ?_
  rintro v σ1 m1 hi1 ⟨rfl, rfl, q1⟩
  obtain ⟨z, rfl, hC2⟩ := hP v m1 q1
  refine j_aload_n (q := 605) dL_law_604 rfl (by rfl) ?_
  refine j_aload_n (q := 606) dL_law_605 rfl (by rfl) ?_
  refine j_iload_n (q := 607) dL_law_606 rfl (by rfl) ?_
  refine j_iconst (q := 608) (v := 1) dL_law_607 rfl (by decide) ?_
  refine j_iadd (q := 609) dL_law_608 rfl ?_
  refine j_arg (q := 610) (j := i + 1) dL_law_609 rfl (nI_add i 1) (by omega) hL ?_
  refine j_callV (q := 613) dL_law_610 rfl lL_72 mwX7_drop mvX7_drop cn7 h1 (by rfl) rfl (Nat.le_of_ble_eq_true (by rfl)) ⟨⟨Nat.le_of_ble_eq_true rfl, Nat.le_of_ble_eq_true rfl⟩, Nat.le_of_ble_eq_true rfl, Nat.le_of_ble_eq_true rfl⟩ hC2 ?_
  rintro v σ2 m2 hi2 ⟨rfl, rfl, rfl, q2⟩
  exact j_icmp_eq (q := 616) (tgt := 1544) dL_law_613 rfl (by decide) (fun _ => kk m2 q2) (fun hn => absurd rfl hn)
theorem lw_hours {E : gEv} {nm : String} {F : gFT} {σ : gSg} {m : gMem} {hi x t i : Nat} (hN : gN σ x) (hR : gR σ t) (h : REL m x t) (ht : x + 94 ≤ t) (hi5 : i + 5 ≤ gSL E) (hL : gSL E ≤ 2560) (kk : ∀ m', REL m' x t → lwJ E nm F 1544 [] σ m' hi x t i) : lwJ E nm F 618 [] σ m hi x t i := by
  have h0 := hN.1
  have h1 := hR.1
  obtain ⟨P, hC, hP⟩ := pr_hours E σ m hi x t (gXs E (i + 1)) hN hR h ht
  refine j_aload_n (q := 619) dL_law_618 rfl (by rfl) ?_
  refine j_aload_n (q := 620) dL_law_619 rfl (by rfl) ?_
  refine j_iload_n (q := 621) dL_law_620 rfl (by rfl) ?_
  refine j_iconst (q := 622) (v := 1) dL_law_621 rfl (by decide) ?_
  refine j_iadd (q := 623) dL_law_622 rfl ?_
  refine j_arg (q := 624) (j := i + 1) dL_law_623 rfl (nI_add i 1) (by omega) hL ?_
  refine j_callV (q := 627) dL_law_624 rfl lL_73 mwX6_hours mvX6_hours cn6 h0 (by rfl) rfl (Nat.le_of_ble_eq_true (by rfl)) ⟨⟨Nat.le_of_ble_eq_true rfl, Nat.le_of_ble_eq_true rfl⟩, Nat.le_of_ble_eq_true rfl, Nat.le_of_ble_eq_true rfl⟩ hC ?_
  rintro v σ1 m1 hi1 ⟨rfl, rfl, q1⟩
  obtain ⟨z, rfl, hC2⟩ := hP v m1 q1
  refine j_aload_n (q := 628) dL_law_627 rfl (by rfl) ?_
  refine j_aload_n (q := 629) dL_law_628 rfl (by rfl) ?_
  refine j_iload_n (q := 630) dL_law_629 rfl (by rfl) ?_
  refine j_iconst (q := 631) (v := 1) dL_law_630 rfl (by decide) ?_
  refine j_iadd (q := 632) dL_law_631 rfl ?_
  refine j_arg (q := 633) (j := i + 1) dL_law_632 rfl (nI_add i 1) (by omega) hL ?_
  refine j_callV (q := 636) dL_law_633 rfl lL_76 mwX7_hours mvX7_hours cn7 h1 (by rfl) rfl (Nat.le_of_ble_eq_true (by rfl)) ⟨⟨Nat.le_of_ble_eq_true rfl, Nat.le_of_ble_eq_true rfl⟩, Nat.le_of_ble_eq_true rfl, Nat.le_of_ble_eq_true rfl⟩ hC2 ?_
  rintro v σ2 m2 hi2 ⟨rfl, rfl, rfl, q2⟩
  exact j_icmp_eq (q := 639) (tgt := 1544) dL_law_636 rfl (by decide) (fun _ => kk m2 q2) (fun hn => absurd rfl hn)
theorem lw_runs {E : gEv} {nm : String} {F : gFT} {σ : gSg} {m : gMem} {hi x t i : Nat} (hN : gN σ x) (hR : gR σ t) (h : REL m x t) (ht : x + 94 ≤ t) (hi5 : i + 5 ≤ gSL E) (hL : gSL E ≤ 2560) (kk : ∀ m', REL m' x t → lwJ E nm F 1544 [] σ m' hi x t i) : lwJ E nm F 641 [] σ m hi x t i := by
  have h0 := hN.1
  have h1 := hR.1
  obtain ⟨P, hC, hP⟩ := pr_runs E σ m hi x t (gXs E (i + 1)) (gXs E (i + 2)) hN hR h ht
  refine j_aload_n (q := 642) dL_law_641 rfl (by rfl) ?_
  refine j_aload_n (q := 643) dL_law_642 rfl (by rfl) ?_
  refine j_iload_n (q := 644) dL_law_643 rfl (by rfl) ?_
  refine j_iconst (q := 645) (v := 1) dL_law_644 rfl (by decide) ?_
  refine j_iadd (q := 646) dL_law_645 rfl ?_
  refine j_arg (q := 647) (j := i + 1) dL_law_646 rfl (nI_add i 1) (by omega) hL ?_
  refine j_aload_n (q := 648) dL_law_647 rfl (by rfl) ?_
  refine j_iload_n (q := 649) dL_law_648 rfl (by rfl) ?_
  refine j_iconst (q := 650) (v := 2) dL_law_649 rfl (by decide) ?_
  refine j_iadd (q := 651) dL_law_650 rfl ?_
  refine j_arg (q := 652) (j := i + 2) dL_law_651 rfl (nI_add i 2) (by omega) hL ?_
  refine j_callV (q := 655) dL_law_652 rfl lL_77 mwX6_runs mvX6_runs cn6 h0 (by rfl) rfl (Nat.le_of_ble_eq_true (by rfl)) ⟨⟨Nat.le_of_ble_eq_true rfl, Nat.le_of_ble_eq_true rfl⟩, Nat.le_of_ble_eq_true rfl, Nat.le_of_ble_eq_true rfl⟩ hC ?_
  rintro v σ1 m1 hi1 ⟨rfl, rfl, q1⟩
  obtain ⟨z, rfl, hC2⟩ := hP v m1 q1
  refine j_aload_n (q := 656) dL_law_655 rfl (by rfl) ?_
  refine j_aload_n (q := 657) dL_law_656 rfl (by rfl) ?_
  refine j_iload_n (q := 658) dL_law_657 rfl (by rfl) ?_
  refine j_iconst (q := 659) (v := 1) dL_law_658 rfl (by decide) ?_
  refine j_iadd (q := 660) dL_law_659 rfl ?_
  refine j_arg (q := 661) (j := i + 1) dL_law_660 rfl (nI_add i 1) (by omega) hL ?_
  refine j_aload_n (q := 662) dL_law_661 rfl (by rfl) ?_
  refine j_iload_n (q := 663) dL_law_662 rfl (by rfl) ?_
  refine j_iconst (q := 664) (v := 2) dL_law_663 rfl (by decide) ?_
  refine j_iadd (q := 665) dL_law_664 rfl ?_
  refine j_arg (q := 666) (j := i + 2) dL_law_665 rfl (nI_add i 2) (by omega) hL ?_
  refine j_callV (q := 669) dL_law_666 rfl lL_80 mwX7_runs mvX7_runs cn7 h1 (by rfl) rfl (Nat.le_of_ble_eq_true (by rfl)) ⟨⟨Nat.le_of_ble_eq_true rfl, Nat.le_of_ble_eq_true rfl⟩, Nat.le_of_ble_eq_true rfl, Nat.le_of_ble_eq_true rfl⟩ hC2 ?_
  rintro v σ2 m2 hi2 ⟨rfl, rfl, rfl, q2⟩
  exact j_icmp_eq (q := 672) (tgt := 1544) dL_law_669 rfl (by decide) (fun _ => kk m2 q2) (fun hn => absurd rfl hn)
theorem lw_ahead {E : gEv} {nm : String} {F : gFT} {σ : gSg} {m : gMem} {hi x t i : Nat} (hN : gN σ x) (hR : gR σ t) (h : REL m x t) (ht : x + 94 ≤ t) (hi5 : i + 5 ≤ gSL E) (hL : gSL E ≤ 2560) (kk : ∀ m', REL m' x t → lwJ E nm F 1544 [] σ m' hi x t i) : lwJ E nm F 674 [] σ m hi x t i := by
  have h0 := hN.1
  have h1 := hR.1
  obtain ⟨P, hC, hP⟩ := pr_ahead E σ m hi x t (gXs E (i + 1)) (gXs E (i + 2)) (gXs E (i + 3)) hN hR h ht
  refine j_aload_n (q := 675) dL_law_674 rfl (by rfl) ?_
  refine j_aload_n (q := 676) dL_law_675 rfl (by rfl) ?_
  refine j_iload_n (q := 677) dL_law_676 rfl (by rfl) ?_
  refine j_iconst (q := 678) (v := 1) dL_law_677 rfl (by decide) ?_
  refine j_iadd (q := 679) dL_law_678 rfl ?_
  refine j_arg (q := 680) (j := i + 1) dL_law_679 rfl (nI_add i 1) (by omega) hL ?_
  refine j_aload_n (q := 681) dL_law_680 rfl (by rfl) ?_
  refine j_iload_n (q := 682) dL_law_681 rfl (by rfl) ?_
  refine j_iconst (q := 683) (v := 2) dL_law_682 rfl (by decide) ?_
  refine j_iadd (q := 684) dL_law_683 rfl ?_
  refine j_arg (q := 685) (j := i + 2) dL_law_684 rfl (nI_add i 2) (by omega) hL ?_
  refine j_aload_n (q := 686) dL_law_685 rfl (by rfl) ?_
  refine j_iload_n (q := 687) dL_law_686 rfl (by rfl) ?_
  refine j_iconst (q := 688) (v := 3) dL_law_687 rfl (by decide) ?_
  refine j_iadd (q := 689) dL_law_688 rfl ?_
  refine j_arg (q := 690) (j := i + 3) dL_law_689 rfl (nI_add i 3) (by omega) hL ?_
  refine j_callV (q := 693) dL_law_690 rfl lL_81 mwX6_ahead mvX6_ahead cn6 h0 (by rfl) rfl (Nat.le_of_ble_eq_true (by rfl)) ⟨⟨Nat.le_of_ble_eq_true rfl, Nat.le_of_ble_eq_true rfl⟩, Nat.le_of_ble_eq_true rfl, Nat.le_of_ble_eq_true rfl⟩ hC ?_
  rintro v σ1 m1 hi1 ⟨rfl, rfl, q1⟩
  obtain ⟨z, rfl, hC2⟩ := hP v m1 q1
  refine j_aload_n (q := 694) dL_law_693 rfl (by rfl) ?_
  refine j_aload_n (q := 695) dL_law_694 rfl (by rfl) ?_
  refine j_iload_n (q := 696) dL_law_695 rfl (by rfl) ?_
  refine j_iconst (q := 697) (v := 1) dL_law_696 rfl (by decide) ?_
  refine j_iadd (q := 698) dL_law_697 rfl ?_
  refine j_arg (q := 699) (j := i + 1) dL_law_698 rfl (nI_add i 1) (by omega) hL ?_
  refine j_aload_n (q := 700) dL_law_699 rfl (by rfl) ?_
  refine j_iload_n (q := 701) dL_law_700 rfl (by rfl) ?_
  refine j_iconst (q := 702) (v := 2) dL_law_701 rfl (by decide) ?_
  refine j_iadd (q := 703) dL_law_702 rfl ?_
  refine j_arg (q := 704) (j := i + 2) dL_law_703 rfl (nI_add i 2) (by omega) hL ?_
  refine j_aload_n (q := 705) dL_law_704 rfl (by rfl) ?_
  refine j_iload_n (q := 706) dL_law_705 rfl (by rfl) ?_
  refine j_iconst (q := 707) (v := 3) dL_law_706 rfl (by decide) ?_
  refine j_iadd (q := 708) dL_law_707 rfl ?_
  refine j_arg (q := 709) (j := i + 3) dL_law_708 rfl (nI_add i 3) (by omega) hL ?_
  refine j_callV (q := 712) dL_law_709 rfl lL_84 mwX7_ahead mvX7_ahead cn7 h1 (by rfl) rfl (Nat.le_of_ble_eq_true (by rfl)) ⟨⟨Nat.le_of_ble_eq_true rfl, Nat.le_of_ble_eq_true rfl⟩, Nat.le_of_ble_eq_true rfl, Nat.le_of_ble_eq_true rfl⟩ hC2 ?_
  rintro v σ2 m2 hi2 ⟨rfl, rfl, rfl, q2⟩
  exact j_icmp_eq (q := 715) (tgt := 1544) dL_law_712 rfl (by decide) (fun _ => kk m2 q2) (fun hn => absurd rfl hn)
theorem lw_ups {E : gEv} {nm : String} {F : gFT} {σ : gSg} {m : gMem} {hi x t i : Nat} (hN : gN σ x) (hR : gR σ t) (h : REL m x t) (ht : x + 94 ≤ t) (hi5 : i + 5 ≤ gSL E) (hL : gSL E ≤ 2560) (kk : ∀ m', REL m' x t → lwJ E nm F 1544 [] σ m' hi x t i) : lwJ E nm F 717 [] σ m hi x t i := by
  have h0 := hN.1
  have h1 := hR.1
  obtain ⟨P, hC, hP⟩ := pr_ups E σ m hi x t (gXs E (i + 1)) hN hR h ht
  refine j_aload_n (q := 718) dL_law_717 rfl (by rfl) ?_
  refine j_aload_n (q := 719) dL_law_718 rfl (by rfl) ?_
  refine j_iload_n (q := 720) dL_law_719 rfl (by rfl) ?_
  refine j_iconst (q := 721) (v := 1) dL_law_720 rfl (by decide) ?_
  refine j_iadd (q := 722) dL_law_721 rfl ?_
  refine j_arg (q := 723) (j := i + 1) dL_law_722 rfl (nI_add i 1) (by omega) hL ?_
  refine j_callV (q := 726) dL_law_723 rfl lL_85 mwX6_ups mvX6_ups cn6 h0 (by rfl) rfl (Nat.le_of_ble_eq_true (by rfl)) ⟨⟨Nat.le_of_ble_eq_true rfl, Nat.le_of_ble_eq_true rfl⟩, Nat.le_of_ble_eq_true rfl, Nat.le_of_ble_eq_true rfl⟩ hC ?_
  rintro v σ1 m1 hi1 ⟨rfl, rfl, q1⟩
  obtain ⟨z, rfl, hC2⟩ := hP v m1 q1
  refine j_aload_n (q := 727) dL_law_726 rfl (by rfl) ?_
  refine j_aload_n (q := 728) dL_law_727 rfl (by rfl) ?_
  refine j_iload_n (q := 729) dL_law_728 rfl (by rfl) ?_
  refine j_iconst (q := 730) (v := 1) dL_law_729 rfl (by decide) ?_
  refine j_iadd (q := 731) dL_law_730 rfl ?_
  refine j_arg (q := 732) (j := i + 1) dL_law_731 rfl (nI_add i 1) (by omega) hL ?_
  refine j_callV (q := 735) dL_law_732 rfl lL_88 mwX7_ups mvX7_ups cn7 h1 (by rfl) rfl (Nat.le_of_ble_eq_true (by rfl)) ⟨⟨Nat.le_of_ble_eq_true rfl, Nat.le_of_ble_eq_true rfl⟩, Nat.le_of_ble_eq_true rfl, Nat.le_of_ble_eq_true rfl⟩ hC2 ?_
  rintro v σ2 m2 hi2 ⟨rfl, rfl, rfl, q2⟩
  exact j_icmp_eq (q := 738) (tgt := 1544) dL_law_735 rfl (by decide) (fun _ => kk m2 q2) (fun hn => absurd rfl hn)
theorem lw_when {E : gEv} {nm : String} {F : gFT} {σ : gSg} {m : gMem} {hi x t i : Nat} (hN : gN σ x) (hR : gR σ t) (h : REL m x t) (ht : x + 94 ≤ t) (hi5 : i + 5 ≤ gSL E) (hL : gSL E ≤ 2560) (kk : ∀ m', REL m' x t → lwJ E nm F 1544 [] σ m' hi x t i) : lwJ E nm F 740 [] σ m hi x t i := by
  have h0 := hN.1
  have h1 := hR.1
  obtain ⟨P, hC, hP⟩ := pr_when E σ m hi x t (gXs E (i + 1)) hN hR h ht
  refine j_aload_n (q := 741) dL_law_740 rfl (by rfl) ?_
  refine j_aload_n (q := 742) dL_law_741 rfl (by rfl) ?_
  refine j_iload_n (q := 743) dL_law_742 rfl (by rfl) ?_
  refine j_iconst (q := 744) (v := 1) dL_law_743 rfl (by decide) ?_
  refine j_iadd (q := 745) dL_law_744 rfl ?_
  refine j_arg (q := 746) (j := i + 1) dL_law_745 rfl (nI_add i 1) (by omega) hL ?_
  refine j_callV (q := 749) dL_law_746 rfl lL_89 mwX6_when mvX6_when cn6 h0 (by rfl) rfl (Nat.le_of_ble_eq_true (by rfl)) ⟨⟨Nat.le_of_ble_eq_true rfl, Nat.le_of_ble_eq_true rfl⟩, Nat.le_of_ble_eq_true rfl, Nat.le_of_ble_eq_true rfl⟩ hC ?_
  rintro v σ1 m1 hi1 ⟨rfl, rfl, q1⟩
  obtain ⟨z, rfl, hC2⟩ := hP v m1 q1
  refine j_aload_n (q := 750) dL_law_749 rfl (by rfl) ?_
  refine j_aload_n (q := 751) dL_law_750 rfl (by rfl) ?_
  refine j_iload_n (q := 752) dL_law_751 rfl (by rfl) ?_
  refine j_iconst (q := 753) (v := 1) dL_law_752 rfl (by decide) ?_
  refine j_iadd (q := 754) dL_law_753 rfl ?_
  refine j_arg (q := 755) (j := i + 1) dL_law_754 rfl (nI_add i 1) (by omega) hL ?_
  refine j_callV (q := 758) dL_law_755 rfl lL_92 mwX7_when mvX7_when cn7 h1 (by rfl) rfl (Nat.le_of_ble_eq_true (by rfl)) ⟨⟨Nat.le_of_ble_eq_true rfl, Nat.le_of_ble_eq_true rfl⟩, Nat.le_of_ble_eq_true rfl, Nat.le_of_ble_eq_true rfl⟩ hC2 ?_
  rintro v σ2 m2 hi2 ⟨rfl, rfl, rfl, q2⟩
  exact j_icmp_eq (q := 761) (tgt := 1544) dL_law_758 rfl (by decide) (fun _ => kk m2 q2) (fun hn => absurd rfl hn)
theorem lw_again {E : gEv} {nm : String} {F : gFT} {σ : gSg} {m : gMem} {hi x t i : Nat} (hN : gN σ x) (hR : gR σ t) (h : REL m x t) (ht : x + 94 ≤ t) (hi5 : i + 5 ≤ gSL E) (hL : gSL E ≤ 2560) (kk : ∀ m', REL m' x t → lwJ E nm F 1544 [] σ m' hi x t i) : lwJ E nm F 763 [] σ m hi x t i := by
  have h0 := hN.1
  have h1 := hR.1
  obtain ⟨P, hC, hP⟩ := pr_again E σ m hi x t  hN hR h ht
  refine j_aload_n (q := 764) dL_law_763 rfl (by rfl) ?_
  refine j_callV (q := 767) dL_law_764 rfl lL_93 mwX6_again mvX6_again cn6 h0 (by rfl) rfl (Nat.le_of_ble_eq_true (by rfl)) ⟨⟨Nat.le_of_ble_eq_true rfl, Nat.le_of_ble_eq_true rfl⟩, Nat.le_of_ble_eq_true rfl, Nat.le_of_ble_eq_true rfl⟩ hC ?_
  rintro v σ1 m1 hi1 ⟨rfl, rfl, q1⟩
  obtain ⟨z, rfl, hC2⟩ := hP v m1 q1
  refine j_aload_n (q := 768) dL_law_767 rfl (by rfl) ?_
  refine j_callV (q := 771) dL_law_768 rfl lL_96 mwX7_again mvX7_again cn7 h1 (by rfl) rfl (Nat.le_of_ble_eq_true (by rfl)) ⟨⟨Nat.le_of_ble_eq_true rfl, Nat.le_of_ble_eq_true rfl⟩, Nat.le_of_ble_eq_true rfl, Nat.le_of_ble_eq_true rfl⟩ hC2 ?_
  rintro v σ2 m2 hi2 ⟨rfl, rfl, rfl, q2⟩
  exact j_icmp_eq (q := 774) (tgt := 1544) dL_law_771 rfl (by decide) (fun _ => kk m2 q2) (fun hn => absurd rfl hn)
theorem lw_whom {E : gEv} {nm : String} {F : gFT} {σ : gSg} {m : gMem} {hi x t i : Nat} (hN : gN σ x) (hR : gR σ t) (h : REL m x t) (ht : x + 94 ≤ t) (hi5 : i + 5 ≤ gSL E) (hL : gSL E ≤ 2560) (kk : ∀ m', REL m' x t → lwJ E nm F 1544 [] σ m' hi x t i) : lwJ E nm F 776 [] σ m hi x t i := by
  have h0 := hN.1
  have h1 := hR.1
  obtain ⟨P, hC, hP⟩ := pr_whom E σ m hi x t (gXs E (i + 1)) (gXs E (i + 2)) (gXs E (i + 3)) hN hR h ht
  refine j_aload_n (q := 777) dL_law_776 rfl (by rfl) ?_
  refine j_aload_n (q := 778) dL_law_777 rfl (by rfl) ?_
  refine j_iload_n (q := 779) dL_law_778 rfl (by rfl) ?_
  refine j_iconst (q := 780) (v := 1) dL_law_779 rfl (by decide) ?_
  refine j_iadd (q := 781) dL_law_780 rfl ?_
  refine j_arg (q := 782) (j := i + 1) dL_law_781 rfl (nI_add i 1) (by omega) hL ?_
  refine j_aload_n (q := 783) dL_law_782 rfl (by rfl) ?_
  refine j_iload_n (q := 784) dL_law_783 rfl (by rfl) ?_
  refine j_iconst (q := 785) (v := 2) dL_law_784 rfl (by decide) ?_
  refine j_iadd (q := 786) dL_law_785 rfl ?_
  refine j_arg (q := 787) (j := i + 2) dL_law_786 rfl (nI_add i 2) (by omega) hL ?_
  refine j_aload_n (q := 788) dL_law_787 rfl (by rfl) ?_
  refine j_iload_n (q := 789) dL_law_788 rfl (by rfl) ?_
  refine j_iconst (q := 790) (v := 3) dL_law_789 rfl (by decide) ?_
  refine j_iadd (q := 791) dL_law_790 rfl ?_
  refine j_arg (q := 792) (j := i + 3) dL_law_791 rfl (nI_add i 3) (by omega) hL ?_
  refine j_callV (q := 795) dL_law_792 rfl lL_97 mwX6_whom mvX6_whom cn6 h0 (by rfl) rfl (Nat.le_of_ble_eq_true (by rfl)) ⟨⟨Nat.le_of_ble_eq_true rfl, Nat.le_of_ble_eq_true rfl⟩, Nat.le_of_ble_eq_true rfl, Nat.le_of_ble_eq_true rfl⟩ hC ?_
  rintro v σ1 m1 hi1 ⟨rfl, rfl, q1⟩
  obtain ⟨z, rfl, hC2⟩ := hP v m1 q1
  refine j_aload_n (q := 796) dL_law_795 rfl (by rfl) ?_
  refine j_aload_n (q := 797) dL_law_796 rfl (by rfl) ?_
  refine j_iload_n (q := 798) dL_law_797 rfl (by rfl) ?_
  refine j_iconst (q := 799) (v := 1) dL_law_798 rfl (by decide) ?_
  refine j_iadd (q := 800) dL_law_799 rfl ?_
  refine j_arg (q := 801) (j := i + 1) dL_law_800 rfl (nI_add i 1) (by omega) hL ?_
  refine j_aload_n (q := 802) dL_law_801 rfl (by rfl) ?_
  refine j_iload_n (q := 803) dL_law_802 rfl (by rfl) ?_
  refine j_iconst (q := 804) (v := 2) dL_law_803 rfl (by decide) ?_
  refine j_iadd (q := 805) dL_law_804 rfl ?_
  refine j_arg (q := 806) (j := i + 2) dL_law_805 rfl (nI_add i 2) (by omega) hL ?_
  refine j_aload_n (q := 807) dL_law_806 rfl (by rfl) ?_
  refine j_iload_n (q := 808) dL_law_807 rfl (by rfl) ?_
  refine j_iconst (q := 809) (v := 3) dL_law_808 rfl (by decide) ?_
  refine j_iadd (q := 810) dL_law_809 rfl ?_
  refine j_arg (q := 811) (j := i + 3) dL_law_810 rfl (nI_add i 3) (by omega) hL ?_
  refine j_callV (q := 814) dL_law_811 rfl lL_100 mwX7_whom mvX7_whom cn7 h1 (by rfl) rfl (Nat.le_of_ble_eq_true (by rfl)) ⟨⟨Nat.le_of_ble_eq_true rfl, Nat.le_of_ble_eq_true rfl⟩, Nat.le_of_ble_eq_true rfl, Nat.le_of_ble_eq_true rfl⟩ hC2 ?_
  rintro v σ2 m2 hi2 ⟨rfl, rfl, rfl, q2⟩
  exact j_icmp_eq (q := 817) (tgt := 1544) dL_law_814 rfl (by decide) (fun _ => kk m2 q2) (fun hn => absurd rfl hn)
theorem lw_route {E : gEv} {nm : String} {F : gFT} {σ : gSg} {m : gMem} {hi x t i : Nat} (hN : gN σ x) (hR : gR σ t) (h : REL m x t) (ht : x + 94 ≤ t) (hi5 : i + 5 ≤ gSL E) (hL : gSL E ≤ 2560) (kk : ∀ m', REL m' x t → lwJ E nm F 1544 [] σ m' hi x t i) : lwJ E nm F 819 [] σ m hi x t i := by
  have h0 := hN.1
  have h1 := hR.1
  obtain ⟨P, hC, hP⟩ := pr_route E σ m hi x t (gXs E (i + 1)) (gXs E (i + 2)) hN hR h ht
  refine j_aload_n (q := 820) dL_law_819 rfl (by rfl) ?_
  refine j_aload_n (q := 821) dL_law_820 rfl (by rfl) ?_
  refine j_iload_n (q := 822) dL_law_821 rfl (by rfl) ?_
  refine j_iconst (q := 823) (v := 1) dL_law_822 rfl (by decide) ?_
  refine j_iadd (q := 824) dL_law_823 rfl ?_
  refine j_arg (q := 825) (j := i + 1) dL_law_824 rfl (nI_add i 1) (by omega) hL ?_
  refine j_aload_n (q := 826) dL_law_825 rfl (by rfl) ?_
  refine j_iload_n (q := 827) dL_law_826 rfl (by rfl) ?_
  refine j_iconst (q := 828) (v := 2) dL_law_827 rfl (by decide) ?_
  refine j_iadd (q := 829) dL_law_828 rfl ?_
  refine j_arg (q := 830) (j := i + 2) dL_law_829 rfl (nI_add i 2) (by omega) hL ?_
  refine j_callV (q := 833) dL_law_830 rfl lL_101 mwX6_route mvX6_route cn6 h0 (by rfl) rfl (Nat.le_of_ble_eq_true (by rfl)) ⟨⟨Nat.le_of_ble_eq_true rfl, Nat.le_of_ble_eq_true rfl⟩, Nat.le_of_ble_eq_true rfl, Nat.le_of_ble_eq_true rfl⟩ hC ?_
  rintro v σ1 m1 hi1 ⟨rfl, rfl, q1⟩
  obtain ⟨z, rfl, hC2⟩ := hP v m1 q1
  refine j_aload_n (q := 834) dL_law_833 rfl (by rfl) ?_
  refine j_aload_n (q := 835) dL_law_834 rfl (by rfl) ?_
  refine j_iload_n (q := 836) dL_law_835 rfl (by rfl) ?_
  refine j_iconst (q := 837) (v := 1) dL_law_836 rfl (by decide) ?_
  refine j_iadd (q := 838) dL_law_837 rfl ?_
  refine j_arg (q := 839) (j := i + 1) dL_law_838 rfl (nI_add i 1) (by omega) hL ?_
  refine j_aload_n (q := 840) dL_law_839 rfl (by rfl) ?_
  refine j_iload_n (q := 841) dL_law_840 rfl (by rfl) ?_
  refine j_iconst (q := 842) (v := 2) dL_law_841 rfl (by decide) ?_
  refine j_iadd (q := 843) dL_law_842 rfl ?_
  refine j_arg (q := 844) (j := i + 2) dL_law_843 rfl (nI_add i 2) (by omega) hL ?_
  refine j_callV (q := 847) dL_law_844 rfl lL_104 mwX7_route mvX7_route cn7 h1 (by rfl) rfl (Nat.le_of_ble_eq_true (by rfl)) ⟨⟨Nat.le_of_ble_eq_true rfl, Nat.le_of_ble_eq_true rfl⟩, Nat.le_of_ble_eq_true rfl, Nat.le_of_ble_eq_true rfl⟩ hC2 ?_
  rintro v σ2 m2 hi2 ⟨rfl, rfl, rfl, q2⟩
  exact j_icmp_eq (q := 850) (tgt := 1544) dL_law_847 rfl (by decide) (fun _ => kk m2 q2) (fun hn => absurd rfl hn)
theorem lw_swap {E : gEv} {nm : String} {F : gFT} {σ : gSg} {m : gMem} {hi x t i : Nat} (hN : gN σ x) (hR : gR σ t) (h : REL m x t) (ht : x + 94 ≤ t) (hi5 : i + 5 ≤ gSL E) (hL : gSL E ≤ 2560) (kk : ∀ m', REL m' x t → lwJ E nm F 1544 [] σ m' hi x t i) : lwJ E nm F 852 [] σ m hi x t i := by
  have h0 := hN.1
  have h1 := hR.1
  obtain ⟨P, hC, hP⟩ := pr_swap E σ m hi x t (gXs E (i + 1)) (gXs E (i + 2)) hN hR h ht
  refine j_aload_n (q := 853) dL_law_852 rfl (by rfl) ?_
  refine j_aload_n (q := 854) dL_law_853 rfl (by rfl) ?_
  refine j_iload_n (q := 855) dL_law_854 rfl (by rfl) ?_
  refine j_iconst (q := 856) (v := 1) dL_law_855 rfl (by decide) ?_
  refine j_iadd (q := 857) dL_law_856 rfl ?_
  refine j_arg (q := 858) (j := i + 1) dL_law_857 rfl (nI_add i 1) (by omega) hL ?_
  refine j_aload_n (q := 859) dL_law_858 rfl (by rfl) ?_
  refine j_iload_n (q := 860) dL_law_859 rfl (by rfl) ?_
  refine j_iconst (q := 861) (v := 2) dL_law_860 rfl (by decide) ?_
  refine j_iadd (q := 862) dL_law_861 rfl ?_
  refine j_arg (q := 863) (j := i + 2) dL_law_862 rfl (nI_add i 2) (by omega) hL ?_
  refine j_callV (q := 866) dL_law_863 rfl lL_105 mwX6_swap mvX6_swap cn6 h0 (by rfl) rfl (Nat.le_of_ble_eq_true (by rfl)) ⟨⟨Nat.le_of_ble_eq_true rfl, Nat.le_of_ble_eq_true rfl⟩, Nat.le_of_ble_eq_true rfl, Nat.le_of_ble_eq_true rfl⟩ hC ?_
  rintro v σ1 m1 hi1 ⟨rfl, rfl, q1⟩
  obtain ⟨z, rfl, hC2⟩ := hP v m1 q1
  refine j_aload_n (q := 867) dL_law_866 rfl (by rfl) ?_
  refine j_aload_n (q := 868) dL_law_867 rfl (by rfl) ?_
  refine j_iload_n (q := 869) dL_law_868 rfl (by rfl) ?_
  refine j_iconst (q := 870) (v := 1) dL_law_869 rfl (by decide) ?_
  refine j_iadd (q := 871) dL_law_870 rfl ?_
  refine j_arg (q := 872) (j := i + 1) dL_law_871 rfl (nI_add i 1) (by omega) hL ?_
  refine j_aload_n (q := 873) dL_law_872 rfl (by rfl) ?_
  refine j_iload_n (q := 874) dL_law_873 rfl (by rfl) ?_
  refine j_iconst (q := 875) (v := 2) dL_law_874 rfl (by decide) ?_
  refine j_iadd (q := 876) dL_law_875 rfl ?_
  refine j_arg (q := 877) (j := i + 2) dL_law_876 rfl (nI_add i 2) (by omega) hL ?_
  refine j_callV (q := 880) dL_law_877 rfl lL_108 mwX7_swap mvX7_swap cn7 h1 (by rfl) rfl (Nat.le_of_ble_eq_true (by rfl)) ⟨⟨Nat.le_of_ble_eq_true rfl, Nat.le_of_ble_eq_true rfl⟩, Nat.le_of_ble_eq_true rfl, Nat.le_of_ble_eq_true rfl⟩ hC2 ?_
  rintro v σ2 m2 hi2 ⟨rfl, rfl, rfl, q2⟩
  exact j_icmp_eq (q := 883) (tgt := 1544) dL_law_880 rfl (by decide) (fun _ => kk m2 q2) (fun hn => absurd rfl hn)
theorem lw_bears {E : gEv} {nm : String} {F : gFT} {σ : gSg} {m : gMem} {hi x t i : Nat} (hN : gN σ x) (hR : gR σ t) (h : REL m x t) (ht : x + 94 ≤ t) (hi5 : i + 5 ≤ gSL E) (hL : gSL E ≤ 2560) (kk : ∀ m', REL m' x t → lwJ E nm F 1544 [] σ m' hi x t i) : lwJ E nm F 885 [] σ m hi x t i := by
  have h0 := hN.1
  have h1 := hR.1
  obtain ⟨P, hC, hP⟩ := pr_bears E σ m hi x t (gXs E (i + 1)) (gXs E (i + 2)) hN hR h ht
  refine j_aload_n (q := 886) dL_law_885 rfl (by rfl) ?_
  refine j_aload_n (q := 887) dL_law_886 rfl (by rfl) ?_
  refine j_iload_n (q := 888) dL_law_887 rfl (by rfl) ?_
  refine j_iconst (q := 889) (v := 1) dL_law_888 rfl (by decide) ?_
  refine j_iadd (q := 890) dL_law_889 rfl ?_
  refine j_arg (q := 891) (j := i + 1) dL_law_890 rfl (nI_add i 1) (by omega) hL ?_
  refine j_aload_n (q := 892) dL_law_891 rfl (by rfl) ?_
  refine j_iload_n (q := 893) dL_law_892 rfl (by rfl) ?_
  refine j_iconst (q := 894) (v := 2) dL_law_893 rfl (by decide) ?_
  refine j_iadd (q := 895) dL_law_894 rfl ?_
  refine j_arg (q := 896) (j := i + 2) dL_law_895 rfl (nI_add i 2) (by omega) hL ?_
  refine j_callV (q := 899) dL_law_896 rfl lL_109 mwX6_bears mvX6_bears cn6 h0 (by rfl) rfl (Nat.le_of_ble_eq_true (by rfl)) ⟨⟨Nat.le_of_ble_eq_true rfl, Nat.le_of_ble_eq_true rfl⟩, Nat.le_of_ble_eq_true rfl, Nat.le_of_ble_eq_true rfl⟩ hC ?_
  rintro v σ1 m1 hi1 ⟨rfl, rfl, q1⟩
  obtain ⟨z, rfl, hC2⟩ := hP v m1 q1
  refine j_aload_n (q := 900) dL_law_899 rfl (by rfl) ?_
  refine j_aload_n (q := 901) dL_law_900 rfl (by rfl) ?_
  refine j_iload_n (q := 902) dL_law_901 rfl (by rfl) ?_
  refine j_iconst (q := 903) (v := 1) dL_law_902 rfl (by decide) ?_
  refine j_iadd (q := 904) dL_law_903 rfl ?_
  refine j_arg (q := 905) (j := i + 1) dL_law_904 rfl (nI_add i 1) (by omega) hL ?_
  refine j_aload_n (q := 906) dL_law_905 rfl (by rfl) ?_
  refine j_iload_n (q := 907) dL_law_906 rfl (by rfl) ?_
  refine j_iconst (q := 908) (v := 2) dL_law_907 rfl (by decide) ?_
  refine j_iadd (q := 909) dL_law_908 rfl ?_
  refine j_arg (q := 910) (j := i + 2) dL_law_909 rfl (nI_add i 2) (by omega) hL ?_
  refine j_callV (q := 913) dL_law_910 rfl lL_112 mwX7_bears mvX7_bears cn7 h1 (by rfl) rfl (Nat.le_of_ble_eq_true (by rfl)) ⟨⟨Nat.le_of_ble_eq_true rfl, Nat.le_of_ble_eq_true rfl⟩, Nat.le_of_ble_eq_true rfl, Nat.le_of_ble_eq_true rfl⟩ hC2 ?_
  rintro v σ2 m2 hi2 ⟨rfl, rfl, rfl, q2⟩
  exact j_icmp_eq (q := 916) (tgt := 1544) dL_law_913 rfl (by decide) (fun _ => kk m2 q2) (fun hn => absurd rfl hn)
theorem lw_flow {E : gEv} {nm : String} {F : gFT} {σ : gSg} {m : gMem} {hi x t i : Nat} (hN : gN σ x) (hR : gR σ t) (h : REL m x t) (ht : x + 94 ≤ t) (hi5 : i + 5 ≤ gSL E) (hL : gSL E ≤ 2560) (kk : ∀ m', REL m' x t → lwJ E nm F 1544 [] σ m' hi x t i) : lwJ E nm F 918 [] σ m hi x t i := by
  have h0 := hN.1
  have h1 := hR.1
  obtain ⟨P, hC, hP⟩ := pr_flow E σ m hi x t (gXs E (i + 1)) (gXs E (i + 2)) (gXs E (i + 3)) hN hR h ht
  refine j_aload_n (q := 919) dL_law_918 rfl (by rfl) ?_
  refine j_aload_n (q := 920) dL_law_919 rfl (by rfl) ?_
  refine j_iload_n (q := 921) dL_law_920 rfl (by rfl) ?_
  refine j_iconst (q := 922) (v := 1) dL_law_921 rfl (by decide) ?_
  refine j_iadd (q := 923) dL_law_922 rfl ?_
  refine j_arg (q := 924) (j := i + 1) dL_law_923 rfl (nI_add i 1) (by omega) hL ?_
  refine j_aload_n (q := 925) dL_law_924 rfl (by rfl) ?_
  refine j_iload_n (q := 926) dL_law_925 rfl (by rfl) ?_
  refine j_iconst (q := 927) (v := 2) dL_law_926 rfl (by decide) ?_
  refine j_iadd (q := 928) dL_law_927 rfl ?_
  refine j_arg (q := 929) (j := i + 2) dL_law_928 rfl (nI_add i 2) (by omega) hL ?_
  refine j_aload_n (q := 930) dL_law_929 rfl (by rfl) ?_
  refine j_iload_n (q := 931) dL_law_930 rfl (by rfl) ?_
  refine j_iconst (q := 932) (v := 3) dL_law_931 rfl (by decide) ?_
  refine j_iadd (q := 933) dL_law_932 rfl ?_
  refine j_arg (q := 934) (j := i + 3) dL_law_933 rfl (nI_add i 3) (by omega) hL ?_
  refine j_callV (q := 937) dL_law_934 rfl lL_113 mwX6_flow mvX6_flow cn6 h0 (by rfl) rfl (Nat.le_of_ble_eq_true (by rfl)) ⟨⟨Nat.le_of_ble_eq_true rfl, Nat.le_of_ble_eq_true rfl⟩, Nat.le_of_ble_eq_true rfl, Nat.le_of_ble_eq_true rfl⟩ hC ?_
  rintro v σ1 m1 hi1 ⟨rfl, rfl, q1⟩
  obtain ⟨z, rfl, hC2⟩ := hP v m1 q1
  refine j_aload_n (q := 938) dL_law_937 rfl (by rfl) ?_
  refine j_aload_n (q := 939) dL_law_938 rfl (by rfl) ?_
  refine j_iload_n (q := 940) dL_law_939 rfl (by rfl) ?_
  refine j_iconst (q := 941) (v := 1) dL_law_940 rfl (by decide) ?_
  refine j_iadd (q := 942) dL_law_941 rfl ?_
  refine j_arg (q := 943) (j := i + 1) dL_law_942 rfl (nI_add i 1) (by omega) hL ?_
  refine j_aload_n (q := 944) dL_law_943 rfl (by rfl) ?_
  refine j_iload_n (q := 945) dL_law_944 rfl (by rfl) ?_
  refine j_iconst (q := 946) (v := 2) dL_law_945 rfl (by decide) ?_
  refine j_iadd (q := 947) dL_law_946 rfl ?_
  refine j_arg (q := 948) (j := i + 2) dL_law_947 rfl (nI_add i 2) (by omega) hL ?_
  refine j_aload_n (q := 949) dL_law_948 rfl (by rfl) ?_
  refine j_iload_n (q := 950) dL_law_949 rfl (by rfl) ?_
  refine j_iconst (q := 951) (v := 3) dL_law_950 rfl (by decide) ?_
  refine j_iadd (q := 952) dL_law_951 rfl ?_
  refine j_arg (q := 953) (j := i + 3) dL_law_952 rfl (nI_add i 3) (by omega) hL ?_
  refine j_callV (q := 956) dL_law_953 rfl lL_116 mwX7_flow mvX7_flow cn7 h1 (by rfl) rfl (Nat.le_of_ble_eq_true (by rfl)) ⟨⟨Nat.le_of_ble_eq_true rfl, Nat.le_of_ble_eq_true rfl⟩, Nat.le_of_ble_eq_true rfl, Nat.le_of_ble_eq_true rfl⟩ hC2 ?_
  rintro v σ2 m2 hi2 ⟨rfl, rfl, rfl, q2⟩
  exact j_icmp_eq (q := 959) (tgt := 1544) dL_law_956 rfl (by decide) (fun _ => kk m2 q2) (fun hn => absurd rfl hn)
theorem lw_kind {E : gEv} {nm : String} {F : gFT} {σ : gSg} {m : gMem} {hi x t i : Nat} (hN : gN σ x) (hR : gR σ t) (h : REL m x t) (ht : x + 94 ≤ t) (hi5 : i + 5 ≤ gSL E) (hL : gSL E ≤ 2560) (kk : ∀ m', REL m' x t → lwJ E nm F 1544 [] σ m' hi x t i) : lwJ E nm F 961 [] σ m hi x t i := by
  have h0 := hN.1
  have h1 := hR.1
  obtain ⟨P, hC, hP⟩ := pr_kind E σ m hi x t (gXs E (i + 1)) (gXs E (i + 2)) (gXs E (i + 3)) hN hR h ht
  refine j_aload_n (q := 962) dL_law_961 rfl (by rfl) ?_
  refine j_aload_n (q := 963) dL_law_962 rfl (by rfl) ?_
  refine j_iload_n (q := 964) dL_law_963 rfl (by rfl) ?_
  refine j_iconst (q := 965) (v := 1) dL_law_964 rfl (by decide) ?_
  refine j_iadd (q := 966) dL_law_965 rfl ?_
  refine j_arg (q := 967) (j := i + 1) dL_law_966 rfl (nI_add i 1) (by omega) hL ?_
  refine j_aload_n (q := 968) dL_law_967 rfl (by rfl) ?_
  refine j_iload_n (q := 969) dL_law_968 rfl (by rfl) ?_
  refine j_iconst (q := 970) (v := 2) dL_law_969 rfl (by decide) ?_
  refine j_iadd (q := 971) dL_law_970 rfl ?_
  refine j_arg (q := 972) (j := i + 2) dL_law_971 rfl (nI_add i 2) (by omega) hL ?_
  refine j_aload_n (q := 973) dL_law_972 rfl (by rfl) ?_
  refine j_iload_n (q := 974) dL_law_973 rfl (by rfl) ?_
  refine j_iconst (q := 975) (v := 3) dL_law_974 rfl (by decide) ?_
  refine j_iadd (q := 976) dL_law_975 rfl ?_
  refine j_arg (q := 977) (j := i + 3) dL_law_976 rfl (nI_add i 3) (by omega) hL ?_
  refine j_callV (q := 980) dL_law_977 rfl lL_117 mwX6_kind mvX6_kind cn6 h0 (by rfl) rfl (Nat.le_of_ble_eq_true (by rfl)) ⟨⟨Nat.le_of_ble_eq_true rfl, Nat.le_of_ble_eq_true rfl⟩, Nat.le_of_ble_eq_true rfl, Nat.le_of_ble_eq_true rfl⟩ hC ?_
  rintro v σ1 m1 hi1 ⟨rfl, rfl, q1⟩
  obtain ⟨z, rfl, hC2⟩ := hP v m1 q1
  refine j_aload_n (q := 981) dL_law_980 rfl (by rfl) ?_
  refine j_aload_n (q := 982) dL_law_981 rfl (by rfl) ?_
  refine j_iload_n (q := 983) dL_law_982 rfl (by rfl) ?_
  refine j_iconst (q := 984) (v := 1) dL_law_983 rfl (by decide) ?_
  refine j_iadd (q := 985) dL_law_984 rfl ?_
  refine j_arg (q := 986) (j := i + 1) dL_law_985 rfl (nI_add i 1) (by omega) hL ?_
  refine j_aload_n (q := 987) dL_law_986 rfl (by rfl) ?_
  refine j_iload_n (q := 988) dL_law_987 rfl (by rfl) ?_
  refine j_iconst (q := 989) (v := 2) dL_law_988 rfl (by decide) ?_
  refine j_iadd (q := 990) dL_law_989 rfl ?_
  refine j_arg (q := 991) (j := i + 2) dL_law_990 rfl (nI_add i 2) (by omega) hL ?_
  refine j_aload_n (q := 992) dL_law_991 rfl (by rfl) ?_
  refine j_iload_n (q := 993) dL_law_992 rfl (by rfl) ?_
  refine j_iconst (q := 994) (v := 3) dL_law_993 rfl (by decide) ?_
  refine j_iadd (q := 995) dL_law_994 rfl ?_
  refine j_arg (q := 996) (j := i + 3) dL_law_995 rfl (nI_add i 3) (by omega) hL ?_
  refine j_callV (q := 999) dL_law_996 rfl lL_120 mwX7_kind mvX7_kind cn7 h1 (by rfl) rfl (Nat.le_of_ble_eq_true (by rfl)) ⟨⟨Nat.le_of_ble_eq_true rfl, Nat.le_of_ble_eq_true rfl⟩, Nat.le_of_ble_eq_true rfl, Nat.le_of_ble_eq_true rfl⟩ hC2 ?_
  rintro v σ2 m2 hi2 ⟨rfl, rfl, rfl, q2⟩
  exact j_icmp_eq (q := 1002) (tgt := 1544) dL_law_999 rfl (by decide) (fun _ => kk m2 q2) (fun hn => absurd rfl hn)
theorem lw_play {E : gEv} {nm : String} {F : gFT} {σ : gSg} {m : gMem} {hi x t i : Nat} (hN : gN σ x) (hR : gR σ t) (h : REL m x t) (ht : x + 94 ≤ t) (hi5 : i + 5 ≤ gSL E) (hL : gSL E ≤ 2560) (kk : ∀ m', REL m' x t → lwJ E nm F 1544 [] σ m' hi x t i) : lwJ E nm F 1004 [] σ m hi x t i := by
  have h0 := hN.1
  have h1 := hR.1
  obtain ⟨P, hC, hP⟩ := pr_play E σ m hi x t (gXs E (i + 1)) (gXs E (i + 2)) hN hR h ht
  refine j_aload_n (q := 1005) dL_law_1004 rfl (by rfl) ?_
  refine j_aload_n (q := 1006) dL_law_1005 rfl (by rfl) ?_
  refine j_iload_n (q := 1007) dL_law_1006 rfl (by rfl) ?_
  refine j_iconst (q := 1008) (v := 1) dL_law_1007 rfl (by decide) ?_
  refine j_iadd (q := 1009) dL_law_1008 rfl ?_
  refine j_arg (q := 1010) (j := i + 1) dL_law_1009 rfl (nI_add i 1) (by omega) hL ?_
  refine j_aload_n (q := 1011) dL_law_1010 rfl (by rfl) ?_
  refine j_iload_n (q := 1012) dL_law_1011 rfl (by rfl) ?_
  refine j_iconst (q := 1013) (v := 2) dL_law_1012 rfl (by decide) ?_
  refine j_iadd (q := 1014) dL_law_1013 rfl ?_
  refine j_arg (q := 1015) (j := i + 2) dL_law_1014 rfl (nI_add i 2) (by omega) hL ?_
  refine j_callV (q := 1018) dL_law_1015 rfl lL_121 mwX6_play mvX6_play cn6 h0 (by rfl) rfl (Nat.le_of_ble_eq_true (by rfl)) ⟨⟨Nat.le_of_ble_eq_true rfl, Nat.le_of_ble_eq_true rfl⟩, Nat.le_of_ble_eq_true rfl, Nat.le_of_ble_eq_true rfl⟩ hC ?_
  rintro v σ1 m1 hi1 ⟨rfl, rfl, q1⟩
  obtain ⟨z, rfl, hC2⟩ := hP v m1 q1
  refine j_aload_n (q := 1019) dL_law_1018 rfl (by rfl) ?_
  refine j_aload_n (q := 1020) dL_law_1019 rfl (by rfl) ?_
  refine j_iload_n (q := 1021) dL_law_1020 rfl (by rfl) ?_
  refine j_iconst (q := 1022) (v := 1) dL_law_1021 rfl (by decide) ?_
  refine j_iadd (q := 1023) dL_law_1022 rfl ?_
  refine j_arg (q := 1024) (j := i + 1) dL_law_1023 rfl (nI_add i 1) (by omega) hL ?_
  refine j_aload_n (q := 1025) dL_law_1024 rfl (by rfl) ?_
  refine j_iload_n (q := 1026) dL_law_1025 rfl (by rfl) ?_
  refine j_iconst (q := 1027) (v := 2) dL_law_1026 rfl (by decide) ?_
  refine j_iadd (q := 1028) dL_law_1027 rfl ?_
  refine j_arg (q := 1029) (j := i + 2) dL_law_1028 rfl (nI_add i 2) (by omega) hL ?_
  refine j_callV (q := 1032) dL_law_1029 rfl lL_124 mwX7_play mvX7_play cn7 h1 (by rfl) rfl (Nat.le_of_ble_eq_true (by rfl)) ⟨⟨Nat.le_of_ble_eq_true rfl, Nat.le_of_ble_eq_true rfl⟩, Nat.le_of_ble_eq_true rfl, Nat.le_of_ble_eq_true rfl⟩ hC2 ?_
  rintro v σ2 m2 hi2 ⟨rfl, rfl, rfl, q2⟩
  exact j_icmp_eq (q := 1035) (tgt := 1544) dL_law_1032 rfl (by decide) (fun _ => kk m2 q2) (fun hn => absurd rfl hn)
theorem lw_luck {E : gEv} {nm : String} {F : gFT} {σ : gSg} {m : gMem} {hi x t i : Nat} (hN : gN σ x) (hR : gR σ t) (h : REL m x t) (ht : x + 94 ≤ t) (hi5 : i + 5 ≤ gSL E) (hL : gSL E ≤ 2560) (kk : ∀ m', REL m' x t → lwJ E nm F 1544 [] σ m' hi x t i) : lwJ E nm F 1037 [] σ m hi x t i := by
  have h0 := hN.1
  have h1 := hR.1
  obtain ⟨P, hC, hP⟩ := pr_luck E σ m hi x t (gXs E (i + 1)) (gXs E (i + 2)) (gXs E (i + 3)) (gXs E (i + 4)) hN hR h ht
  refine j_aload_n (q := 1038) dL_law_1037 rfl (by rfl) ?_
  refine j_aload_n (q := 1039) dL_law_1038 rfl (by rfl) ?_
  refine j_iload_n (q := 1040) dL_law_1039 rfl (by rfl) ?_
  refine j_iconst (q := 1041) (v := 1) dL_law_1040 rfl (by decide) ?_
  refine j_iadd (q := 1042) dL_law_1041 rfl ?_
  refine j_arg (q := 1043) (j := i + 1) dL_law_1042 rfl (nI_add i 1) (by omega) hL ?_
  refine j_aload_n (q := 1044) dL_law_1043 rfl (by rfl) ?_
  refine j_iload_n (q := 1045) dL_law_1044 rfl (by rfl) ?_
  refine j_iconst (q := 1046) (v := 2) dL_law_1045 rfl (by decide) ?_
  refine j_iadd (q := 1047) dL_law_1046 rfl ?_
  refine j_arg (q := 1048) (j := i + 2) dL_law_1047 rfl (nI_add i 2) (by omega) hL ?_
  refine j_aload_n (q := 1049) dL_law_1048 rfl (by rfl) ?_
  refine j_iload_n (q := 1050) dL_law_1049 rfl (by rfl) ?_
  refine j_iconst (q := 1051) (v := 3) dL_law_1050 rfl (by decide) ?_
  refine j_iadd (q := 1052) dL_law_1051 rfl ?_
  refine j_arg (q := 1053) (j := i + 3) dL_law_1052 rfl (nI_add i 3) (by omega) hL ?_
  refine j_aload_n (q := 1054) dL_law_1053 rfl (by rfl) ?_
  refine j_iload_n (q := 1055) dL_law_1054 rfl (by rfl) ?_
  refine j_iconst (q := 1056) (v := 4) dL_law_1055 rfl (by decide) ?_
  refine j_iadd (q := 1057) dL_law_1056 rfl ?_
  refine j_arg (q := 1058) (j := i + 4) dL_law_1057 rfl (nI_add i 4) (by omega) hL ?_
  refine j_callV (q := 1061) dL_law_1058 rfl lL_125 mwX6_luck mvX6_luck cn6 h0 (by rfl) rfl (Nat.le_of_ble_eq_true (by rfl)) ⟨⟨Nat.le_of_ble_eq_true rfl, Nat.le_of_ble_eq_true rfl⟩, Nat.le_of_ble_eq_true rfl, Nat.le_of_ble_eq_true rfl⟩ hC ?_
  rintro v σ1 m1 hi1 ⟨rfl, rfl, q1⟩
  obtain ⟨z, rfl, hC2⟩ := hP v m1 q1
  refine j_aload_n (q := 1062) dL_law_1061 rfl (by rfl) ?_
  refine j_aload_n (q := 1063) dL_law_1062 rfl (by rfl) ?_
  refine j_iload_n (q := 1064) dL_law_1063 rfl (by rfl) ?_
  refine j_iconst (q := 1065) (v := 1) dL_law_1064 rfl (by decide) ?_
  refine j_iadd (q := 1066) dL_law_1065 rfl ?_
  refine j_arg (q := 1067) (j := i + 1) dL_law_1066 rfl (nI_add i 1) (by omega) hL ?_
  refine j_aload_n (q := 1068) dL_law_1067 rfl (by rfl) ?_
  refine j_iload_n (q := 1069) dL_law_1068 rfl (by rfl) ?_
  refine j_iconst (q := 1070) (v := 2) dL_law_1069 rfl (by decide) ?_
  refine j_iadd (q := 1071) dL_law_1070 rfl ?_
  refine j_arg (q := 1072) (j := i + 2) dL_law_1071 rfl (nI_add i 2) (by omega) hL ?_
  refine j_aload_n (q := 1073) dL_law_1072 rfl (by rfl) ?_
  refine j_iload_n (q := 1074) dL_law_1073 rfl (by rfl) ?_
  refine j_iconst (q := 1075) (v := 3) dL_law_1074 rfl (by decide) ?_
  refine j_iadd (q := 1076) dL_law_1075 rfl ?_
  refine j_arg (q := 1077) (j := i + 3) dL_law_1076 rfl (nI_add i 3) (by omega) hL ?_
  refine j_aload_n (q := 1078) dL_law_1077 rfl (by rfl) ?_
  refine j_iload_n (q := 1079) dL_law_1078 rfl (by rfl) ?_
  refine j_iconst (q := 1080) (v := 4) dL_law_1079 rfl (by decide) ?_
  refine j_iadd (q := 1081) dL_law_1080 rfl ?_
  refine j_arg (q := 1082) (j := i + 4) dL_law_1081 rfl (nI_add i 4) (by omega) hL ?_
  refine j_callV (q := 1085) dL_law_1082 rfl lL_129 mwX7_luck mvX7_luck cn7 h1 (by rfl) rfl (Nat.le_of_ble_eq_true (by rfl)) ⟨⟨Nat.le_of_ble_eq_true rfl, Nat.le_of_ble_eq_true rfl⟩, Nat.le_of_ble_eq_true rfl, Nat.le_of_ble_eq_true rfl⟩ hC2 ?_
  rintro v σ2 m2 hi2 ⟨rfl, rfl, rfl, q2⟩
  refine j_lcmp (q := 1086) dL_law_1085 rfl ?_
  exact j_if_eq (q := 1089) (tgt := 1544) dL_law_1086 rfl (by decide) (fun _ => kk m2 q2) (fun hn => absurd (lgc_0 z) hn)
theorem lw_mean {E : gEv} {nm : String} {F : gFT} {σ : gSg} {m : gMem} {hi x t i : Nat} (hN : gN σ x) (hR : gR σ t) (h : REL m x t) (ht : x + 94 ≤ t) (hi5 : i + 5 ≤ gSL E) (hL : gSL E ≤ 2560) (kk : ∀ m', REL m' x t → lwJ E nm F 1544 [] σ m' hi x t i) : lwJ E nm F 1091 [] σ m hi x t i := by
  have h0 := hN.1
  have h1 := hR.1
  obtain ⟨P, hC, hP⟩ := pr_mean E σ m hi x t (gXs E (i + 1)) (gXs E (i + 2)) (gXs E (i + 3)) hN hR h ht
  refine j_aload_n (q := 1092) dL_law_1091 rfl (by rfl) ?_
  refine j_aload_n (q := 1093) dL_law_1092 rfl (by rfl) ?_
  refine j_iload_n (q := 1094) dL_law_1093 rfl (by rfl) ?_
  refine j_iconst (q := 1095) (v := 1) dL_law_1094 rfl (by decide) ?_
  refine j_iadd (q := 1096) dL_law_1095 rfl ?_
  refine j_arg (q := 1097) (j := i + 1) dL_law_1096 rfl (nI_add i 1) (by omega) hL ?_
  refine j_aload_n (q := 1098) dL_law_1097 rfl (by rfl) ?_
  refine j_iload_n (q := 1099) dL_law_1098 rfl (by rfl) ?_
  refine j_iconst (q := 1100) (v := 2) dL_law_1099 rfl (by decide) ?_
  refine j_iadd (q := 1101) dL_law_1100 rfl ?_
  refine j_arg (q := 1102) (j := i + 2) dL_law_1101 rfl (nI_add i 2) (by omega) hL ?_
  refine j_aload_n (q := 1103) dL_law_1102 rfl (by rfl) ?_
  refine j_iload_n (q := 1104) dL_law_1103 rfl (by rfl) ?_
  refine j_iconst (q := 1105) (v := 3) dL_law_1104 rfl (by decide) ?_
  refine j_iadd (q := 1106) dL_law_1105 rfl ?_
  refine j_arg (q := 1107) (j := i + 3) dL_law_1106 rfl (nI_add i 3) (by omega) hL ?_
  refine j_callV (q := 1110) dL_law_1107 rfl lL_130 mwX6_mean mvX6_mean cn6 h0 (by rfl) rfl (Nat.le_of_ble_eq_true (by rfl)) ⟨⟨Nat.le_of_ble_eq_true rfl, Nat.le_of_ble_eq_true rfl⟩, Nat.le_of_ble_eq_true rfl, Nat.le_of_ble_eq_true rfl⟩ hC ?_
  rintro v σ1 m1 hi1 ⟨rfl, rfl, q1⟩
  obtain ⟨z, rfl, hC2⟩ := hP v m1 q1
  refine j_aload_n (q := 1111) dL_law_1110 rfl (by rfl) ?_
  refine j_aload_n (q := 1112) dL_law_1111 rfl (by rfl) ?_
  refine j_iload_n (q := 1113) dL_law_1112 rfl (by rfl) ?_
  refine j_iconst (q := 1114) (v := 1) dL_law_1113 rfl (by decide) ?_
  refine j_iadd (q := 1115) dL_law_1114 rfl ?_
  refine j_arg (q := 1116) (j := i + 1) dL_law_1115 rfl (nI_add i 1) (by omega) hL ?_
  refine j_aload_n (q := 1117) dL_law_1116 rfl (by rfl) ?_
  refine j_iload_n (q := 1118) dL_law_1117 rfl (by rfl) ?_
  refine j_iconst (q := 1119) (v := 2) dL_law_1118 rfl (by decide) ?_
  refine j_iadd (q := 1120) dL_law_1119 rfl ?_
  refine j_arg (q := 1121) (j := i + 2) dL_law_1120 rfl (nI_add i 2) (by omega) hL ?_
  refine j_aload_n (q := 1122) dL_law_1121 rfl (by rfl) ?_
  refine j_iload_n (q := 1123) dL_law_1122 rfl (by rfl) ?_
  refine j_iconst (q := 1124) (v := 3) dL_law_1123 rfl (by decide) ?_
  refine j_iadd (q := 1125) dL_law_1124 rfl ?_
  refine j_arg (q := 1126) (j := i + 3) dL_law_1125 rfl (nI_add i 3) (by omega) hL ?_
  refine j_callV (q := 1129) dL_law_1126 rfl lL_134 mwX7_mean mvX7_mean cn7 h1 (by rfl) rfl (Nat.le_of_ble_eq_true (by rfl)) ⟨⟨Nat.le_of_ble_eq_true rfl, Nat.le_of_ble_eq_true rfl⟩, Nat.le_of_ble_eq_true rfl, Nat.le_of_ble_eq_true rfl⟩ hC2 ?_
  rintro v σ2 m2 hi2 ⟨rfl, rfl, rfl, q2⟩
  refine j_lcmp (q := 1130) dL_law_1129 rfl ?_
  exact j_if_eq (q := 1133) (tgt := 1544) dL_law_1130 rfl (by decide) (fun _ => kk m2 q2) (fun hn => absurd (lgc_0 z) hn)
theorem lw_see {E : gEv} {nm : String} {F : gFT} {σ : gSg} {m : gMem} {hi x t i : Nat} (hN : gN σ x) (hR : gR σ t) (h : REL m x t) (ht : x + 94 ≤ t) (hi5 : i + 5 ≤ gSL E) (hL : gSL E ≤ 2560) (kk : ∀ m', REL m' x t → lwJ E nm F 1544 [] σ m' hi x t i) : lwJ E nm F 1135 [] σ m hi x t i := by
  have h0 := hN.1
  have h1 := hR.1
  obtain ⟨P, hC, hP⟩ := pr_see E σ m hi x t (gXs E (i + 1)) (gXs E (i + 2)) (gXs E (i + 3)) hN hR h ht
  refine j_aload_n (q := 1136) dL_law_1135 rfl (by rfl) ?_
  refine j_aload_n (q := 1137) dL_law_1136 rfl (by rfl) ?_
  refine j_iload_n (q := 1138) dL_law_1137 rfl (by rfl) ?_
  refine j_iconst (q := 1139) (v := 1) dL_law_1138 rfl (by decide) ?_
  refine j_iadd (q := 1140) dL_law_1139 rfl ?_
  refine j_arg (q := 1141) (j := i + 1) dL_law_1140 rfl (nI_add i 1) (by omega) hL ?_
  refine j_aload_n (q := 1142) dL_law_1141 rfl (by rfl) ?_
  refine j_iload_n (q := 1143) dL_law_1142 rfl (by rfl) ?_
  refine j_iconst (q := 1144) (v := 2) dL_law_1143 rfl (by decide) ?_
  refine j_iadd (q := 1145) dL_law_1144 rfl ?_
  refine j_arg (q := 1146) (j := i + 2) dL_law_1145 rfl (nI_add i 2) (by omega) hL ?_
  refine j_aload_n (q := 1147) dL_law_1146 rfl (by rfl) ?_
  refine j_iload_n (q := 1148) dL_law_1147 rfl (by rfl) ?_
  refine j_iconst (q := 1149) (v := 3) dL_law_1148 rfl (by decide) ?_
  refine j_iadd (q := 1150) dL_law_1149 rfl ?_
  refine j_arg (q := 1151) (j := i + 3) dL_law_1150 rfl (nI_add i 3) (by omega) hL ?_
  refine j_callV (q := 1154) dL_law_1151 rfl lL_135 mwX6_see mvX6_see cn6 h0 (by rfl) rfl (Nat.le_of_ble_eq_true (by rfl)) ⟨⟨Nat.le_of_ble_eq_true rfl, Nat.le_of_ble_eq_true rfl⟩, Nat.le_of_ble_eq_true rfl, Nat.le_of_ble_eq_true rfl⟩ hC ?_
  rintro v σ1 m1 hi1 ⟨rfl, rfl, q1⟩
  obtain ⟨z, rfl, hC2⟩ := hP v m1 q1
  refine j_aload_n (q := 1155) dL_law_1154 rfl (by rfl) ?_
  refine j_aload_n (q := 1156) dL_law_1155 rfl (by rfl) ?_
  refine j_iload_n (q := 1157) dL_law_1156 rfl (by rfl) ?_
  refine j_iconst (q := 1158) (v := 1) dL_law_1157 rfl (by decide) ?_
  refine j_iadd (q := 1159) dL_law_1158 rfl ?_
  refine j_arg (q := 1160) (j := i + 1) dL_law_1159 rfl (nI_add i 1) (by omega) hL ?_
  refine j_aload_n (q := 1161) dL_law_1160 rfl (by rfl) ?_
  refine j_iload_n (q := 1162) dL_law_1161 rfl (by rfl) ?_
  refine j_iconst (q := 1163) (v := 2) dL_law_1162 rfl (by decide) ?_
  refine j_iadd (q := 1164) dL_law_1163 rfl ?_
  refine j_arg (q := 1165) (j := i + 2) dL_law_1164 rfl (nI_add i 2) (by omega) hL ?_
  refine j_aload_n (q := 1166) dL_law_1165 rfl (by rfl) ?_
  refine j_iload_n (q := 1167) dL_law_1166 rfl (by rfl) ?_
  refine j_iconst (q := 1168) (v := 3) dL_law_1167 rfl (by decide) ?_
  refine j_iadd (q := 1169) dL_law_1168 rfl ?_
  refine j_arg (q := 1170) (j := i + 3) dL_law_1169 rfl (nI_add i 3) (by omega) hL ?_
  refine j_callV (q := 1173) dL_law_1170 rfl lL_138 mwX7_see mvX7_see cn7 h1 (by rfl) rfl (Nat.le_of_ble_eq_true (by rfl)) ⟨⟨Nat.le_of_ble_eq_true rfl, Nat.le_of_ble_eq_true rfl⟩, Nat.le_of_ble_eq_true rfl, Nat.le_of_ble_eq_true rfl⟩ hC2 ?_
  rintro v σ2 m2 hi2 ⟨rfl, rfl, rfl, q2⟩
  exact j_icmp_eq (q := 1176) (tgt := 1544) dL_law_1173 rfl (by decide) (fun _ => kk m2 q2) (fun hn => absurd rfl hn)
theorem lw_forget {E : gEv} {nm : String} {F : gFT} {σ : gSg} {m : gMem} {hi x t i : Nat} (hN : gN σ x) (hR : gR σ t) (h : REL m x t) (ht : x + 94 ≤ t) (hi5 : i + 5 ≤ gSL E) (hL : gSL E ≤ 2560) (kk : ∀ m', REL m' x t → lwJ E nm F 1544 [] σ m' hi x t i) : lwJ E nm F 1178 [] σ m hi x t i := by
  have h0 := hN.1
  have h1 := hR.1
  obtain ⟨P, hC, hP⟩ := pr_forget E σ m hi x t (gXs E (i + 1)) hN hR h ht
  refine j_aload_n (q := 1179) dL_law_1178 rfl (by rfl) ?_
  refine j_aload_n (q := 1180) dL_law_1179 rfl (by rfl) ?_
  refine j_iload_n (q := 1181) dL_law_1180 rfl (by rfl) ?_
  refine j_iconst (q := 1182) (v := 1) dL_law_1181 rfl (by decide) ?_
  refine j_iadd (q := 1183) dL_law_1182 rfl ?_
  refine j_arg (q := 1184) (j := i + 1) dL_law_1183 rfl (nI_add i 1) (by omega) hL ?_
  refine j_callV (q := 1187) dL_law_1184 rfl lL_139 mwX6_forget mvX6_forget cn6 h0 (by rfl) rfl (Nat.le_of_ble_eq_true (by rfl)) ⟨⟨Nat.le_of_ble_eq_true rfl, Nat.le_of_ble_eq_true rfl⟩, Nat.le_of_ble_eq_true rfl, Nat.le_of_ble_eq_true rfl⟩ hC ?_
  rintro v σ1 m1 hi1 ⟨rfl, rfl, q1⟩
  obtain ⟨z, rfl, hC2⟩ := hP v m1 q1
  refine j_aload_n (q := 1188) dL_law_1187 rfl (by rfl) ?_
  refine j_aload_n (q := 1189) dL_law_1188 rfl (by rfl) ?_
  refine j_iload_n (q := 1190) dL_law_1189 rfl (by rfl) ?_
  refine j_iconst (q := 1191) (v := 1) dL_law_1190 rfl (by decide) ?_
  refine j_iadd (q := 1192) dL_law_1191 rfl ?_
  refine j_arg (q := 1193) (j := i + 1) dL_law_1192 rfl (nI_add i 1) (by omega) hL ?_
  refine j_callV (q := 1196) dL_law_1193 rfl lL_142 mwX7_forget mvX7_forget cn7 h1 (by rfl) rfl (Nat.le_of_ble_eq_true (by rfl)) ⟨⟨Nat.le_of_ble_eq_true rfl, Nat.le_of_ble_eq_true rfl⟩, Nat.le_of_ble_eq_true rfl, Nat.le_of_ble_eq_true rfl⟩ hC2 ?_
  rintro v σ2 m2 hi2 ⟨rfl, rfl, rfl, q2⟩
  exact j_icmp_eq (q := 1199) (tgt := 1544) dL_law_1196 rfl (by decide) (fun _ => kk m2 q2) (fun hn => absurd rfl hn)
theorem lw_kinds {E : gEv} {nm : String} {F : gFT} {σ : gSg} {m : gMem} {hi x t i : Nat} (hN : gN σ x) (hR : gR σ t) (h : REL m x t) (ht : x + 94 ≤ t) (hi5 : i + 5 ≤ gSL E) (hL : gSL E ≤ 2560) (kk : ∀ m', REL m' x t → lwJ E nm F 1544 [] σ m' hi x t i) : lwJ E nm F 1201 [] σ m hi x t i := by
  have h0 := hN.1
  have h1 := hR.1
  obtain ⟨P, hC, hP⟩ := pr_kinds E σ m hi x t (gXs E (i + 1)) hN hR h ht
  refine j_aload_n (q := 1202) dL_law_1201 rfl (by rfl) ?_
  refine j_aload_n (q := 1203) dL_law_1202 rfl (by rfl) ?_
  refine j_iload_n (q := 1204) dL_law_1203 rfl (by rfl) ?_
  refine j_iconst (q := 1205) (v := 1) dL_law_1204 rfl (by decide) ?_
  refine j_iadd (q := 1206) dL_law_1205 rfl ?_
  refine j_arg (q := 1207) (j := i + 1) dL_law_1206 rfl (nI_add i 1) (by omega) hL ?_
  refine j_callV (q := 1210) dL_law_1207 rfl lL_143 mwX6_kinds mvX6_kinds cn6 h0 (by rfl) rfl (Nat.le_of_ble_eq_true (by rfl)) ⟨⟨Nat.le_of_ble_eq_true rfl, Nat.le_of_ble_eq_true rfl⟩, Nat.le_of_ble_eq_true rfl, Nat.le_of_ble_eq_true rfl⟩ hC ?_
  rintro v σ1 m1 hi1 ⟨rfl, rfl, q1⟩
  obtain ⟨z, rfl, hC2⟩ := hP v m1 q1
  refine j_aload_n (q := 1211) dL_law_1210 rfl (by rfl) ?_
  refine j_aload_n (q := 1212) dL_law_1211 rfl (by rfl) ?_
  refine j_iload_n (q := 1213) dL_law_1212 rfl (by rfl) ?_
  refine j_iconst (q := 1214) (v := 1) dL_law_1213 rfl (by decide) ?_
  refine j_iadd (q := 1215) dL_law_1214 rfl ?_
  refine j_arg (q := 1216) (j := i + 1) dL_law_1215 rfl (nI_add i 1) (by omega) hL ?_
  refine j_callV (q := 1219) dL_law_1216 rfl lL_146 mwX7_kinds mvX7_kinds cn7 h1 (by rfl) rfl (Nat.le_of_ble_eq_true (by rfl)) ⟨⟨Nat.le_of_ble_eq_true rfl, Nat.le_of_ble_eq_true rfl⟩, Nat.le_of_ble_eq_true rfl, Nat.le_of_ble_eq_true rfl⟩ hC2 ?_
  rintro v σ2 m2 hi2 ⟨rfl, rfl, rfl, q2⟩
  exact j_icmp_eq (q := 1222) (tgt := 1544) dL_law_1219 rfl (by decide) (fun _ => kk m2 q2) (fun hn => absurd rfl hn)
theorem lw_nerves {E : gEv} {nm : String} {F : gFT} {σ : gSg} {m : gMem} {hi x t i : Nat} (hN : gN σ x) (hR : gR σ t) (h : REL m x t) (ht : x + 94 ≤ t) (hi5 : i + 5 ≤ gSL E) (hL : gSL E ≤ 2560) (kk : ∀ m', REL m' x t → lwJ E nm F 1544 [] σ m' hi x t i) : lwJ E nm F 1224 [] σ m hi x t i := by
  have h0 := hN.1
  have h1 := hR.1
  obtain ⟨P, hC, hP⟩ := pr_nerves E σ m hi x t (gXs E (i + 1)) hN hR h ht
  refine j_aload_n (q := 1225) dL_law_1224 rfl (by rfl) ?_
  refine j_aload_n (q := 1226) dL_law_1225 rfl (by rfl) ?_
  refine j_iload_n (q := 1227) dL_law_1226 rfl (by rfl) ?_
  refine j_iconst (q := 1228) (v := 1) dL_law_1227 rfl (by decide) ?_
  refine j_iadd (q := 1229) dL_law_1228 rfl ?_
  refine j_arg (q := 1230) (j := i + 1) dL_law_1229 rfl (nI_add i 1) (by omega) hL ?_
  refine j_callV (q := 1233) dL_law_1230 rfl lL_147 mwX6_nerves mvX6_nerves cn6 h0 (by rfl) rfl (Nat.le_of_ble_eq_true (by rfl)) ⟨⟨Nat.le_of_ble_eq_true rfl, Nat.le_of_ble_eq_true rfl⟩, Nat.le_of_ble_eq_true rfl, Nat.le_of_ble_eq_true rfl⟩ hC ?_
  rintro v σ1 m1 hi1 ⟨rfl, rfl, q1⟩
  obtain ⟨z, rfl, hC2⟩ := hP v m1 q1
  refine j_aload_n (q := 1234) dL_law_1233 rfl (by rfl) ?_
  refine j_aload_n (q := 1235) dL_law_1234 rfl (by rfl) ?_
  refine j_iload_n (q := 1236) dL_law_1235 rfl (by rfl) ?_
  refine j_iconst (q := 1237) (v := 1) dL_law_1236 rfl (by decide) ?_
  refine j_iadd (q := 1238) dL_law_1237 rfl ?_
  refine j_arg (q := 1239) (j := i + 1) dL_law_1238 rfl (nI_add i 1) (by omega) hL ?_
  refine j_callV (q := 1242) dL_law_1239 rfl lL_150 mwX7_nerves mvX7_nerves cn7 h1 (by rfl) rfl (Nat.le_of_ble_eq_true (by rfl)) ⟨⟨Nat.le_of_ble_eq_true rfl, Nat.le_of_ble_eq_true rfl⟩, Nat.le_of_ble_eq_true rfl, Nat.le_of_ble_eq_true rfl⟩ hC2 ?_
  rintro v σ2 m2 hi2 ⟨rfl, rfl, rfl, q2⟩
  exact j_icmp_eq (q := 1245) (tgt := 1544) dL_law_1242 rfl (by decide) (fun _ => kk m2 q2) (fun hn => absurd rfl hn)
theorem lw_ask {E : gEv} {nm : String} {F : gFT} {σ : gSg} {m : gMem} {hi x t i : Nat} (hN : gN σ x) (hR : gR σ t) (h : REL m x t) (ht : x + 94 ≤ t) (hi5 : i + 5 ≤ gSL E) (hL : gSL E ≤ 2560) (kk : ∀ m', REL m' x t → lwJ E nm F 1544 [] σ m' hi x t i) : lwJ E nm F 1247 [] σ m hi x t i := by
  have h0 := hN.1
  have h1 := hR.1
  obtain ⟨P, hC, hP⟩ := pr_ask E σ m hi x t (gXs E (i + 1)) (gXs E (i + 2)) hN hR h ht
  refine j_aload_n (q := 1248) dL_law_1247 rfl (by rfl) ?_
  refine j_aload_n (q := 1249) dL_law_1248 rfl (by rfl) ?_
  refine j_iload_n (q := 1250) dL_law_1249 rfl (by rfl) ?_
  refine j_iconst (q := 1251) (v := 1) dL_law_1250 rfl (by decide) ?_
  refine j_iadd (q := 1252) dL_law_1251 rfl ?_
  refine j_arg (q := 1253) (j := i + 1) dL_law_1252 rfl (nI_add i 1) (by omega) hL ?_
  refine j_aload_n (q := 1254) dL_law_1253 rfl (by rfl) ?_
  refine j_iload_n (q := 1255) dL_law_1254 rfl (by rfl) ?_
  refine j_iconst (q := 1256) (v := 2) dL_law_1255 rfl (by decide) ?_
  refine j_iadd (q := 1257) dL_law_1256 rfl ?_
  refine j_arg (q := 1258) (j := i + 2) dL_law_1257 rfl (nI_add i 2) (by omega) hL ?_
  refine j_callV (q := 1261) dL_law_1258 rfl lL_151 mwX6_ask mvX6_ask cn6 h0 (by rfl) rfl (Nat.le_of_ble_eq_true (by rfl)) ⟨⟨Nat.le_of_ble_eq_true rfl, Nat.le_of_ble_eq_true rfl⟩, Nat.le_of_ble_eq_true rfl, Nat.le_of_ble_eq_true rfl⟩ hC ?_
  rintro v σ1 m1 hi1 ⟨rfl, rfl, q1⟩
  obtain ⟨z, rfl, hC2⟩ := hP v m1 q1
  refine j_aload_n (q := 1262) dL_law_1261 rfl (by rfl) ?_
  refine j_aload_n (q := 1263) dL_law_1262 rfl (by rfl) ?_
  refine j_iload_n (q := 1264) dL_law_1263 rfl (by rfl) ?_
  refine j_iconst (q := 1265) (v := 1) dL_law_1264 rfl (by decide) ?_
  refine j_iadd (q := 1266) dL_law_1265 rfl ?_
  refine j_arg (q := 1267) (j := i + 1) dL_law_1266 rfl (nI_add i 1) (by omega) hL ?_
  refine j_aload_n (q := 1268) dL_law_1267 rfl (by rfl) ?_
  refine j_iload_n (q := 1269) dL_law_1268 rfl (by rfl) ?_
  refine j_iconst (q := 1270) (v := 2) dL_law_1269 rfl (by decide) ?_
  refine j_iadd (q := 1271) dL_law_1270 rfl ?_
  refine j_arg (q := 1272) (j := i + 2) dL_law_1271 rfl (nI_add i 2) (by omega) hL ?_
  refine j_callV (q := 1275) dL_law_1272 rfl lL_154 mwX7_ask mvX7_ask cn7 h1 (by rfl) rfl (Nat.le_of_ble_eq_true (by rfl)) ⟨⟨Nat.le_of_ble_eq_true rfl, Nat.le_of_ble_eq_true rfl⟩, Nat.le_of_ble_eq_true rfl, Nat.le_of_ble_eq_true rfl⟩ hC2 ?_
  rintro v σ2 m2 hi2 ⟨rfl, rfl, rfl, q2⟩
  exact j_icmp_eq (q := 1278) (tgt := 1544) dL_law_1275 rfl (by decide) (fun _ => kk m2 q2) (fun hn => absurd rfl hn)
theorem lw_season {E : gEv} {nm : String} {F : gFT} {σ : gSg} {m : gMem} {hi x t i : Nat} (hN : gN σ x) (hR : gR σ t) (h : REL m x t) (ht : x + 94 ≤ t) (hi5 : i + 5 ≤ gSL E) (hL : gSL E ≤ 2560) (kk : ∀ m', REL m' x t → lwJ E nm F 1544 [] σ m' hi x t i) : lwJ E nm F 1280 [] σ m hi x t i := by
  have h0 := hN.1
  have h1 := hR.1
  obtain ⟨P, hC, hP⟩ := pr_season E σ m hi x t (gXs E (i + 1)) (gXs E (i + 2)) (gXs E (i + 3)) hN hR h ht
  refine j_aload_n (q := 1281) dL_law_1280 rfl (by rfl) ?_
  refine j_aload_n (q := 1282) dL_law_1281 rfl (by rfl) ?_
  refine j_iload_n (q := 1283) dL_law_1282 rfl (by rfl) ?_
  refine j_iconst (q := 1284) (v := 1) dL_law_1283 rfl (by decide) ?_
  refine j_iadd (q := 1285) dL_law_1284 rfl ?_
  refine j_arg (q := 1286) (j := i + 1) dL_law_1285 rfl (nI_add i 1) (by omega) hL ?_
  refine j_aload_n (q := 1287) dL_law_1286 rfl (by rfl) ?_
  refine j_iload_n (q := 1288) dL_law_1287 rfl (by rfl) ?_
  refine j_iconst (q := 1289) (v := 2) dL_law_1288 rfl (by decide) ?_
  refine j_iadd (q := 1290) dL_law_1289 rfl ?_
  refine j_arg (q := 1291) (j := i + 2) dL_law_1290 rfl (nI_add i 2) (by omega) hL ?_
  refine j_aload_n (q := 1292) dL_law_1291 rfl (by rfl) ?_
  refine j_iload_n (q := 1293) dL_law_1292 rfl (by rfl) ?_
  refine j_iconst (q := 1294) (v := 3) dL_law_1293 rfl (by decide) ?_
  refine j_iadd (q := 1295) dL_law_1294 rfl ?_
  refine j_arg (q := 1296) (j := i + 3) dL_law_1295 rfl (nI_add i 3) (by omega) hL ?_
  refine j_callV (q := 1299) dL_law_1296 rfl lL_155 mwX6_season mvX6_season cn6 h0 (by rfl) rfl (Nat.le_of_ble_eq_true (by rfl)) ⟨⟨Nat.le_of_ble_eq_true rfl, Nat.le_of_ble_eq_true rfl⟩, Nat.le_of_ble_eq_true rfl, Nat.le_of_ble_eq_true rfl⟩ hC ?_
  rintro v σ1 m1 hi1 ⟨rfl, rfl, q1⟩
  obtain ⟨z, rfl, hC2⟩ := hP v m1 q1
  refine j_aload_n (q := 1300) dL_law_1299 rfl (by rfl) ?_
  refine j_aload_n (q := 1301) dL_law_1300 rfl (by rfl) ?_
  refine j_iload_n (q := 1302) dL_law_1301 rfl (by rfl) ?_
  refine j_iconst (q := 1303) (v := 1) dL_law_1302 rfl (by decide) ?_
  refine j_iadd (q := 1304) dL_law_1303 rfl ?_
  refine j_arg (q := 1305) (j := i + 1) dL_law_1304 rfl (nI_add i 1) (by omega) hL ?_
  refine j_aload_n (q := 1306) dL_law_1305 rfl (by rfl) ?_
  refine j_iload_n (q := 1307) dL_law_1306 rfl (by rfl) ?_
  refine j_iconst (q := 1308) (v := 2) dL_law_1307 rfl (by decide) ?_
  refine j_iadd (q := 1309) dL_law_1308 rfl ?_
  refine j_arg (q := 1310) (j := i + 2) dL_law_1309 rfl (nI_add i 2) (by omega) hL ?_
  refine j_aload_n (q := 1311) dL_law_1310 rfl (by rfl) ?_
  refine j_iload_n (q := 1312) dL_law_1311 rfl (by rfl) ?_
  refine j_iconst (q := 1313) (v := 3) dL_law_1312 rfl (by decide) ?_
  refine j_iadd (q := 1314) dL_law_1313 rfl ?_
  refine j_arg (q := 1315) (j := i + 3) dL_law_1314 rfl (nI_add i 3) (by omega) hL ?_
  refine j_callV (q := 1318) dL_law_1315 rfl lL_158 mwX7_season mvX7_season cn7 h1 (by rfl) rfl (Nat.le_of_ble_eq_true (by rfl)) ⟨⟨Nat.le_of_ble_eq_true rfl, Nat.le_of_ble_eq_true rfl⟩, Nat.le_of_ble_eq_true rfl, Nat.le_of_ble_eq_true rfl⟩ hC2 ?_
  rintro v σ2 m2 hi2 ⟨rfl, rfl, rfl, q2⟩
  exact j_icmp_eq (q := 1321) (tgt := 1544) dL_law_1318 rfl (by decide) (fun _ => kk m2 q2) (fun hn => absurd rfl hn)
theorem lw_keep {E : gEv} {nm : String} {F : gFT} {σ : gSg} {m : gMem} {hi x t i : Nat} (hN : gN σ x) (hR : gR σ t) (h : REL m x t) (ht : x + 94 ≤ t) (hi5 : i + 5 ≤ gSL E) (hL : gSL E ≤ 2560) (kk : ∀ m', REL m' x t → lwJ E nm F 1544 [] σ m' hi x t i) : lwJ E nm F 1323 [] σ m hi x t i := by
  have h0 := hN.1
  have h1 := hR.1
  obtain ⟨P, hC, hP⟩ := pr_keep E σ m hi x t (gXs E (i + 1)) hN hR h ht
  refine j_aload_n (q := 1324) dL_law_1323 rfl (by rfl) ?_
  refine j_aload_n (q := 1325) dL_law_1324 rfl (by rfl) ?_
  refine j_iload_n (q := 1326) dL_law_1325 rfl (by rfl) ?_
  refine j_iconst (q := 1327) (v := 1) dL_law_1326 rfl (by decide) ?_
  refine j_iadd (q := 1328) dL_law_1327 rfl ?_
  refine j_arg (q := 1329) (j := i + 1) dL_law_1328 rfl (nI_add i 1) (by omega) hL ?_
  refine j_callV (q := 1332) dL_law_1329 rfl lL_159 mwX6_keep mvX6_keep cn6 h0 (by rfl) rfl (Nat.le_of_ble_eq_true (by rfl)) ⟨⟨Nat.le_of_ble_eq_true rfl, Nat.le_of_ble_eq_true rfl⟩, Nat.le_of_ble_eq_true rfl, Nat.le_of_ble_eq_true rfl⟩ hC ?_
  rintro v σ1 m1 hi1 ⟨rfl, rfl, q1⟩
  obtain ⟨z, rfl, hC2⟩ := hP v m1 q1
  refine j_aload_n (q := 1333) dL_law_1332 rfl (by rfl) ?_
  refine j_aload_n (q := 1334) dL_law_1333 rfl (by rfl) ?_
  refine j_iload_n (q := 1335) dL_law_1334 rfl (by rfl) ?_
  refine j_iconst (q := 1336) (v := 1) dL_law_1335 rfl (by decide) ?_
  refine j_iadd (q := 1337) dL_law_1336 rfl ?_
  refine j_arg (q := 1338) (j := i + 1) dL_law_1337 rfl (nI_add i 1) (by omega) hL ?_
  refine j_callV (q := 1341) dL_law_1338 rfl lL_162 mwX7_keep mvX7_keep cn7 h1 (by rfl) rfl (Nat.le_of_ble_eq_true (by rfl)) ⟨⟨Nat.le_of_ble_eq_true rfl, Nat.le_of_ble_eq_true rfl⟩, Nat.le_of_ble_eq_true rfl, Nat.le_of_ble_eq_true rfl⟩ hC2 ?_
  rintro v σ2 m2 hi2 ⟨rfl, rfl, rfl, q2⟩
  exact j_icmp_eq (q := 1344) (tgt := 1544) dL_law_1341 rfl (by decide) (fun _ => kk m2 q2) (fun hn => absurd rfl hn)
theorem lw_back {E : gEv} {nm : String} {F : gFT} {σ : gSg} {m : gMem} {hi x t i : Nat} (hN : gN σ x) (hR : gR σ t) (h : REL m x t) (ht : x + 94 ≤ t) (hi5 : i + 5 ≤ gSL E) (hL : gSL E ≤ 2560) (kk : ∀ m', REL m' x t → lwJ E nm F 1544 [] σ m' hi x t i) : lwJ E nm F 1346 [] σ m hi x t i := by
  have h0 := hN.1
  have h1 := hR.1
  obtain ⟨P, hC, hP⟩ := pr_back E σ m hi x t (gXs E (i + 1)) hN hR h ht
  refine j_aload_n (q := 1347) dL_law_1346 rfl (by rfl) ?_
  refine j_aload_n (q := 1348) dL_law_1347 rfl (by rfl) ?_
  refine j_iload_n (q := 1349) dL_law_1348 rfl (by rfl) ?_
  refine j_iconst (q := 1350) (v := 1) dL_law_1349 rfl (by decide) ?_
  refine j_iadd (q := 1351) dL_law_1350 rfl ?_
  refine j_arg (q := 1352) (j := i + 1) dL_law_1351 rfl (nI_add i 1) (by omega) hL ?_
  refine j_callV (q := 1355) dL_law_1352 rfl lL_163 mwX6_back mvX6_back cn6 h0 (by rfl) rfl (Nat.le_of_ble_eq_true (by rfl)) ⟨⟨Nat.le_of_ble_eq_true rfl, Nat.le_of_ble_eq_true rfl⟩, Nat.le_of_ble_eq_true rfl, Nat.le_of_ble_eq_true rfl⟩ hC ?_
  rintro v σ1 m1 hi1 ⟨rfl, rfl, q1⟩
  obtain ⟨z, rfl, hC2⟩ := hP v m1 q1
  refine j_aload_n (q := 1356) dL_law_1355 rfl (by rfl) ?_
  refine j_aload_n (q := 1357) dL_law_1356 rfl (by rfl) ?_
  refine j_iload_n (q := 1358) dL_law_1357 rfl (by rfl) ?_
  refine j_iconst (q := 1359) (v := 1) dL_law_1358 rfl (by decide) ?_
  refine j_iadd (q := 1360) dL_law_1359 rfl ?_
  refine j_arg (q := 1361) (j := i + 1) dL_law_1360 rfl (nI_add i 1) (by omega) hL ?_
  refine j_callV (q := 1364) dL_law_1361 rfl lL_166 mwX7_back mvX7_back cn7 h1 (by rfl) rfl (Nat.le_of_ble_eq_true (by rfl)) ⟨⟨Nat.le_of_ble_eq_true rfl, Nat.le_of_ble_eq_true rfl⟩, Nat.le_of_ble_eq_true rfl, Nat.le_of_ble_eq_true rfl⟩ hC2 ?_
  rintro v σ2 m2 hi2 ⟨rfl, rfl, rfl, q2⟩
  exact j_icmp_eq (q := 1367) (tgt := 1544) dL_law_1364 rfl (by decide) (fun _ => kk m2 q2) (fun hn => absurd rfl hn)
theorem lw_sheet {E : gEv} {nm : String} {F : gFT} {σ : gSg} {m : gMem} {hi x t i : Nat} (hN : gN σ x) (hR : gR σ t) (h : REL m x t) (ht : x + 94 ≤ t) (hi5 : i + 5 ≤ gSL E) (hL : gSL E ≤ 2560) (kk : ∀ m', REL m' x t → lwJ E nm F 1544 [] σ m' hi x t i) : lwJ E nm F 1369 [] σ m hi x t i := by
  have h0 := hN.1
  have h1 := hR.1
  obtain ⟨P, hC, hP⟩ := pr_sheet E σ m hi x t (gXs E (i + 1)) (gXs E (i + 2)) (gXs E (i + 3)) hN hR h ht
  refine j_aload_n (q := 1370) dL_law_1369 rfl (by rfl) ?_
  refine j_aload_n (q := 1371) dL_law_1370 rfl (by rfl) ?_
  refine j_iload_n (q := 1372) dL_law_1371 rfl (by rfl) ?_
  refine j_iconst (q := 1373) (v := 1) dL_law_1372 rfl (by decide) ?_
  refine j_iadd (q := 1374) dL_law_1373 rfl ?_
  refine j_arg (q := 1375) (j := i + 1) dL_law_1374 rfl (nI_add i 1) (by omega) hL ?_
  refine j_aload_n (q := 1376) dL_law_1375 rfl (by rfl) ?_
  refine j_iload_n (q := 1377) dL_law_1376 rfl (by rfl) ?_
  refine j_iconst (q := 1378) (v := 2) dL_law_1377 rfl (by decide) ?_
  refine j_iadd (q := 1379) dL_law_1378 rfl ?_
  refine j_arg (q := 1380) (j := i + 2) dL_law_1379 rfl (nI_add i 2) (by omega) hL ?_
  refine j_aload_n (q := 1381) dL_law_1380 rfl (by rfl) ?_
  refine j_iload_n (q := 1382) dL_law_1381 rfl (by rfl) ?_
  refine j_iconst (q := 1383) (v := 3) dL_law_1382 rfl (by decide) ?_
  refine j_iadd (q := 1384) dL_law_1383 rfl ?_
  refine j_arg (q := 1385) (j := i + 3) dL_law_1384 rfl (nI_add i 3) (by omega) hL ?_
  refine j_callV (q := 1388) dL_law_1385 rfl lL_167 mwX6_sheet mvX6_sheet cn6 h0 (by rfl) rfl (Nat.le_of_ble_eq_true (by rfl)) ⟨⟨Nat.le_of_ble_eq_true rfl, Nat.le_of_ble_eq_true rfl⟩, Nat.le_of_ble_eq_true rfl, Nat.le_of_ble_eq_true rfl⟩ hC ?_
  rintro v σ1 m1 hi1 ⟨rfl, rfl, q1⟩
  obtain ⟨z, rfl, hC2⟩ := hP v m1 q1
  refine j_aload_n (q := 1389) dL_law_1388 rfl (by rfl) ?_
  refine j_aload_n (q := 1390) dL_law_1389 rfl (by rfl) ?_
  refine j_iload_n (q := 1391) dL_law_1390 rfl (by rfl) ?_
  refine j_iconst (q := 1392) (v := 1) dL_law_1391 rfl (by decide) ?_
  refine j_iadd (q := 1393) dL_law_1392 rfl ?_
  refine j_arg (q := 1394) (j := i + 1) dL_law_1393 rfl (nI_add i 1) (by omega) hL ?_
  refine j_aload_n (q := 1395) dL_law_1394 rfl (by rfl) ?_
  refine j_iload_n (q := 1396) dL_law_1395 rfl (by rfl) ?_
  refine j_iconst (q := 1397) (v := 2) dL_law_1396 rfl (by decide) ?_
  refine j_iadd (q := 1398) dL_law_1397 rfl ?_
  refine j_arg (q := 1399) (j := i + 2) dL_law_1398 rfl (nI_add i 2) (by omega) hL ?_
  refine j_aload_n (q := 1400) dL_law_1399 rfl (by rfl) ?_
  refine j_iload_n (q := 1401) dL_law_1400 rfl (by rfl) ?_
  refine j_iconst (q := 1402) (v := 3) dL_law_1401 rfl (by decide) ?_
  refine j_iadd (q := 1403) dL_law_1402 rfl ?_
  refine j_arg (q := 1404) (j := i + 3) dL_law_1403 rfl (nI_add i 3) (by omega) hL ?_
  refine j_callV (q := 1407) dL_law_1404 rfl lL_170 mwX7_sheet mvX7_sheet cn7 h1 (by rfl) rfl (Nat.le_of_ble_eq_true (by rfl)) ⟨⟨Nat.le_of_ble_eq_true rfl, Nat.le_of_ble_eq_true rfl⟩, Nat.le_of_ble_eq_true rfl, Nat.le_of_ble_eq_true rfl⟩ hC2 ?_
  rintro v σ2 m2 hi2 ⟨rfl, rfl, rfl, q2⟩
  exact j_icmp_eq (q := 1410) (tgt := 1544) dL_law_1407 rfl (by decide) (fun _ => kk m2 q2) (fun hn => absurd rfl hn)
theorem lw_lay {E : gEv} {nm : String} {F : gFT} {σ : gSg} {m : gMem} {hi x t i : Nat} (hN : gN σ x) (hR : gR σ t) (h : REL m x t) (ht : x + 94 ≤ t) (hi5 : i + 5 ≤ gSL E) (hL : gSL E ≤ 2560) (kk : ∀ m', REL m' x t → lwJ E nm F 1544 [] σ m' hi x t i) : lwJ E nm F 1412 [] σ m hi x t i := by
  have h0 := hN.1
  have h1 := hR.1
  obtain ⟨P, hC, hP⟩ := pr_lay E σ m hi x t (gXs E (i + 1)) (gXs E (i + 2)) (gXs E (i + 3)) hN hR h ht
  refine j_aload_n (q := 1413) dL_law_1412 rfl (by rfl) ?_
  refine j_aload_n (q := 1414) dL_law_1413 rfl (by rfl) ?_
  refine j_iload_n (q := 1415) dL_law_1414 rfl (by rfl) ?_
  refine j_iconst (q := 1416) (v := 1) dL_law_1415 rfl (by decide) ?_
  refine j_iadd (q := 1417) dL_law_1416 rfl ?_
  refine j_arg (q := 1418) (j := i + 1) dL_law_1417 rfl (nI_add i 1) (by omega) hL ?_
  refine j_aload_n (q := 1419) dL_law_1418 rfl (by rfl) ?_
  refine j_iload_n (q := 1420) dL_law_1419 rfl (by rfl) ?_
  refine j_iconst (q := 1421) (v := 2) dL_law_1420 rfl (by decide) ?_
  refine j_iadd (q := 1422) dL_law_1421 rfl ?_
  refine j_arg (q := 1423) (j := i + 2) dL_law_1422 rfl (nI_add i 2) (by omega) hL ?_
  refine j_aload_n (q := 1424) dL_law_1423 rfl (by rfl) ?_
  refine j_iload_n (q := 1425) dL_law_1424 rfl (by rfl) ?_
  refine j_iconst (q := 1426) (v := 3) dL_law_1425 rfl (by decide) ?_
  refine j_iadd (q := 1427) dL_law_1426 rfl ?_
  refine j_arg (q := 1428) (j := i + 3) dL_law_1427 rfl (nI_add i 3) (by omega) hL ?_
  refine j_callV (q := 1431) dL_law_1428 rfl lL_171 mwX6_lay mvX6_lay cn6 h0 (by rfl) rfl (Nat.le_of_ble_eq_true (by rfl)) ⟨⟨Nat.le_of_ble_eq_true rfl, Nat.le_of_ble_eq_true rfl⟩, Nat.le_of_ble_eq_true rfl, Nat.le_of_ble_eq_true rfl⟩ hC ?_
  rintro v σ1 m1 hi1 ⟨rfl, rfl, q1⟩
  obtain ⟨z, rfl, hC2⟩ := hP v m1 q1
  refine j_aload_n (q := 1432) dL_law_1431 rfl (by rfl) ?_
  refine j_aload_n (q := 1433) dL_law_1432 rfl (by rfl) ?_
  refine j_iload_n (q := 1434) dL_law_1433 rfl (by rfl) ?_
  refine j_iconst (q := 1435) (v := 1) dL_law_1434 rfl (by decide) ?_
  refine j_iadd (q := 1436) dL_law_1435 rfl ?_
  refine j_arg (q := 1437) (j := i + 1) dL_law_1436 rfl (nI_add i 1) (by omega) hL ?_
  refine j_aload_n (q := 1438) dL_law_1437 rfl (by rfl) ?_
  refine j_iload_n (q := 1439) dL_law_1438 rfl (by rfl) ?_
  refine j_iconst (q := 1440) (v := 2) dL_law_1439 rfl (by decide) ?_
  refine j_iadd (q := 1441) dL_law_1440 rfl ?_
  refine j_arg (q := 1442) (j := i + 2) dL_law_1441 rfl (nI_add i 2) (by omega) hL ?_
  refine j_aload_n (q := 1443) dL_law_1442 rfl (by rfl) ?_
  refine j_iload_n (q := 1444) dL_law_1443 rfl (by rfl) ?_
  refine j_iconst (q := 1445) (v := 3) dL_law_1444 rfl (by decide) ?_
  refine j_iadd (q := 1446) dL_law_1445 rfl ?_
  refine j_arg (q := 1447) (j := i + 3) dL_law_1446 rfl (nI_add i 3) (by omega) hL ?_
  refine j_callV (q := 1450) dL_law_1447 rfl lL_174 mwX7_lay mvX7_lay cn7 h1 (by rfl) rfl (Nat.le_of_ble_eq_true (by rfl)) ⟨⟨Nat.le_of_ble_eq_true rfl, Nat.le_of_ble_eq_true rfl⟩, Nat.le_of_ble_eq_true rfl, Nat.le_of_ble_eq_true rfl⟩ hC2 ?_
  rintro v σ2 m2 hi2 ⟨rfl, rfl, rfl, q2⟩
  exact j_icmp_eq (q := 1453) (tgt := 1544) dL_law_1450 rfl (by decide) (fun _ => kk m2 q2) (fun hn => absurd rfl hn)
theorem lw_read {E : gEv} {nm : String} {F : gFT} {σ : gSg} {m : gMem} {hi x t i : Nat} (hN : gN σ x) (hR : gR σ t) (h : REL m x t) (ht : x + 94 ≤ t) (hi5 : i + 5 ≤ gSL E) (hL : gSL E ≤ 2560) (kk : ∀ m', REL m' x t → lwJ E nm F 1544 [] σ m' hi x t i) : lwJ E nm F 1455 [] σ m hi x t i := by
  have h0 := hN.1
  have h1 := hR.1
  obtain ⟨P, hC, hP⟩ := pr_read E σ m hi x t (gXs E (i + 1)) (gXs E (i + 2)) (gXs E (i + 3)) (gXs E (i + 4)) hN hR h ht
  refine j_aload_n (q := 1456) dL_law_1455 rfl (by rfl) ?_
  refine j_aload_n (q := 1457) dL_law_1456 rfl (by rfl) ?_
  refine j_iload_n (q := 1458) dL_law_1457 rfl (by rfl) ?_
  refine j_iconst (q := 1459) (v := 1) dL_law_1458 rfl (by decide) ?_
  refine j_iadd (q := 1460) dL_law_1459 rfl ?_
  refine j_arg (q := 1461) (j := i + 1) dL_law_1460 rfl (nI_add i 1) (by omega) hL ?_
  refine j_aload_n (q := 1462) dL_law_1461 rfl (by rfl) ?_
  refine j_iload_n (q := 1463) dL_law_1462 rfl (by rfl) ?_
  refine j_iconst (q := 1464) (v := 2) dL_law_1463 rfl (by decide) ?_
  refine j_iadd (q := 1465) dL_law_1464 rfl ?_
  refine j_arg (q := 1466) (j := i + 2) dL_law_1465 rfl (nI_add i 2) (by omega) hL ?_
  refine j_aload_n (q := 1467) dL_law_1466 rfl (by rfl) ?_
  refine j_iload_n (q := 1468) dL_law_1467 rfl (by rfl) ?_
  refine j_iconst (q := 1469) (v := 3) dL_law_1468 rfl (by decide) ?_
  refine j_iadd (q := 1470) dL_law_1469 rfl ?_
  refine j_arg (q := 1471) (j := i + 3) dL_law_1470 rfl (nI_add i 3) (by omega) hL ?_
  refine j_aload_n (q := 1472) dL_law_1471 rfl (by rfl) ?_
  refine j_iload_n (q := 1473) dL_law_1472 rfl (by rfl) ?_
  refine j_iconst (q := 1474) (v := 4) dL_law_1473 rfl (by decide) ?_
  refine j_iadd (q := 1475) dL_law_1474 rfl ?_
  refine j_arg (q := 1476) (j := i + 4) dL_law_1475 rfl (nI_add i 4) (by omega) hL ?_
  refine j_callV (q := 1479) dL_law_1476 rfl lL_175 mwX6_read mvX6_read cn6 h0 (by rfl) rfl (Nat.le_of_ble_eq_true (by rfl)) ⟨⟨Nat.le_of_ble_eq_true rfl, Nat.le_of_ble_eq_true rfl⟩, Nat.le_of_ble_eq_true rfl, Nat.le_of_ble_eq_true rfl⟩ hC ?_
  rintro v σ1 m1 hi1 ⟨rfl, rfl, q1⟩
  obtain ⟨z, rfl, hC2⟩ := hP v m1 q1
  refine j_aload_n (q := 1480) dL_law_1479 rfl (by rfl) ?_
  refine j_aload_n (q := 1481) dL_law_1480 rfl (by rfl) ?_
  refine j_iload_n (q := 1482) dL_law_1481 rfl (by rfl) ?_
  refine j_iconst (q := 1483) (v := 1) dL_law_1482 rfl (by decide) ?_
  refine j_iadd (q := 1484) dL_law_1483 rfl ?_
  refine j_arg (q := 1485) (j := i + 1) dL_law_1484 rfl (nI_add i 1) (by omega) hL ?_
  refine j_aload_n (q := 1486) dL_law_1485 rfl (by rfl) ?_
  refine j_iload_n (q := 1487) dL_law_1486 rfl (by rfl) ?_
  refine j_iconst (q := 1488) (v := 2) dL_law_1487 rfl (by decide) ?_
  refine j_iadd (q := 1489) dL_law_1488 rfl ?_
  refine j_arg (q := 1490) (j := i + 2) dL_law_1489 rfl (nI_add i 2) (by omega) hL ?_
  refine j_aload_n (q := 1491) dL_law_1490 rfl (by rfl) ?_
  refine j_iload_n (q := 1492) dL_law_1491 rfl (by rfl) ?_
  refine j_iconst (q := 1493) (v := 3) dL_law_1492 rfl (by decide) ?_
  refine j_iadd (q := 1494) dL_law_1493 rfl ?_
  refine j_arg (q := 1495) (j := i + 3) dL_law_1494 rfl (nI_add i 3) (by omega) hL ?_
  refine j_aload_n (q := 1496) dL_law_1495 rfl (by rfl) ?_
  refine j_iload_n (q := 1497) dL_law_1496 rfl (by rfl) ?_
  refine j_iconst (q := 1498) (v := 4) dL_law_1497 rfl (by decide) ?_
  refine j_iadd (q := 1499) dL_law_1498 rfl ?_
  refine j_arg (q := 1500) (j := i + 4) dL_law_1499 rfl (nI_add i 4) (by omega) hL ?_
  refine j_callV (q := 1503) dL_law_1500 rfl lL_179 mwX7_read mvX7_read cn7 h1 (by rfl) rfl (Nat.le_of_ble_eq_true (by rfl)) ⟨⟨Nat.le_of_ble_eq_true rfl, Nat.le_of_ble_eq_true rfl⟩, Nat.le_of_ble_eq_true rfl, Nat.le_of_ble_eq_true rfl⟩ hC2 ?_
  rintro v σ2 m2 hi2 ⟨rfl, rfl, rfl, q2⟩
  exact j_icmp_eq (q := 1506) (tgt := 1544) dL_law_1503 rfl (by decide) (fun _ => kk m2 q2) (fun hn => absurd rfl hn)
theorem lw_torn {E : gEv} {nm : String} {F : gFT} {σ : gSg} {m : gMem} {hi x t i : Nat} (hN : gN σ x) (hR : gR σ t) (h : REL m x t) (ht : x + 94 ≤ t) (hi5 : i + 5 ≤ gSL E) (hL : gSL E ≤ 2560) (kk : ∀ m', REL m' x t → lwJ E nm F 1544 [] σ m' hi x t i) : lwJ E nm F 1508 [] σ m hi x t i := by
  have h0 := hN.1
  have h1 := hR.1
  obtain ⟨P, hC, hP⟩ := pr_torn E σ m hi x t  hN hR h ht
  refine j_aload_n (q := 1509) dL_law_1508 rfl (by rfl) ?_
  refine j_callV (q := 1512) dL_law_1509 rfl lL_180 mwX6_torn mvX6_torn cn6 h0 (by rfl) rfl (Nat.le_of_ble_eq_true (by rfl)) ⟨⟨Nat.le_of_ble_eq_true rfl, Nat.le_of_ble_eq_true rfl⟩, Nat.le_of_ble_eq_true rfl, Nat.le_of_ble_eq_true rfl⟩ hC ?_
  rintro v σ1 m1 hi1 ⟨rfl, rfl, q1⟩
  obtain ⟨z, rfl, hC2⟩ := hP v m1 q1
  refine j_aload_n (q := 1513) dL_law_1512 rfl (by rfl) ?_
  refine j_callV (q := 1516) dL_law_1513 rfl lL_183 mwX7_torn mvX7_torn cn7 h1 (by rfl) rfl (Nat.le_of_ble_eq_true (by rfl)) ⟨⟨Nat.le_of_ble_eq_true rfl, Nat.le_of_ble_eq_true rfl⟩, Nat.le_of_ble_eq_true rfl, Nat.le_of_ble_eq_true rfl⟩ hC2 ?_
  rintro v σ2 m2 hi2 ⟨rfl, rfl, rfl, q2⟩
  exact j_icmp_eq (q := 1519) (tgt := 1544) dL_law_1516 rfl (by decide) (fun _ => kk m2 q2) (fun hn => absurd rfl hn)
theorem lw_count {E : gEv} {nm : String} {F : gFT} {σ : gSg} {m : gMem} {hi x t i : Nat} (hN : gN σ x) (hR : gR σ t) (h : REL m x t) (ht : x + 94 ≤ t) (hi5 : i + 5 ≤ gSL E) (hL : gSL E ≤ 2560) (kk : ∀ m', REL m' x t → lwJ E nm F 1544 [] σ m' hi x t i) : lwJ E nm F 1521 [] σ m hi x t i := by
  have h0 := hN.1
  have h1 := hR.1
  obtain ⟨P, hC, hP⟩ := pr_count E σ m hi x t (gXs E (i + 1)) hN hR h ht
  refine j_aload_n (q := 1522) dL_law_1521 rfl (by rfl) ?_
  refine j_aload_n (q := 1523) dL_law_1522 rfl (by rfl) ?_
  refine j_iload_n (q := 1524) dL_law_1523 rfl (by rfl) ?_
  refine j_iconst (q := 1525) (v := 1) dL_law_1524 rfl (by decide) ?_
  refine j_iadd (q := 1526) dL_law_1525 rfl ?_
  refine j_arg (q := 1527) (j := i + 1) dL_law_1526 rfl (nI_add i 1) (by omega) hL ?_
  refine j_callV (q := 1530) dL_law_1527 rfl lL_184 mwX6_count mvX6_count cn6 h0 (by rfl) rfl (Nat.le_of_ble_eq_true (by rfl)) ⟨⟨Nat.le_of_ble_eq_true rfl, Nat.le_of_ble_eq_true rfl⟩, Nat.le_of_ble_eq_true rfl, Nat.le_of_ble_eq_true rfl⟩ hC ?_
  rintro v σ1 m1 hi1 ⟨rfl, rfl, q1⟩
  obtain ⟨z, rfl, hC2⟩ := hP v m1 q1
  refine j_aload_n (q := 1531) dL_law_1530 rfl (by rfl) ?_
  refine j_aload_n (q := 1532) dL_law_1531 rfl (by rfl) ?_
  refine j_iload_n (q := 1533) dL_law_1532 rfl (by rfl) ?_
  refine j_iconst (q := 1534) (v := 1) dL_law_1533 rfl (by decide) ?_
  refine j_iadd (q := 1535) dL_law_1534 rfl ?_
  refine j_arg (q := 1536) (j := i + 1) dL_law_1535 rfl (nI_add i 1) (by omega) hL ?_
  refine j_callV (q := 1539) dL_law_1536 rfl lL_187 mwX7_count mvX7_count cn7 h1 (by rfl) rfl (Nat.le_of_ble_eq_true (by rfl)) ⟨⟨Nat.le_of_ble_eq_true rfl, Nat.le_of_ble_eq_true rfl⟩, Nat.le_of_ble_eq_true rfl, Nat.le_of_ble_eq_true rfl⟩ hC2 ?_
  rintro v σ2 m2 hi2 ⟨rfl, rfl, rfl, q2⟩
  exact j_icmp_eq (q := 1542) (tgt := 1544) dL_law_1539 rfl (by decide) (fun _ => kk m2 q2) (fun hn => absurd rfl hn)
