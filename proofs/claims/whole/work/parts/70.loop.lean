/-! the law's loop, its entry, and the claim's own walk -/
theorem lw_cmp {L i : Nat} (hL : L ≤ 2560) (hi : i ≤ 5000) : (nI L - 5 < nI i) ↔ L < i + 5 := by
  rw [Int32.lt_iff_toInt_lt, show (nI L - 5).toInt = (L : Int) - 5 from pk_sub_toInt (a := L) (b := 5) (by omega) (by omega), nI_toInt (by omega)]
  omega
def lawQ : gQT := fun v _ _ _ => v = some (.int 1)
theorem lw_loop {E : gEv} {nm : String} {F : gFT} (hF : F = gFn E lawQ 600000 7302250) {σ : gSg} {hi x t : Nat} (hN : gN σ x) (hR : gR σ t) (ht : x + 94 ≤ t) (hL : gSL E ≤ 2560) : ∀ (n i : Nat) (m : gMem), gSL E ≤ i + n → i ≤ gSL E → REL m x t → lwJ E nm F 18 [] σ m hi x t i := by
  intro n
  induction n with
  | zero =>
    intro i m hn hiL h
    refine j_iload_n (q := 19) dL_law_18 rfl (by rfl) ?_
    refine j_aload_n (q := 20) dL_law_19 rfl (by rfl) ?_
    refine j_slen (q := 21) dL_law_20 rfl ?_
    refine j_iconst (q := 22) (v := 5) dL_law_21 rfl (by decide) ?_
    refine j_isub (q := 23) dL_law_22 rfl ?_
    refine j_icmp_gt (q := 26) (tgt := 1550) dL_law_23 rfl (by decide) (fun _ => ?_) (fun hc => absurd ((lw_cmp hL (by omega)).mpr (by omega)) hc)
    refine j_iconst (q := 1551) (v := 1) dL_law_1550 rfl (by decide) ?_
    exact j_zret hF rfl dL_law_1551 ⟨Nat.le_of_ble_eq_true rfl, Nat.le_of_ble_eq_true rfl⟩ (Or.inr rfl) rfl
  | succ n ih =>
    intro i m hn hiL h
    refine j_iload_n (q := 19) dL_law_18 rfl (by rfl) ?_
    refine j_aload_n (q := 20) dL_law_19 rfl (by rfl) ?_
    refine j_slen (q := 21) dL_law_20 rfl ?_
    refine j_iconst (q := 22) (v := 5) dL_law_21 rfl (by decide) ?_
    refine j_isub (q := 23) dL_law_22 rfl ?_
    refine j_icmp_gt (q := 26) (tgt := 1550) dL_law_23 rfl (by decide) (fun _ => ?_) (fun hc => ?_)
    · refine j_iconst (q := 1551) (v := 1) dL_law_1550 rfl (by decide) ?_
      exact j_zret hF rfl dL_law_1551 ⟨Nat.le_of_ble_eq_true rfl, Nat.le_of_ble_eq_true rfl⟩ (Or.inr rfl) rfl
    have hi5 : i + 5 ≤ gSL E := by
      have hc' : ¬ gSL E < i + 5 := fun q => hc ((lw_cmp hL (by omega)).mpr q)
      omega
    have kk : ∀ m', REL m' x t → lwJ E nm F 1544 [] σ m' hi x t i := by
      intro m' h'
      refine j_iinc (q := 1547) (v := nI (i + 5)) dL_law_1544 rfl (by rfl) (by rw [show Int32.ofInt 5 = nI 5 by decide]; exact nI_add i 5) (by decide) ?_
      refine j_goto (tgt := 18) dL_law_1547 (by decide) ?_
      exact ih (i + 5) m' (by omega) (by omega) h'
    refine j_aload_n (q := 27) dL_law_26 rfl (by rfl) ?_
    refine j_iload_n (q := 28) dL_law_27 rfl (by rfl) ?_
    refine j_arg (q := 29) (j := i) dL_law_28 rfl rfl (by omega) hL ?_
    refine j_bipush (q := 31) (v := 63) dL_law_29 rfl (by decide) ?_
    refine j_iand (q := 32) dL_law_31 rfl ?_
    rcases gSw (gXs E i &&& 63) 41 (by decide) with hsw | ⟨k, hk, hke⟩
    · exact j_tableOut (tgt := 1544) dL_law_32 hsw (by decide) (kk m h)
    · rw [hke]
      match k, hk with
      | 0, _ => exact j_tableIn (off := 184) (tgt := 216) dL_law_32 (by decide) (by decide) (by rfl) (by decide) (lw_feed hN hR h ht hi5 hL kk)
      | 1, _ => exact j_tableIn (off := 207) (tgt := 239) dL_law_32 (by decide) (by decide) (by rfl) (by decide) (lw_end hN hR h ht hi5 hL kk)
      | 2, _ => exact j_tableIn (off := 230) (tgt := 262) dL_law_32 (by decide) (by decide) (by rfl) (by decide) (lw_text hN hR h ht hi5 hL kk)
      | 3, _ => exact j_tableIn (off := 243) (tgt := 275) dL_law_32 (by decide) (by decide) (by rfl) (by decide) (lw_fault hN hR h ht hi5 hL kk)
      | 4, _ => exact j_tableIn (off := 256) (tgt := 288) dL_law_32 (by decide) (by decide) (by rfl) (by decide) (lw_rule hN hR h ht hi5 hL kk)
      | 5, _ => exact j_tableIn (off := 279) (tgt := 311) dL_law_32 (by decide) (by decide) (by rfl) (by decide) (lw_geyser hN hR h ht hi5 hL kk)
      | 6, _ => exact j_tableIn (off := 312) (tgt := 344) dL_law_32 (by decide) (by decide) (by rfl) (by decide) (lw_row hN hR h ht hi5 hL kk)
      | 7, _ => exact j_tableIn (off := 345) (tgt := 377) dL_law_32 (by decide) (by decide) (by rfl) (by decide) (lw_alter hN hR h ht hi5 hL kk)
      | 8, _ => exact j_tableIn (off := 388) (tgt := 420) dL_law_32 (by decide) (by decide) (by rfl) (by decide) (lw_tell hN hR h ht hi5 hL kk)
      | 9, _ => exact j_tableIn (off := 421) (tgt := 453) dL_law_32 (by decide) (by decide) (by rfl) (by decide) (lw_set hN hR h ht hi5 hL kk)
      | 10, _ => exact j_tableIn (off := 464) (tgt := 496) dL_law_32 (by decide) (by decide) (by rfl) (by decide) (lw_open hN hR h ht hi5 hL kk)
      | 11, _ => exact j_tableIn (off := 507) (tgt := 539) dL_law_32 (by decide) (by decide) (by rfl) (by decide) (lw_cut hN hR h ht hi5 hL kk)
      | 12, _ => exact j_tableIn (off := 530) (tgt := 562) dL_law_32 (by decide) (by decide) (by rfl) (by decide) (lw_add hN hR h ht hi5 hL kk)
      | 13, _ => exact j_tableIn (off := 563) (tgt := 595) dL_law_32 (by decide) (by decide) (by rfl) (by decide) (lw_drop hN hR h ht hi5 hL kk)
      | 14, _ => exact j_tableIn (off := 586) (tgt := 618) dL_law_32 (by decide) (by decide) (by rfl) (by decide) (lw_hours hN hR h ht hi5 hL kk)
      | 15, _ => exact j_tableIn (off := 609) (tgt := 641) dL_law_32 (by decide) (by decide) (by rfl) (by decide) (lw_runs hN hR h ht hi5 hL kk)
      | 16, _ => exact j_tableIn (off := 642) (tgt := 674) dL_law_32 (by decide) (by decide) (by rfl) (by decide) (lw_ahead hN hR h ht hi5 hL kk)
      | 17, _ => exact j_tableIn (off := 685) (tgt := 717) dL_law_32 (by decide) (by decide) (by rfl) (by decide) (lw_ups hN hR h ht hi5 hL kk)
      | 18, _ => exact j_tableIn (off := 708) (tgt := 740) dL_law_32 (by decide) (by decide) (by rfl) (by decide) (lw_when hN hR h ht hi5 hL kk)
      | 19, _ => exact j_tableIn (off := 731) (tgt := 763) dL_law_32 (by decide) (by decide) (by rfl) (by decide) (lw_again hN hR h ht hi5 hL kk)
      | 20, _ => exact j_tableIn (off := 744) (tgt := 776) dL_law_32 (by decide) (by decide) (by rfl) (by decide) (lw_whom hN hR h ht hi5 hL kk)
      | 21, _ => exact j_tableIn (off := 787) (tgt := 819) dL_law_32 (by decide) (by decide) (by rfl) (by decide) (lw_route hN hR h ht hi5 hL kk)
      | 22, _ => exact j_tableIn (off := 820) (tgt := 852) dL_law_32 (by decide) (by decide) (by rfl) (by decide) (lw_swap hN hR h ht hi5 hL kk)
      | 23, _ => exact j_tableIn (off := 853) (tgt := 885) dL_law_32 (by decide) (by decide) (by rfl) (by decide) (lw_bears hN hR h ht hi5 hL kk)
      | 24, _ => exact j_tableIn (off := 886) (tgt := 918) dL_law_32 (by decide) (by decide) (by rfl) (by decide) (lw_flow hN hR h ht hi5 hL kk)
      | 25, _ => exact j_tableIn (off := 929) (tgt := 961) dL_law_32 (by decide) (by decide) (by rfl) (by decide) (lw_kind hN hR h ht hi5 hL kk)
      | 26, _ => exact j_tableIn (off := 972) (tgt := 1004) dL_law_32 (by decide) (by decide) (by rfl) (by decide) (lw_play hN hR h ht hi5 hL kk)
      | 27, _ => exact j_tableIn (off := 1005) (tgt := 1037) dL_law_32 (by decide) (by decide) (by rfl) (by decide) (lw_luck hN hR h ht hi5 hL kk)
      | 28, _ => exact j_tableIn (off := 1059) (tgt := 1091) dL_law_32 (by decide) (by decide) (by rfl) (by decide) (lw_mean hN hR h ht hi5 hL kk)
      | 29, _ => exact j_tableIn (off := 1103) (tgt := 1135) dL_law_32 (by decide) (by decide) (by rfl) (by decide) (lw_see hN hR h ht hi5 hL kk)
      | 30, _ => exact j_tableIn (off := 1146) (tgt := 1178) dL_law_32 (by decide) (by decide) (by rfl) (by decide) (lw_forget hN hR h ht hi5 hL kk)
      | 31, _ => exact j_tableIn (off := 1169) (tgt := 1201) dL_law_32 (by decide) (by decide) (by rfl) (by decide) (lw_kinds hN hR h ht hi5 hL kk)
      | 32, _ => exact j_tableIn (off := 1192) (tgt := 1224) dL_law_32 (by decide) (by decide) (by rfl) (by decide) (lw_nerves hN hR h ht hi5 hL kk)
      | 33, _ => exact j_tableIn (off := 1215) (tgt := 1247) dL_law_32 (by decide) (by decide) (by rfl) (by decide) (lw_ask hN hR h ht hi5 hL kk)
      | 34, _ => exact j_tableIn (off := 1248) (tgt := 1280) dL_law_32 (by decide) (by decide) (by rfl) (by decide) (lw_season hN hR h ht hi5 hL kk)
      | 35, _ => exact j_tableIn (off := 1291) (tgt := 1323) dL_law_32 (by decide) (by decide) (by rfl) (by decide) (lw_keep hN hR h ht hi5 hL kk)
      | 36, _ => exact j_tableIn (off := 1314) (tgt := 1346) dL_law_32 (by decide) (by decide) (by rfl) (by decide) (lw_back hN hR h ht hi5 hL kk)
      | 37, _ => exact j_tableIn (off := 1337) (tgt := 1369) dL_law_32 (by decide) (by decide) (by rfl) (by decide) (lw_sheet hN hR h ht hi5 hL kk)
      | 38, _ => exact j_tableIn (off := 1380) (tgt := 1412) dL_law_32 (by decide) (by decide) (by rfl) (by decide) (lw_lay hN hR h ht hi5 hL kk)
      | 39, _ => exact j_tableIn (off := 1423) (tgt := 1455) dL_law_32 (by decide) (by decide) (by rfl) (by decide) (lw_read hN hR h ht hi5 hL kk)
      | 40, _ => exact j_tableIn (off := 1476) (tgt := 1508) dL_law_32 (by decide) (by decide) (by rfl) (by decide) (lw_torn hN hR h ht hi5 hL kk)
      | 41, _ => exact j_tableIn (off := 1489) (tgt := 1521) dL_law_32 (by decide) (by decide) (by rfl) (by decide) (lw_count hN hR h ht hi5 hL kk)
      | k + 42, hk => exact absurd hk (by omega)
theorem lw_entry {E : gEv} (nm : String) (m : gMem) (hL : gSL E ≤ 2560) : gJ E (yLn nm) code 4 ret room_1 (gFn E lawQ 600000 7302250) 0 (gPad 4 (gAr [.ref (gSa E)])) [] 0 0 (fun _ => none) m (gB E) := by
  generalize hF : gFn E lawQ 600000 7302250 = F
  generalize hx : gB E = x
  refine j_new (q := 3) dL_law_0 rfl qL_7 nX6 (ci := 6) rfl tyX6 tyX6_ok [oNl, oNl, oNl, oNl, oNl, oNl, oNl, oNl, oNl, oNl, oNl, none, none] (by decide) ⟨Nat.le_of_ble_eq_true rfl, Nat.le_of_ble_eq_true rfl⟩ ?_
  refine j_dup (q := 4) dL_law_3 rfl rfl ?_
  refine j_callI (q := 7) dL_law_4 rfl lL_9 mwX6_init miX6_init (As := []) (by rfl) rfl (Nat.le_of_ble_eq_true (by rfl)) ⟨⟨Nat.le_of_ble_eq_true rfl, Nat.le_of_ble_eq_true rfl⟩, Nat.le_of_ble_eq_true rfl, Nat.le_of_ble_eq_true rfl⟩ (cX_init E _ _ x (va_up_self _ _ _) (mZ_a _ _)) ?_
  rintro v σ1 m1 hi1 ⟨rfl, rfl, hf, hl⟩
  refine j_astore_n (q := 8) dL_law_7 rfl (by decide) ?_
  refine j_new (q := 11) dL_law_8 rfl qL_10 nX7 (ci := 7) rfl tyX7 tyX7_ok [oNl, oNl, none, none, oNl, none, none, none, none, none, none, none, none, oNl, oNl, none, none, none, oNl, oNl, oNl, none, oNl, none, oNl, oNl, oNl, oNl, oNl, none] (by decide) ⟨Nat.le_of_ble_eq_true rfl, Nat.le_of_ble_eq_true rfl⟩ ?_
  refine j_dup (q := 12) dL_law_11 rfl rfl ?_
  refine j_callI (q := 15) dL_law_12 rfl lL_12 mwX7_init miX7_init (As := []) (by rfl) rfl (Nat.le_of_ble_eq_true (by rfl)) ⟨⟨Nat.le_of_ble_eq_true rfl, Nat.le_of_ble_eq_true rfl⟩, Nat.le_of_ble_eq_true rfl, Nat.le_of_ble_eq_true rfl⟩ (cM_init E _ _ (x + 94) (va_up_self _ _ _) (mZ_a _ _)) ?_
  rintro v σ2 m2 hi2 ⟨rfl, rfl, hiR⟩
  have hk : gKp (x + 94) σ1 σ2 m1 m2 := (((gKp.rf (x + 94) σ1 m1).s (Nat.le_refl _) _).z (Nat.le_refl _)).tr hiR.2.2.1
  have hf2 := hf.ld hk (by omega)
  have hl2 := hl.ld hk (by omega) (Or.inr (by omega)) (Or.inr (by omega)) (Or.inr (by omega))
  have hREL := REL_new rfl hf2 hl2 hiR (iF_lt hiR)
  refine j_astore_n (q := 16) dL_law_15 rfl (by decide) ?_
  refine j_iconst (q := 17) (v := 0) dL_law_16 rfl (by decide) ?_
  refine j_istore_n (q := 18) dL_law_17 rfl (by decide) ?_
  exact gJ.cc (by rfl) (by rfl) rfl (lw_loop (nm := nm) hF.symm (gN_of hf2 hl2) (gR_of hiR) (Nat.le_refl _) hL (gSL E) 0 m2 (by omega) (by omega) hREL)
theorem fe_old {s : State} {o : Outcome} {t : State} {Lq : List Loc} {mc ms : Nat} (h : FrameEnd s o t Lq mc ms) (hq : ∀ q ∈ Lq, s.heap.size ≤ q.base) : Framed s o t [] mc ms := by
  obtain ⟨h1, h2, g1, g2, g3, g4, g5, g6⟩ := h
  refine ⟨h1, h2, g1, g2, g3, g4, g5, fun a c hc => ?_⟩
  obtain ⟨c', k1, k2, k3, k4⟩ := g6 a c hc
  refine ⟨c', k1, k2, k3, fun i _ => k4 i (fun hm => ?_)⟩
  have hlt : a < s.heap.size := (Array.getElem?_eq_some_iff.mp hc).1
  exact absurd (hq _ hm) (Nat.not_le.mpr hlt)
/-- THE LAW, from its entry -/
theorem whole_start {p : Program} {e : Env} {s : State} {m : MethodId} {below : List Frame} {meth : Method} {c : Code} (l : Launch) (hflags : l.flags = flags0) {b L : Nat} {xs : Nat → Int32} (hL : L ≤ 2560) (C0 : lw_At p s m meth c b L xs) : W p l e room_1 s m #[Value.ref b] below meth c s.heap [] 0 0 (lw_Z below #[Value.ref b] s) (entryFrame m ([Value.ref b] : List Value).toArray 4) := by
  obtain ⟨D, cA, ad, av, hK⟩ := gK_start l C0
  obtain ⟨hx, hb, hr, hml, hown, hts, hX, hbl, hlocks, hgv⟩ := C0
  have hl := lv_entry ([.ref b]) (n := 4) (Nat.le_of_ble_eq_true rfl)
  rw [lg_entry_eq]
  have K := lw_entry (E := (l, D, s.heap, cA, ad, av, b, L, xs)) meth.name (fun _ _ => 0, fun _ _ => 0) hL p e s m #[Value.ref b] below meth c ⟨hx, hb, hr, hml, hown, fun w hw => hts w (gT_in w hw), hlocks, rfl, hK⟩ s.heap [] _ ⟨Nat.le_refl _, rfl, fun q _ => rfl, fun q sh hq => by cases hq⟩ (fun q hq => by cases hq) ⟨hl.1, hl.2.1, fun i v hi => by
    have h1 := gAr_some [.ref b] 0 i v (gPad_some 4 _ i v hi)
    rw [Nat.zero_add] at h1
    exact hl.2.2 (i, v) h1⟩
  intro T hT X
  obtain ⟨t, a1, o, b1, b2, ⟨v, σ', m', hi', rfl, hv, -⟩, Lq, hFr, hfree⟩ := K T hT X
  have hv' : v = some (.int 1) := hv
  subst hv'
  exact ⟨t, a1, .returned (some (.int 1)), b1, b2, rfl, fe_old hFr hfree⟩
