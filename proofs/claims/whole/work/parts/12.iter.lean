/-! hours by the plan -/
def pl (g : Nat → Int32) : Nat → Int32 := hr g (sWat g) (sWho g)
def plU (g : Nat → Int32) : Int32 := hrU g (sWat g) (sWho g)
def plN (g : Nat → Int32) : Nat → Nat → Int32
  | 0 => g
  | n + 1 => pl (plN g n)
def okB (g : Nat → Int32) (b : Nat) : Prop := ∃ r h : Nat, g 49 = nI r ∧ r ≤ 12 ∧ g 52 = nI h ∧ h ≤ b
theorem okB.r {g : Nat → Int32} {b : Nat} (h : okB g b) (hb : b < 2 ^ 30) : okR g := by
  obtain ⟨r, h, e1, e2, e3, e4⟩ := h
  exact ⟨r, h, e1, e2, e3, by omega⟩
theorem hr_24 (g : Nat → Int32) (w c : Int32) : hr g w c 24 = g 24 := by unfold hr; rw [pk_un (by decide), hrJ_ge (by decide)]
theorem hr_49 (g : Nat → Int32) (w c : Int32) : hr g w c 49 = g 49 := by unfold hr; rw [pk_un (by decide), hrJ_ge (by decide)]
theorem hr_52 (g : Nat → Int32) (w c : Int32) : hr g w c 52 = g 52 + 1 := by unfold hr; rw [pk_us]
theorem okC.hr {g : Nat → Int32} (h : okC g) (w c : Int32) : okC (hr g w c) := by
  obtain ⟨n, e1, e2⟩ := h
  exact ⟨n, by rw [hr_24]; exact e1, e2⟩
theorem okB.hr {g : Nat → Int32} {b : Nat} (h : okB g b) (w c : Int32) : okB (hr g w c) (b + 1) := by
  obtain ⟨r, h, e1, e2, e3, e4⟩ := h
  exact ⟨r, h + 1, by rw [hr_49]; exact e1, e2, by rw [hr_52, e3]; exact nI_1 h, by omega⟩
theorem plN_C {g : Nat → Int32} (h : okC g) : ∀ n, okC (plN g n)
  | 0 => h
  | n + 1 => (plN_C h n).hr _ _
theorem plN_B {g : Nat → Int32} {b : Nat} (h : okB g b) : ∀ n, okB (plN g n) (b + n)
  | 0 => h
  | n + 1 => (plN_B h n).hr _ _
theorem plN_0 {g : Nat → Int32} (h : pg0 g) : ∀ n, pg0 (plN g n)
  | 0 => h
  | n + 1 => hr_0 (plN_0 h n) _ _
def sBc1 (x : Int32) : Int32 := x - ((x.toUInt32 >>> (Int32.toUInt32 1 &&& Int32.toUInt32 31)).toInt32 &&& 1431655765)
def sBc2 (x : Int32) : Int32 := (x &&& 858993459) + ((x.toUInt32 >>> (Int32.toUInt32 2 &&& Int32.toUInt32 31)).toInt32 &&& 858993459)
def sBc3 (x : Int32) : Int32 := (x + (x.toUInt32 >>> (Int32.toUInt32 4 &&& Int32.toUInt32 31)).toInt32) &&& 252645135
def sBc4 (x : Int32) : Int32 := x + (x.toUInt32 >>> (Int32.toUInt32 8 &&& Int32.toUInt32 31)).toInt32
def sBc5 (x : Int32) : Int32 := x + (x.toUInt32 >>> (Int32.toUInt32 16 &&& Int32.toUInt32 31)).toInt32
def sBc (x : Int32) : Int32 := sBc5 (sBc4 (sBc3 (sBc2 (sBc1 x)))) &&& 63
theorem cJ_bitCount (E : gEv) (σ : gSg) (m : gMem) (hi : Nat) (x : Int32) : gCo E yJ6_bitCount_0f7a4 cJ6_bitCount_0f7a4 1 (some .int) 0 [.int x] σ m hi (gX (some (.int (sBc x))) m) := by
  refine gCo.of mwJ6_bitCount_0f7a4 (Nat.le_of_ble_eq_true rfl) ?_
  intro F hF
  refine j_iload_n (q := 1) dJ6_bitCount_0f7a4_0 rfl (by rfl) ?_
  refine j_iload_n (q := 2) dJ6_bitCount_0f7a4_1 rfl (by rfl) ?_
  refine j_iconst (q := 3) (v := 1) dJ6_bitCount_0f7a4_2 rfl (by decide) ?_
  refine j_iushr (q := 4) dJ6_bitCount_0f7a4_3 rfl ?_
  refine j_ldcw (q := 7) dJ6_bitCount_0f7a4_4 rfl kJ6_265 ?_
  refine j_iand (q := 8) dJ6_bitCount_0f7a4_7 rfl ?_
  refine j_isub (q := 9) dJ6_bitCount_0f7a4_8 rfl ?_
  refine j_istore_n (q := 10) dJ6_bitCount_0f7a4_9 rfl (by decide) ?_
  refine j_iload_n (q := 11) dJ6_bitCount_0f7a4_10 rfl (by rfl) ?_
  refine j_ldcw (q := 14) dJ6_bitCount_0f7a4_11 rfl kJ6_266 ?_
  refine j_iand (q := 15) dJ6_bitCount_0f7a4_14 rfl ?_
  refine j_iload_n (q := 16) dJ6_bitCount_0f7a4_15 rfl (by rfl) ?_
  refine j_iconst (q := 17) (v := 2) dJ6_bitCount_0f7a4_16 rfl (by decide) ?_
  refine j_iushr (q := 18) dJ6_bitCount_0f7a4_17 rfl ?_
  refine j_ldcw (q := 21) dJ6_bitCount_0f7a4_18 rfl kJ6_266 ?_
  refine j_iand (q := 22) dJ6_bitCount_0f7a4_21 rfl ?_
  refine j_iadd (q := 23) dJ6_bitCount_0f7a4_22 rfl ?_
  refine j_istore_n (q := 24) dJ6_bitCount_0f7a4_23 rfl (by decide) ?_
  refine j_iload_n (q := 25) dJ6_bitCount_0f7a4_24 rfl (by rfl) ?_
  refine j_iload_n (q := 26) dJ6_bitCount_0f7a4_25 rfl (by rfl) ?_
  refine j_iconst (q := 27) (v := 4) dJ6_bitCount_0f7a4_26 rfl (by decide) ?_
  refine j_iushr (q := 28) dJ6_bitCount_0f7a4_27 rfl ?_
  refine j_iadd (q := 29) dJ6_bitCount_0f7a4_28 rfl ?_
  refine j_ldcw (q := 32) dJ6_bitCount_0f7a4_29 rfl kJ6_267 ?_
  refine j_iand (q := 33) dJ6_bitCount_0f7a4_32 rfl ?_
  refine j_istore_n (q := 34) dJ6_bitCount_0f7a4_33 rfl (by decide) ?_
  refine j_iload_n (q := 35) dJ6_bitCount_0f7a4_34 rfl (by rfl) ?_
  refine j_iload_n (q := 36) dJ6_bitCount_0f7a4_35 rfl (by rfl) ?_
  refine j_bipush (q := 38) (v := 8) dJ6_bitCount_0f7a4_36 rfl (by decide) ?_
  refine j_iushr (q := 39) dJ6_bitCount_0f7a4_38 rfl ?_
  refine j_iadd (q := 40) dJ6_bitCount_0f7a4_39 rfl ?_
  refine j_istore_n (q := 41) dJ6_bitCount_0f7a4_40 rfl (by decide) ?_
  refine j_iload_n (q := 42) dJ6_bitCount_0f7a4_41 rfl (by rfl) ?_
  refine j_iload_n (q := 43) dJ6_bitCount_0f7a4_42 rfl (by rfl) ?_
  refine j_bipush (q := 45) (v := 16) dJ6_bitCount_0f7a4_43 rfl (by decide) ?_
  refine j_iushr (q := 46) dJ6_bitCount_0f7a4_45 rfl ?_
  refine j_iadd (q := 47) dJ6_bitCount_0f7a4_46 rfl ?_
  refine j_istore_n (q := 48) dJ6_bitCount_0f7a4_47 rfl (by decide) ?_
  refine j_iload_n (q := 49) dJ6_bitCount_0f7a4_48 rfl (by rfl) ?_
  refine j_bipush (q := 51) (v := 63) dJ6_bitCount_0f7a4_49 rfl (by decide) ?_
  refine j_iand (q := 52) dJ6_bitCount_0f7a4_51 rfl ?_
  refine o_iret hF rfl dJ6_bitCount_0f7a4_52 ?_
  exact ⟨rfl, rfl⟩
def sBit (u v : Int32) : Int32 := (u.toUInt32 >>> (v.toUInt32 &&& Int32.toUInt32 31)).toInt32 &&& 1
theorem cX_bit (E : gEv) (σ : gSg) (m : gMem) (hi : Nat) (x z : Int32) : gCo E yX6_bit cX6_bit 2 (some .int) 0 [.int x, .int z] σ m hi (gX (some (.int (sBit x z))) m) := by
  refine gCo.of mwX6_bit (Nat.le_of_ble_eq_true rfl) ?_
  intro F hF
  refine j_iload_n (q := 1) dX6_bit_0 rfl (by rfl) ?_
  refine j_iload_n (q := 2) dX6_bit_1 rfl (by rfl) ?_
  refine j_iushr (q := 3) dX6_bit_2 rfl ?_
  refine j_iconst (q := 4) (v := 1) dX6_bit_3 rfl (by decide) ?_
  refine j_iand (q := 5) dX6_bit_4 rfl ?_
  refine o_iret hF rfl dX6_bit_5 ?_
  exact ⟨rfl, rfl⟩
/-- a walk by the plan, on a page that is the n-th -/
theorem cG_plan (E : gEv) (σ : gSg) (m : gMem) (hi a n b : Nat) (g : Nat → Int32) (hG : gG σ a) (h0 : pg0 g) (hc : okC g) (hr : okB g b) (hb : b + n < 2 ^ 30) : gCo E yX0_passByPlan cX0_passByPlan 1 (some .int) 3 [.ref a] σ (gP m a (plN g n)) hi (gX (some (.int (plU (plN g n)))) (gP m a (plN g (n + 1)))) := by
  have h := cG_passByPlan E σ (gP m a (plN g n)) hi a hG (by rw [pgC_gP (plN_0 h0 n)]; exact plN_C hc n) (by rw [pgC_gP (plN_0 h0 n)]; exact (plN_B hr n).r hb)
  rw [pgC_gP (plN_0 h0 n), gP_gP] at h
  exact h
def upsN (g : Nat → Int32) : Nat → Int32
  | 0 => 0
  | n + 1 => upsN g n + sBc (plU (plN g n))
def upsV (g : Nat → Int32) (v : Int32) : Nat → Int32
  | 0 => 0
  | n + 1 => upsV g v n + sBit (plU (plN g n)) v
theorem cG_upsOfAll (E : gEv) (σ : gSg) (m : gMem) (hi a n b : Nat) (hG : gG σ a) (hc : okC (pgC m a)) (hr : okB (pgC m a) b) (hb : b + n < 2 ^ 30) : gCo E yX0_upsOfAll cX0_upsOfAll 4 (some .int) 4 [.ref a, .int (nI n)] σ m hi (gX (some (.int (upsN (pgC m a) n))) (gP m a (plN (pgC m a) n))) := by
  refine gCo.of mwX0_upsOfAll (Nat.le_of_ble_eq_true rfl) ?_
  intro F hF
  have hs := hG.1
  have K4 : ∀ k i : Nat, i + k = n → (gJ E yX0_upsOfAll cX0_upsOfAll 4 (some .int) (gRm 4 0 0) F 4 ([some (.ref a), some (.int (nI n)), some (.int (upsN (pgC m a) i)), some (.int (nI i))]) ([]) 0 0 σ (gP m a (plN (pgC m a) i)) hi) := by
    intro k
    induction k with
    | zero =>
      intro i hi'
      have hin : i = n := by omega
      subst hin
      refine j_iload_n (q := 5) dX0_upsOfAll_4 rfl (by rfl) ?_
      refine j_iload_n (q := 6) dX0_upsOfAll_5 rfl (by rfl) ?_
      refine j_icmp_ge (q := 9) (tgt := 25) dX0_upsOfAll_6 rfl (by decide) (fun h6 => ?_) (fun h6 => ?_)
      · refine j_iload_n (q := 26) dX0_upsOfAll_25 rfl (by rfl) ?_
        refine o_iret hF rfl dX0_upsOfAll_26 ?_
        exact ⟨rfl, rfl⟩
      · exact absurd (Int32.le_refl _) h6
    | succ k ih =>
      intro i hi'
      refine j_iload_n (q := 5) dX0_upsOfAll_4 rfl (by rfl) ?_
      refine j_iload_n (q := 6) dX0_upsOfAll_5 rfl (by rfl) ?_
      refine j_icmp_ge (q := 9) (tgt := 25) dX0_upsOfAll_6 rfl (by decide) (fun h6 => ?_) (fun h6 => ?_)
      · exact absurd h6 (nI_ge (by omega) (by omega))
      · refine j_iload_n (q := 10) dX0_upsOfAll_9 rfl (by rfl) ?_
        refine j_aload_n (q := 11) dX0_upsOfAll_10 rfl (by rfl) ?_
        refine o_callVi (q := 14) dX0_upsOfAll_11 rfl lX0_77 mwX0_passByPlan mvX0_passByPlan cn0 (by assumption) (by rfl) rfl (Nat.le_of_ble_eq_true (by rfl)) (by decide) (cG_plan E σ m hi a i b (pgC m a) hG (pgC_0 m a) hc hr (by omega)) ?_
        refine o_callSi (q := 17) dX0_upsOfAll_14 rfl lX0_80 mwJ6_bitCount_0f7a4 msJ6_bitCount_0f7a4 (by rfl) rfl (Nat.le_of_ble_eq_true (by rfl)) (by decide) (cJ_bitCount E σ _ hi _) ?_
        refine j_iadd (q := 18) dX0_upsOfAll_17 rfl ?_
        refine j_istore_n (q := 19) dX0_upsOfAll_18 rfl (by decide) ?_
        refine j_iinc (q := 22) dX0_upsOfAll_19 rfl (by rfl) (by first | exact nI_inc _ | rfl) (by decide) ?_
        refine j_goto (tgt := 4) dX0_upsOfAll_22 (by decide) ?_
        exact ih (i + 1) (by omega)
  refine j_iconst (q := 1) (v := 0) dX0_upsOfAll_0 rfl (by decide) ?_
  refine j_istore_n (q := 2) dX0_upsOfAll_1 rfl (by decide) ?_
  refine j_iconst (q := 3) (v := 0) dX0_upsOfAll_2 rfl (by decide) ?_
  refine j_istore_n (q := 4) dX0_upsOfAll_3 rfl (by decide) ?_
  refine gJ.mm ?_ (K4 n 0 (by omega))
  exact (gP_pgC m a).symm
theorem cG_upsOf (E : gEv) (σ : gSg) (m : gMem) (hi a n b : Nat) (v : Int32) (hG : gG σ a) (hc : okC (pgC m a)) (hr : okB (pgC m a) b) (hb : b + n < 2 ^ 30) : gCo E yX0_upsOf cX0_upsOf 5 (some .int) 4 [.ref a, .int v, .int (nI n)] σ m hi (gX (some (.int (upsV (pgC m a) v n))) (gP m a (plN (pgC m a) n))) := by
  refine gCo.of mwX0_upsOf (Nat.le_of_ble_eq_true rfl) ?_
  intro F hF
  have hs := hG.1
  have K5 : ∀ k i : Nat, i + k = n → (gJ E yX0_upsOf cX0_upsOf 5 (some .int) (gRm 4 0 0) F 5 ([some (.ref a), some (.int v), some (.int (nI n)), some (.int (upsV (pgC m a) v i)), some (.int (nI i))]) ([]) 0 0 σ (gP m a (plN (pgC m a) i)) hi) := by
    intro k
    induction k with
    | zero =>
      intro i hi'
      have hin : i = n := by omega
      subst hin
      refine j_iload (q := 7) dX0_upsOf_5 rfl (by rfl) ?_
      refine j_iload_n (q := 8) dX0_upsOf_7 rfl (by rfl) ?_
      refine j_icmp_ge (q := 11) (tgt := 28) dX0_upsOf_8 rfl (by decide) (fun h8 => ?_) (fun h8 => ?_)
      · refine j_iload_n (q := 29) dX0_upsOf_28 rfl (by rfl) ?_
        refine o_iret hF rfl dX0_upsOf_29 ?_
        exact ⟨rfl, rfl⟩
      · exact absurd (Int32.le_refl _) h8
    | succ k ih =>
      intro i hi'
      refine j_iload (q := 7) dX0_upsOf_5 rfl (by rfl) ?_
      refine j_iload_n (q := 8) dX0_upsOf_7 rfl (by rfl) ?_
      refine j_icmp_ge (q := 11) (tgt := 28) dX0_upsOf_8 rfl (by decide) (fun h8 => ?_) (fun h8 => ?_)
      · exact absurd h8 (nI_ge (by omega) (by omega))
      · refine j_iload_n (q := 12) dX0_upsOf_11 rfl (by rfl) ?_
        refine j_aload_n (q := 13) dX0_upsOf_12 rfl (by rfl) ?_
        refine o_callVi (q := 16) dX0_upsOf_13 rfl lX0_77 mwX0_passByPlan mvX0_passByPlan cn0 (by assumption) (by rfl) rfl (Nat.le_of_ble_eq_true (by rfl)) (by decide) (cG_plan E σ m hi a i b (pgC m a) hG (pgC_0 m a) hc hr (by omega)) ?_
        refine j_iload_n (q := 17) dX0_upsOf_16 rfl (by rfl) ?_
        refine o_callSNi (q := 20) dX0_upsOf_17 rfl lX0_85 mwX6_bit msX6_bit (by rfl) rfl (Nat.le_of_ble_eq_true (by rfl)) (by decide) (cX_bit E σ _ hi _ _) ?_
        refine j_iadd (q := 21) dX0_upsOf_20 rfl ?_
        refine j_istore_n (q := 22) dX0_upsOf_21 rfl (by decide) ?_
        refine j_iinc (q := 25) dX0_upsOf_22 rfl (by rfl) (by first | exact nI_inc _ | rfl) (by decide) ?_
        refine j_goto (tgt := 5) dX0_upsOf_25 (by decide) ?_
        exact ih (i + 1) (by omega)
  refine j_iconst (q := 1) (v := 0) dX0_upsOf_0 rfl (by decide) ?_
  refine j_istore_n (q := 2) dX0_upsOf_1 rfl (by decide) ?_
  refine j_iconst (q := 3) (v := 0) dX0_upsOf_2 rfl (by decide) ?_
  refine j_istore (q := 5) dX0_upsOf_3 rfl (by decide) ?_
  refine gJ.mm ?_ (K5 n 0 (by omega))
  exact (gP_pgC m a).symm
def gHj (g : Nat → Int32) : Nat → Int32
  | 0 => 0
  | j + 1 => sMax (gHj g j) (g (12 + j))
def gHt (g : Nat → Int32) : Int32 := gHj g (cnt g)
theorem cG_greatestHeat (E : gEv) (σ : gSg) (m : gMem) (hi a : Nat) (hG : gG σ a) (hok : okC (pgC m a)) : gCo E yX0_greatestHeat cX0_greatestHeat 3 (some .int) 1 [.ref a] σ m hi (gX (some (.int (gHt (pgC m a)))) m) := by
  refine gCo.of mwX0_greatestHeat (Nat.le_of_ble_eq_true rfl) ?_
  intro F hF
  obtain ⟨h0, ⟨fv, h1, hfv⟩, h2, h3, hv⟩ := hG
  obtain ⟨c, hc, hc4⟩ := hok
  have hcn : cnt (pgC m a) = c := by unfold cnt; rw [hc]; exact nI_clamp (by omega)
  have K4 : ∀ n j : Nat, j + n = c → (gJ E yX0_greatestHeat cX0_greatestHeat 3 (some .int) (gRm 1 0 0) F 4 ([some (.ref a), some (.int (gHj (pgC m a) j)), some (.int (nI j))]) ([]) 0 0 σ (m) hi) := by
    intro n
    induction n with
    | zero =>
      intro j hj
      have hjc : j = c := by omega
      subst hjc
      refine j_iload_n (q := 5) dX0_greatestHeat_4 rfl (by rfl) ?_
      refine j_aload_n (q := 6) dX0_greatestHeat_5 rfl (by rfl) ?_
      refine j_geti (q := 9) dX0_greatestHeat_6 rfl fX0_32 (by assumption) (by rfl) ?_
      rw [pg_3, hc]
      refine j_icmp_ge (q := 12) (tgt := 32) dX0_greatestHeat_9 rfl (by decide) (fun h9 => ?_) (fun h9 => ?_)
      · refine j_iload_n (q := 33) dX0_greatestHeat_32 rfl (by rfl) ?_
        refine o_iret hF rfl dX0_greatestHeat_33 ?_
        exact ⟨by rw [gHt, hcn], rfl⟩
      · exact absurd (Int32.le_refl _) h9
    | succ n ih =>
      intro j hj
      have hj4 : j < 4 := by omega
      have hix : gIdx (nI j) 4 j := gIdx.of rfl hj4 (by decide)
      have hfj := hfv j hj4
      have hvj := hv j hj4
      refine j_iload_n (q := 5) dX0_greatestHeat_4 rfl (by rfl) ?_
      refine j_aload_n (q := 6) dX0_greatestHeat_5 rfl (by rfl) ?_
      refine j_geti (q := 9) dX0_greatestHeat_6 rfl fX0_32 (by assumption) (by rfl) ?_
      rw [pg_3, hc]
      refine j_icmp_ge (q := 12) (tgt := 32) dX0_greatestHeat_9 rfl (by decide) (fun h9 => ?_) (fun h9 => ?_)
      · exact absurd h9 (nI_ge (by omega) (by omega))
      · refine j_iload_n (q := 13) dX0_greatestHeat_12 rfl (by rfl) ?_
        refine j_aload_n (q := 14) dX0_greatestHeat_13 rfl (by rfl) ?_
        refine j_getr (q := 17) dX0_greatestHeat_14 rfl fX0_11 (by assumption) (by rfl) ?_
        refine j_iload_n (q := 18) dX0_greatestHeat_17 rfl (by rfl) ?_
        refine j_aaload (q := 19) dX0_greatestHeat_18 rfl (by assumption) (by decide) (by assumption) (by assumption) ?_
        refine j_geti (q := 22) dX0_greatestHeat_19 rfl fX0_99 (by assumption) (by rfl) ?_
        refine j_mmax (q := 25) dX0_greatestHeat_22 rfl lX0_91 ⟨⟨by decide, Nat.le_of_ble_eq_true (by rfl)⟩, by decide, by decide⟩ ?_
        refine j_istore_n (q := 26) dX0_greatestHeat_25 rfl (by decide) ?_
        refine j_iinc (q := 29) dX0_greatestHeat_26 rfl (by rfl) (by first | exact nI_inc _ | rfl) (by decide) ?_
        refine j_goto (tgt := 4) dX0_greatestHeat_29 (by decide) ?_
        rw [pg_v m a hj4 (by decide)]
        exact ih (j + 1) (by omega)
  refine j_iconst (q := 1) (v := 0) dX0_greatestHeat_0 rfl (by decide) ?_
  refine j_istore_n (q := 2) dX0_greatestHeat_1 rfl (by decide) ?_
  refine j_iconst (q := 3) (v := 0) dX0_greatestHeat_2 rfl (by decide) ?_
  refine j_istore_n (q := 4) dX0_greatestHeat_3 rfl (by decide) ?_
  exact K4 c 0 (by omega)
def sumJ (g : Nat → Int32) (k : Nat) : Nat → Int32
  | 0 => 0
  | j + 1 => sumJ g k j + g (4 * k + j)
def sumP (g : Nat → Int32) (k : Nat) : Int32 := sumJ g k (cnt g)
theorem cG_sumOf (E : gEv) (σ : gSg) (m : gMem) (hi a k : Nat) (hk : k < 6) (hG : gG σ a) (hok : okC (pgC m a)) : gCo E yX0_sumOf cX0_sumOf 4 (some .int) 1 [.ref a, .int (nI k)] σ m hi (gX (some (.int (sumP (pgC m a) k))) m) := by
  refine gCo.of mwX0_sumOf (Nat.le_of_ble_eq_true rfl) ?_
  intro F hF
  obtain ⟨h0, ⟨fv, h1, hfv⟩, h2, h3, hv⟩ := hG
  obtain ⟨c, hc, hc4⟩ := hok
  have hcn : cnt (pgC m a) = c := by unfold cnt; rw [hc]; exact nI_clamp (by omega)
  have K4 : ∀ n j : Nat, j + n = c → (gJ E yX0_sumOf cX0_sumOf 4 (some .int) (gRm 1 0 0) F 4 ([some (.ref a), some (.int (nI k)), some (.int (sumJ (pgC m a) k j)), some (.int (nI j))]) ([]) 0 0 σ (m) hi) := by
    intro n
    induction n with
    | zero =>
      intro j hj
      have hjc : j = c := by omega
      subst hjc
      refine j_iload_n (q := 5) dX0_sumOf_4 rfl (by rfl) ?_
      refine j_aload_n (q := 6) dX0_sumOf_5 rfl (by rfl) ?_
      refine j_geti (q := 9) dX0_sumOf_6 rfl fX0_32 (by assumption) (by rfl) ?_
      rw [pg_3, hc]
      refine j_icmp_ge (q := 12) (tgt := 31) dX0_sumOf_9 rfl (by decide) (fun h9 => ?_) (fun h9 => ?_)
      · refine j_iload_n (q := 32) dX0_sumOf_31 rfl (by rfl) ?_
        refine o_iret hF rfl dX0_sumOf_32 ?_
        exact ⟨by rw [sumP, hcn], rfl⟩
      · exact absurd (Int32.le_refl _) h9
    | succ n ih =>
      intro j hj
      have hj4 : j < 4 := by omega
      have hix : gIdx (nI j) 4 j := gIdx.of rfl hj4 (by decide)
      have hfj := hfv j hj4
      have hvj := hv j hj4
      refine j_iload_n (q := 5) dX0_sumOf_4 rfl (by rfl) ?_
      refine j_aload_n (q := 6) dX0_sumOf_5 rfl (by rfl) ?_
      refine j_geti (q := 9) dX0_sumOf_6 rfl fX0_32 (by assumption) (by rfl) ?_
      rw [pg_3, hc]
      refine j_icmp_ge (q := 12) (tgt := 31) dX0_sumOf_9 rfl (by decide) (fun h9 => ?_) (fun h9 => ?_)
      · exact absurd h9 (nI_ge (by omega) (by omega))
      · refine j_iload_n (q := 13) dX0_sumOf_12 rfl (by rfl) ?_
        refine j_aload_n (q := 14) dX0_sumOf_13 rfl (by rfl) ?_
        refine j_getr (q := 17) dX0_sumOf_14 rfl fX0_11 (by assumption) (by rfl) ?_
        refine j_iload_n (q := 18) dX0_sumOf_17 rfl (by rfl) ?_
        refine j_aaload (q := 19) dX0_sumOf_18 rfl (by assumption) (by decide) (by assumption) (by assumption) ?_
        refine j_iload_n (q := 20) dX0_sumOf_19 rfl (by rfl) ?_
        refine o_callVi (q := 23) dX0_sumOf_20 rfl lX0_105 mwX5_part mvX5_part cn5 (by assumption) (by rfl) rfl (Nat.le_of_ble_eq_true (by rfl)) (by decide) (cV_part E σ m hi (a + 4 + j) k hk hvj) ?_
        refine j_iadd (q := 24) dX0_sumOf_23 rfl ?_
        refine j_istore_n (q := 25) dX0_sumOf_24 rfl (by decide) ?_
        refine j_iinc (q := 28) dX0_sumOf_25 rfl (by rfl) (by first | exact nI_inc _ | rfl) (by decide) ?_
        refine j_goto (tgt := 4) dX0_sumOf_28 (by decide) ?_
        rw [pg_v m a hj4 hk]
        exact ih (j + 1) (by omega)
  refine j_iconst (q := 1) (v := 0) dX0_sumOf_0 rfl (by decide) ?_
  refine j_istore_n (q := 2) dX0_sumOf_1 rfl (by decide) ?_
  refine j_iconst (q := 3) (v := 0) dX0_sumOf_2 rfl (by decide) ?_
  refine j_istore_n (q := 4) dX0_sumOf_3 rfl (by decide) ?_
  exact K4 c 0 (by omega)
def sumW (g : Nat → Int32) : Nat → Int32
  | 0 => 0
  | j + 1 => sumW g j + g (25 + j)
theorem cG_sumOfWatchers (E : gEv) (σ : gSg) (m : gMem) (hi a r : Nat) (hG : gG σ a) (hr : pgC m a 49 = nI r) (hr12 : r ≤ 12) : gCo E yX0_sumOfWatchers cX0_sumOfWatchers 3 (some .int) 0 [.ref a] σ m hi (gX (some (.int (sumW (pgC m a) r))) m) := by
  refine gCo.of mwX0_sumOfWatchers (Nat.le_of_ble_eq_true rfl) ?_
  intro F hF
  obtain ⟨h0, ⟨fv, h1, hfv⟩, h2, h3, hv⟩ := hG
  have K4 : ∀ n j : Nat, j + n = r → (gJ E yX0_sumOfWatchers cX0_sumOfWatchers 3 (some .int) (gRm 0 0 0) F 4 ([some (.ref a), some (.int (sumW (pgC m a) j)), some (.int (nI j))]) ([]) 0 0 σ (m) hi) := by
    intro n
    induction n with
    | zero =>
      intro j hj
      have hjc : j = r := by omega
      subst hjc
      refine j_iload_n (q := 5) dX0_sumOfWatchers_4 rfl (by rfl) ?_
      refine j_aload_n (q := 6) dX0_sumOfWatchers_5 rfl (by rfl) ?_
      refine j_geti (q := 9) dX0_sumOfWatchers_6 rfl fX0_35 (by assumption) (by rfl) ?_
      rw [pg_4, hr]
      refine j_icmp_ge (q := 12) (tgt := 27) dX0_sumOfWatchers_9 rfl (by decide) (fun h9 => ?_) (fun h9 => ?_)
      · refine j_iload_n (q := 28) dX0_sumOfWatchers_27 rfl (by rfl) ?_
        refine o_iret hF rfl dX0_sumOfWatchers_28 ?_
        exact ⟨rfl, rfl⟩
      · exact absurd (Int32.le_refl _) h9
    | succ n ih =>
      intro j hj
      have hj4 : j < 12 := by omega
      have hix : gIdx (nI j) 12 j := gIdx.of rfl hj4 (by decide)
      refine j_iload_n (q := 5) dX0_sumOfWatchers_4 rfl (by rfl) ?_
      refine j_aload_n (q := 6) dX0_sumOfWatchers_5 rfl (by rfl) ?_
      refine j_geti (q := 9) dX0_sumOfWatchers_6 rfl fX0_35 (by assumption) (by rfl) ?_
      rw [pg_4, hr]
      refine j_icmp_ge (q := 12) (tgt := 27) dX0_sumOfWatchers_9 rfl (by decide) (fun h9 => ?_) (fun h9 => ?_)
      · exact absurd h9 (nI_ge (by omega) (by omega))
      · refine j_iload_n (q := 13) dX0_sumOfWatchers_12 rfl (by rfl) ?_
        refine j_aload_n (q := 14) dX0_sumOfWatchers_13 rfl (by rfl) ?_
        refine j_getr (q := 17) dX0_sumOfWatchers_14 rfl fX0_17 (by assumption) (by rfl) ?_
        refine j_iload_n (q := 18) dX0_sumOfWatchers_17 rfl (by rfl) ?_
        refine j_iaload (q := 19) dX0_sumOfWatchers_18 rfl (by assumption) (by assumption) ?_
        refine j_iadd (q := 20) dX0_sumOfWatchers_19 rfl ?_
        refine j_istore_n (q := 21) dX0_sumOfWatchers_20 rfl (by decide) ?_
        refine j_iinc (q := 24) dX0_sumOfWatchers_21 rfl (by rfl) (by first | exact nI_inc _ | rfl) (by decide) ?_
        refine j_goto (tgt := 4) dX0_sumOfWatchers_24 (by decide) ?_
        rw [pg_w m a hj4]
        exact ih (j + 1) (by omega)
  refine j_iconst (q := 1) (v := 0) dX0_sumOfWatchers_0 rfl (by decide) ?_
  refine j_istore_n (q := 2) dX0_sumOfWatchers_1 rfl (by decide) ?_
  refine j_iconst (q := 3) (v := 0) dX0_sumOfWatchers_2 rfl (by decide) ?_
  refine j_istore_n (q := 4) dX0_sumOfWatchers_3 rfl (by decide) ?_
  exact K4 r 0 (by omega)
def pleN (g : Nat → Int32) : Nat → Int32
  | 0 => 0
  | n + 1 => if plU (plN g n) = 0 then pleN g n else pleN g n + sWat (plN g n)
def vaiN (g : Nat → Int32) : Nat → Int32
  | 0 => 0
  | n + 1 => if plU (plN g n) = 0 then vaiN g n + sWat (plN g n) else vaiN g n
def hotN (g : Nat → Int32) : Nat → Int32
  | 0 => gHt g
  | n + 1 => sMax (hotN g n) (gHt (plN g (n + 1)))
def talN (g : Nat → Int32) (n k : Nat) : Int32 := match k with
  | 0 => upsN g n
  | 1 => pleN g n
  | 2 => vaiN g n
  | 3 => sumP (plN g n) 4
  | _ => hotN g n
theorem cG_tally (E : gEv) (σ : gSg) (m : gMem) (hi a n b k : Nat) (hk : k < 5) (hG : gG σ a) (hc : okC (pgC m a)) (hr : okB (pgC m a) b) (hb : b + n < 2 ^ 30) : gCo E yX0_tally cX0_tally 10 (some .int) 4 [.ref a, .int (nI n), .int (nI k)] σ m hi (gX (some (.int (talN (pgC m a) n k))) (gP m a (plN (pgC m a) n))) := by
  refine gCo.of mwX0_tally (Nat.le_of_ble_eq_true rfl) ?_
  intro F hF
  have hs := hG.1
  have ep : ∀ i, pgC (gP m a (plN (pgC m a) i)) a = plN (pgC m a) i := fun i => pgC_gP (plN_0 (pgC_0 m a) i) m a
  have hH : ∀ i, gCo E yX0_greatestHeat cX0_greatestHeat 3 (some .int) 1 [.ref a] σ (gP m a (plN (pgC m a) i)) hi (gX (some (.int (gHt (plN (pgC m a) i)))) (gP m a (plN (pgC m a) i))) := by
    intro i
    have h := cG_greatestHeat E σ (gP m a (plN (pgC m a) i)) hi a hG (by rw [ep]; exact plN_C hc i)
    rw [ep] at h
    exact h
  have hWt : ∀ i, i ≤ n → gCo E yX0_watchersNow cX0_watchersNow 2 (some .int) 1 [.ref a] σ (gP m a (plN (pgC m a) i)) hi (gX (some (.int (sWat (plN (pgC m a) i)))) (gP m a (plN (pgC m a) i))) := by
    intro i hin
    have h := cG_watchersNow E σ (gP m a (plN (pgC m a) i)) hi a hG (by rw [ep]; exact (plN_B hr i).r (by omega))
    rw [ep] at h
    exact h
  have hSu : gCo E yX0_sumOf cX0_sumOf 4 (some .int) 1 [.ref a, .int (nI 4)] σ (gP m a (plN (pgC m a) n)) hi (gX (some (.int (sumP (plN (pgC m a) n) 4))) (gP m a (plN (pgC m a) n))) := by
    have h := cG_sumOf E σ (gP m a (plN (pgC m a) n)) hi a 4 (by decide) hG (by rw [ep]; exact plN_C hc n)
    rw [ep] at h
    exact h
  have K17 : ∀ (k2 i : Nat) (o8 o9 : Option Value), i + k2 = n → (gJ E yX0_tally cX0_tally 10 (some .int) (gRm 4 0 0) F 17 ([some (.ref a), some (.int (nI n)), some (.int (nI k)), some (.int (upsN (pgC m a) i)), some (.int (pleN (pgC m a) i)), some (.int (vaiN (pgC m a) i)), some (.int (hotN (pgC m a) i)), some (.int (nI i)), o8, o9]) ([]) 0 0 σ (gP m a (plN (pgC m a) i)) hi) := by
    intro k2
    induction k2 with
    | zero =>
      intro i o8 o9 hi'
      have hin : i = n := by omega
      subst hin
      refine j_iload (q := 19) dX0_tally_17 rfl (by rfl) ?_
      refine j_iload_n (q := 20) dX0_tally_19 rfl (by rfl) ?_
      refine j_icmp_ge (q := 23) (tgt := 82) dX0_tally_20 rfl (by decide) (fun h20 => ?_) (fun h20 => ?_)
      · refine j_iload_n (q := 83) dX0_tally_82 rfl (by rfl) ?_
        match k, hk with
        | 0, _ =>
          refine j_tableIn (off := 29) (tgt := 112) dX0_tally_83 (by decide) (by decide) (by rfl) (by decide) ?_
          refine j_iload_n (q := 113) dX0_tally_112 rfl (by rfl) ?_
          refine o_iret hF rfl dX0_tally_113 ?_
          exact ⟨rfl, rfl⟩
        | 1, _ =>
          refine j_tableIn (off := 31) (tgt := 114) dX0_tally_83 (by decide) (by decide) (by rfl) (by decide) ?_
          refine j_iload (q := 116) dX0_tally_114 rfl (by rfl) ?_
          refine o_iret hF rfl dX0_tally_116 ?_
          exact ⟨rfl, rfl⟩
        | 2, _ =>
          refine j_tableIn (off := 34) (tgt := 117) dX0_tally_83 (by decide) (by decide) (by rfl) (by decide) ?_
          refine j_iload (q := 119) dX0_tally_117 rfl (by rfl) ?_
          refine o_iret hF rfl dX0_tally_119 ?_
          exact ⟨rfl, rfl⟩
        | 3, _ =>
          refine j_tableIn (off := 37) (tgt := 120) dX0_tally_83 (by decide) (by decide) (by rfl) (by decide) ?_
          refine j_aload_n (q := 121) dX0_tally_120 rfl (by rfl) ?_
          refine j_iconst (q := 122) (v := 4) dX0_tally_121 rfl (by decide) ?_
          refine o_callVi (q := 125) dX0_tally_122 rfl lX0_96 mwX0_sumOf mvX0_sumOf cn0 (by assumption) (by rfl) rfl (Nat.le_of_ble_eq_true (by rfl)) (by decide) (hSu) ?_
          refine o_iret hF rfl dX0_tally_125 ?_
          exact ⟨rfl, rfl⟩
        | 4, _ =>
          refine j_tableOut (tgt := 126) dX0_tally_83 (by decide) (by decide) ?_
          refine j_iload (q := 128) dX0_tally_126 rfl (by rfl) ?_
          refine o_iret hF rfl dX0_tally_128 ?_
          exact ⟨rfl, rfl⟩
        | k + 5, h => exact absurd h (by omega)
      · exact absurd (Int32.le_refl _) h20
    | succ k2 ih =>
      intro i o8 o9 hi'
      refine j_iload (q := 19) dX0_tally_17 rfl (by rfl) ?_
      refine j_iload_n (q := 20) dX0_tally_19 rfl (by rfl) ?_
      refine j_icmp_ge (q := 23) (tgt := 82) dX0_tally_20 rfl (by decide) (fun h20 => ?_) (fun h20 => ?_)
      · exact absurd h20 (nI_ge (by omega) (by omega))
      · have K65 : ∀ x4 x5 : Int32, x4 = pleN (pgC m a) (i + 1) → x5 = vaiN (pgC m a) (i + 1) → (gJ E yX0_tally cX0_tally 10 (some .int) (gRm 4 0 0) F 65 ([some (.ref a), some (.int (nI n)), some (.int (nI k)), some (.int (upsN (pgC m a) (i + 1))), some (.int x4), some (.int x5), some (.int (hotN (pgC m a) i)), some (.int (nI i)), some (.int (sWat (plN (pgC m a) i))), some (.int (plU (plN (pgC m a) i)))]) ([]) 0 0 σ (gP m a (plN (pgC m a) (i + 1))) hi) := by
          intro x4 x5 e4 e5
          subst e4
          subst e5
          refine j_iload (q := 67) dX0_tally_65 rfl (by rfl) ?_
          refine j_aload_n (q := 68) dX0_tally_67 rfl (by rfl) ?_
          refine o_callVi (q := 71) dX0_tally_68 rfl lX0_88 mwX0_greatestHeat mvX0_greatestHeat cn0 (by assumption) (by rfl) rfl (Nat.le_of_ble_eq_true (by rfl)) (by decide) (hH (i + 1)) ?_
          refine j_mmax (q := 74) dX0_tally_71 rfl lX0_91 ⟨⟨by decide, Nat.le_of_ble_eq_true (by rfl)⟩, by decide, by decide⟩ ?_
          refine j_istore (q := 76) dX0_tally_74 rfl (by decide) ?_
          refine j_iinc (q := 79) dX0_tally_76 rfl (by rfl) (by first | exact nI_inc _ | rfl) (by decide) ?_
          refine j_goto (tgt := 17) dX0_tally_79 (by decide) ?_
          exact ih (i + 1) _ _ (by omega)
        refine j_aload_n (q := 24) dX0_tally_23 rfl (by rfl) ?_
        refine o_callVi (q := 27) dX0_tally_24 rfl lX0_68 mwX0_watchersNow mvX0_watchersNow cn0 (by assumption) (by rfl) rfl (Nat.le_of_ble_eq_true (by rfl)) (by decide) (hWt i (by omega)) ?_
        refine j_istore (q := 29) dX0_tally_27 rfl (by decide) ?_
        refine j_aload_n (q := 30) dX0_tally_29 rfl (by rfl) ?_
        refine o_callVi (q := 33) dX0_tally_30 rfl lX0_77 mwX0_passByPlan mvX0_passByPlan cn0 (by assumption) (by rfl) rfl (Nat.le_of_ble_eq_true (by rfl)) (by decide) (cG_plan E σ m hi a i b (pgC m a) hG (pgC_0 m a) hc hr (by omega)) ?_
        refine j_istore (q := 35) dX0_tally_33 rfl (by decide) ?_
        refine j_iload_n (q := 36) dX0_tally_35 rfl (by rfl) ?_
        refine j_iload (q := 38) dX0_tally_36 rfl (by rfl) ?_
        refine o_callSi (q := 41) dX0_tally_38 rfl lX0_80 mwJ6_bitCount_0f7a4 msJ6_bitCount_0f7a4 (by rfl) rfl (Nat.le_of_ble_eq_true (by rfl)) (by decide) (cJ_bitCount E σ _ hi _) ?_
        refine j_iadd (q := 42) dX0_tally_41 rfl ?_
        refine j_istore_n (q := 43) dX0_tally_42 rfl (by decide) ?_
        refine j_iload (q := 45) dX0_tally_43 rfl (by rfl) ?_
        refine j_if_eq (q := 48) (tgt := 58) dX0_tally_45 rfl (by decide) (fun h45 => ?_) (fun h45 => ?_)
        · refine j_iload (q := 60) dX0_tally_58 rfl (by rfl) ?_
          refine j_iload (q := 62) dX0_tally_60 rfl (by rfl) ?_
          refine j_iadd (q := 63) dX0_tally_62 rfl ?_
          refine j_istore (q := 65) dX0_tally_63 rfl (by decide) ?_
          exact K65 _ _ (by rw [pleN, if_pos h45]) (by rw [vaiN, if_pos h45])
        · refine j_iload (q := 50) dX0_tally_48 rfl (by rfl) ?_
          refine j_iload (q := 52) dX0_tally_50 rfl (by rfl) ?_
          refine j_iadd (q := 53) dX0_tally_52 rfl ?_
          refine j_istore (q := 55) dX0_tally_53 rfl (by decide) ?_
          refine j_goto (tgt := 65) dX0_tally_55 (by decide) ?_
          exact K65 _ _ (by rw [pleN, if_neg h45]) (by rw [vaiN, if_neg h45])
  refine j_iconst (q := 1) (v := 0) dX0_tally_0 rfl (by decide) ?_
  refine j_istore_n (q := 2) dX0_tally_1 rfl (by decide) ?_
  refine j_iconst (q := 3) (v := 0) dX0_tally_2 rfl (by decide) ?_
  refine j_istore (q := 5) dX0_tally_3 rfl (by decide) ?_
  refine j_iconst (q := 6) (v := 0) dX0_tally_5 rfl (by decide) ?_
  refine j_istore (q := 8) dX0_tally_6 rfl (by decide) ?_
  refine j_aload_n (q := 9) dX0_tally_8 rfl (by rfl) ?_
  have hH0 := hH 0
  rw [show plN (pgC m a) 0 = pgC m a from rfl, gP_pgC] at hH0
  refine o_callVi (q := 12) dX0_tally_9 rfl lX0_88 mwX0_greatestHeat mvX0_greatestHeat cn0 (by assumption) (by rfl) rfl (Nat.le_of_ble_eq_true (by rfl)) (by decide) (hH0) ?_
  refine j_istore (q := 14) dX0_tally_12 rfl (by decide) ?_
  refine j_iconst (q := 15) (v := 0) dX0_tally_14 rfl (by decide) ?_
  refine j_istore (q := 17) dX0_tally_15 rfl (by decide) ?_
  refine gJ.mm ?_ (K17 n 0 _ _ (by omega))
  exact (gP_pgC m a).symm
