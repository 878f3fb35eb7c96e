/-! the reference: plans read from sheets -/
theorem rdJ {f : Int32} {i : Nat} (hi : i ≤ 50) : (f.toInt64 + (nI i).toInt64).toInt = f.toInt + i := by
  have h1 := f.toInt_lt
  have h2 := f.le_toInt
  rw [Int64.toInt_add, Int32.toInt_toInt64, Int32.toInt_toInt64, nI_toInt (by omega)]
  exact Int.bmod_eq_of_le (by omega) (by omega)
theorem rdC {f : Int32} {i j : Nat} (hi : i ≤ 50) (hj : j ≤ 50) (h : f.toInt + i = (j : Int)) : f + nI i = nI j := by
  apply Int32.toInt_inj.mp
  rw [Int32.toInt_add, nI_toInt (by omega), nI_toInt (by omega), h]
  exact Int.bmod_eq_of_le (by omega) (by omega)
def xReadR (m : gMem) (t : Nat) (k la f n : Int32) : rdT := if gdR k la n then rdR (szR m t k.toNatClampNeg) (m.1 (t + 12) k.toNatClampNeg) la (fun i => m.1 (t + 14) (40 * k.toNatClampNeg + i)) f.toInt n.toNatClampNeg 0 (pgR m t 0) else (-1, pgR m t 0, 0, false)
def rdPR (m : gMem) (t : Nat) (R : rdT) (m' : gMem) : Prop := (R.2.2.2 = false → rsc t m m') ∧ (R.2.2.2 = true → rsc t (gW (gQ m t 0 R.2.1) t 29 R.2.2.1) m')
theorem rsc_bk (m : gMem) (t : Nat) (g : Nat → Int32) : rsc t m (gQ (gQ (gQ m t 159 (pgR m t 0)) t 0 g) t 0 (pgR m t 0)) := by
  rw [gQ_gQ, gQ_comm (by decide), gQ_pgR]
  exact (rsc.rf t m).q (by decide) _
theorem rsc_fw (m : gMem) (t : Nat) (g h : Nat → Int32) (v : Int32) : rsc t (gW (gQ m t 0 g) t 29 v) (gW (gQ (gQ m t 159 h) t 0 g) t 29 v) := by
  rw [gQ_comm (p := 159) (p' := 0) (by decide), gQ_t (gQ m t 0 g) t 159 29 h v]
  exact (rsc.rf t _).q (p := 159) (by decide) _
theorem cM_read (E : gEv) (σ : gSg) (m : gMem) (hi t : Nat) (k la f n : Int32) (hR : gR σ t) (ho : okM m t) (hH : okHR m t) : gCo E yX7_read cX7_read 9 (some .int) 2 [.ref t, .int k, .int la, .int f, .int n] σ m hi (fun v' m' => v' = some (.int (xReadR m t k la f n).1) ∧ rdPR m t (xReadR m t k la f n) m') := by
  refine gCo.of mwX7_read (Nat.le_of_ble_eq_true rfl) ?_
  intro F hF
  have h0 := hR.1
  obtain ⟨-, -, -, -, -, -, -, -, -, -, -, -, h12, h13, h14⟩ := id hR
  unfold xReadR at hF
  have bad : ¬ gdR k la n → (gJ E yX7_read cX7_read 9 (some .int) (gRm 2 0 0) F 37 ([some (.ref t), some (.int k), some (.int la), some (.int f), some (.int n), none, none, none, none]) ([]) 0 0 σ (m) hi) := by
    intro hb
    rw [if_neg hb] at hF
    refine j_iconst (q := 38) (v := (-1)) dX7_read_37 rfl (by decide) ?_
    refine o_iret hF rfl dX7_read_38 ?_
    exact ⟨rfl, fun _ => rsc.rf t m, fun h => by cases h⟩
  refine j_iload_n (q := 1) dX7_read_0 rfl (by rfl) ?_
  refine j_i2l (q := 2) dX7_read_1 rfl ?_
  refine j_lconst (q := 3) (v := 0) dX7_read_2 rfl (by decide) ?_
  refine j_ldc2 (q := 6) dX7_read_3 rfl kX7_169 ?_
  refine o_callSi (q := 9) dX7_read_6 rfl lX7_55 mwX7_in msX7_in (by rfl) rfl (Nat.le_of_ble_eq_true (by rfl)) (by first | decide | omega) (cM_inI E σ m hi k 0 3 (by decide) (by decide)) ?_
  refine j_if_eq (q := 12) (tgt := 37) dX7_read_9 rfl (by decide) (fun h9 => ?_) (fun h9 => ?_)
  · exact bad (fun h => sWi_0 h9 h.1)
  refine j_iload_n (q := 13) dX7_read_12 rfl (by rfl) ?_
  refine j_i2l (q := 14) dX7_read_13 rfl ?_
  refine j_lconst (q := 15) (v := 0) dX7_read_14 rfl (by decide) ?_
  refine j_ldc2 (q := 18) dX7_read_15 rfl kX7_224 ?_
  refine o_callSi (q := 21) dX7_read_18 rfl lX7_55 mwX7_in msX7_in (by rfl) rfl (Nat.le_of_ble_eq_true (by rfl)) (by first | decide | omega) (cM_inI E σ m hi la 0 2 (by decide) (by decide)) ?_
  refine j_if_eq (q := 24) (tgt := 37) dX7_read_21 rfl (by decide) (fun h21 => ?_) (fun h21 => ?_)
  · exact bad (fun h => sWi_0 h21 h.2.1)
  refine j_iload (q := 26) dX7_read_24 rfl (by rfl) ?_
  refine j_i2l (q := 27) dX7_read_26 rfl ?_
  refine j_lconst (q := 28) (v := 0) dX7_read_27 rfl (by decide) ?_
  refine j_ldc2 (q := 31) dX7_read_28 rfl kX7_177 ?_
  refine o_callSi (q := 34) dX7_read_31 rfl lX7_55 mwX7_in msX7_in (by rfl) rfl (Nat.le_of_ble_eq_true (by rfl)) (by first | decide | omega) (cM_inI E σ m hi n 0 20 (by decide) (by decide)) ?_
  refine j_if_ne (q := 37) (tgt := 39) dX7_read_34 rfl (by decide) (fun h34 => ?_) (fun h34 => ?_)
  · have hg : gdR k la n := And.intro (sWi_1 h9) (And.intro (sWi_1 h21) (sWi_1 h34))
    obtain ⟨j, hj, ej⟩ := swN_wi (n := 3) (by decide) h9
    obtain ⟨u, hu, eu⟩ := swN_wi (n := 20) (by decide) h34
    subst ej
    subst eu
    rw [if_pos hg, nI_clamp (by omega), nI_clamp (by omega)] at hF
    have i4 : gIdx (nI j) 4 j := gIdx.of rfl (by omega) (by decide)
    have hj' := hH j (by omega)
    have e2u : (2 : Int32) * nI u = nI (2 * u) := pk_mul 2 u
    have h2z : ¬ (2 : Int32) = 0 := by decide
    have hoC : okC (pgR m t 0) := ho.1
    have hoB : okB (pgR m t 0) 9999 := ho.2
    generalize hG : pgR m t 0 = g at *
    have hg0 : pg0 g := by rw [← hG]; exact pgR_0 m t 0
    have hM : ∀ (G : Nat → Int32) (q r : Nat), q ≠ t + 1 → (gQ (gQ m t 159 g) t 0 G).1 q r = m.1 q r := fun G q r hq => by rw [gQ_out (Or.inl hq), gQ_out (Or.inl hq)]
    generalize hRR : rdR (szR m t j) (m.1 (t + 12) j) la (fun i => m.1 (t + 14) (40 * j + i)) f.toInt u 0 g = RR at *
    have K198 : ∀ (G : Nat → Int32) (by_ ca o7 : Int32) (o8 : Option Value), RR = (ca, G, by_, true) → (gJ E yX7_read cX7_read 9 (some .int) (gRm 2 0 0) F 198 ([some (.ref t), some (.int (nI j)), some (.int la), some (.int f), some (.int (nI u)), some (.int by_), some (.int ca), some (.int o7), o8]) ([]) 0 0 σ (gQ (gQ m t 159 g) t 0 G) hi) := by
      intro G by_ ca o7 o8 he
      rw [he] at hF
      refine j_aload_n (q := 199) dX7_read_198 rfl (by rfl) ?_
      refine j_iload (q := 201) dX7_read_199 rfl (by rfl) ?_
      refine j_puti (q := 204) dX7_read_201 rfl fX7_264 p7_29 (by first | with_reducible assumption | assumption) (by rfl) ?_
      refine j_iload (q := 206) dX7_read_204 rfl (by rfl) ?_
      refine o_iret hF rfl dX7_read_206 ?_
      exact ⟨rfl, fun h => (by cases h), fun _ => rsc_fw m t G g by_⟩
    have Kseg : ∀ (i2 : Nat) (G : Nat → Int32) (o6 o8 : Option Value), i2 ≤ 40 → (gJ E yX7_read cX7_read 9 (some .int) (gRm 2 0 0) F 126 ([some (.ref t), some (.int (nI j)), some (.int la), some (.int f), some (.int (nI u)), some (.int 0), o6, some (.int (nI i2)), o8]) ([.int (fS (szR m t j) (m.1 (t + 12) j) la (f.toInt + i2))]) 0 0 σ (gQ (gQ m t 159 g) t 0 G) hi) → (gJ E yX7_read cX7_read 9 (some .int) (gRm 2 0 0) F 70 ([some (.ref t), some (.int (nI j)), some (.int la), some (.int f), some (.int (nI u)), some (.int 0), o6, some (.int (nI i2)), o8]) ([]) 0 0 σ (gQ (gQ m t 159 g) t 0 G) hi) := by
      intro i2 G o6 o8 hi2 hK
      refine j_aload_n (q := 71) dX7_read_70 rfl (by rfl) ?_
      refine j_getr (q := 74) dX7_read_71 rfl fX7_44 (by first | with_reducible assumption | assumption) (by rfl) ?_
      refine j_iload_n (q := 75) dX7_read_74 rfl (by rfl) ?_
      refine j_iaload (q := 76) dX7_read_75 rfl (by first | with_reducible assumption | assumption) (by first | with_reducible assumption | assumption) ?_
      refine j_bipush (q := 78) (v := (-4)) dX7_read_76 rfl (by decide) ?_
      rw [hM _ _ _ (by omega)]
      by_cases hln : m.1 (t + 12) j = -4
      · have hz : szR m t j = -4 := if_pos hln
        rw [hz, show fS (-4) (m.1 (t + 12) j) la (f.toInt + i2) = 1 from if_pos (by decide)] at hK
        rw [hln]
        refine j_icmp_ne (q := 81) (tgt := 85) dX7_read_78 rfl (by decide) (fun h78 => ?_) (fun h78 => ?_)
        · exact absurd rfl h78
        refine j_iconst (q := 82) (v := 1) dX7_read_81 rfl (by decide) ?_
        refine j_goto (tgt := 126) dX7_read_82 (by decide) ?_
        exact hK
      · have hz : szR m t j = m.1 (t + 13) j := if_neg hln
        obtain ⟨⟨a, ha2, ea⟩, s, hs40, es⟩ := hj'.resolve_left hln
        rw [hz, es] at hK
        unfold fS at hK
        rw [if_neg (nI_pos (by omega))] at hK
        refine j_icmp_ne (q := 81) (tgt := 85) dX7_read_78 rfl (by decide) (fun h78 => ?_) (fun h78 => ?_)
        · refine j_aload_n (q := 86) dX7_read_85 rfl (by rfl) ?_
          refine j_getr (q := 89) dX7_read_86 rfl fX7_44 (by first | with_reducible assumption | assumption) (by rfl) ?_
          refine j_iload_n (q := 90) dX7_read_89 rfl (by rfl) ?_
          refine j_iaload (q := 91) dX7_read_90 rfl (by first | with_reducible assumption | assumption) (by first | with_reducible assumption | assumption) ?_
          refine j_iload_n (q := 92) dX7_read_91 rfl (by rfl) ?_
          rw [hM _ _ _ (by omega)]
          refine j_icmp_eq (q := 95) (tgt := 99) dX7_read_92 rfl (by decide) (fun h92 => ?_) (fun h92 => ?_)
          · have h92' : la = m.1 (t + 12) j := Eq.symm (by first | exact h92 | exact Decidable.not_not.mp h92)
            rw [if_neg (fun q => q h92')] at hK
            refine j_iload_n (q := 100) dX7_read_99 rfl (by rfl) ?_
            refine j_i2l (q := 101) dX7_read_100 rfl ?_
            refine j_iload (q := 103) dX7_read_101 rfl (by rfl) ?_
            refine j_i2l (q := 104) dX7_read_103 rfl ?_
            refine j_ladd (q := 105) dX7_read_104 rfl ?_
            refine j_lconst (q := 106) (v := 0) dX7_read_105 rfl (by decide) ?_
            refine j_aload_n (q := 107) dX7_read_106 rfl (by rfl) ?_
            refine j_getr (q := 110) dX7_read_107 rfl fX7_47 (by first | with_reducible assumption | assumption) (by rfl) ?_
            refine j_iload_n (q := 111) dX7_read_110 rfl (by rfl) ?_
            refine j_iaload (q := 112) dX7_read_111 rfl (by first | with_reducible assumption | assumption) (by first | with_reducible assumption | assumption) ?_
            rw [hM _ _ _ (by omega), es]
            refine j_iconst (q := 113) (v := 1) dX7_read_112 rfl (by decide) ?_
            refine j_isub (q := 114) dX7_read_113 rfl ?_
            refine j_i2l (q := 115) dX7_read_114 rfl ?_
            refine o_callSi (q := 118) dX7_read_115 rfl lX7_55 mwX7_in msX7_in (by rfl) rfl (Nat.le_of_ble_eq_true (by rfl)) (by first | decide | omega) (cM_in E σ _ hi _ _ _) ?_
            have e1 := rdJ (f := f) (i := i2) (by omega)
            have e2 : (nI s - 1).toInt64.toInt = (s : Int) - 1 := by rw [Int32.toInt_toInt64]; exact pk_sub_toInt (a := s) (b := 1) (by omega) (by omega)
            have e3 := nI_toInt (n := s) (by omega)
            by_cases hc : (0 : Int64) ≤ f.toInt64 + (nI i2).toInt64 ∧ f.toInt64 + (nI i2).toInt64 ≤ (nI s - 1).toInt64
            · rw [if_pos hc]
              rw [Int64.le_iff_toInt_le, Int64.le_iff_toInt_le, e1, e2, show (0 : Int64).toInt = 0 from rfl] at hc
              rw [if_neg (by omega)] at hK
              refine j_if_ne (q := 121) (tgt := 125) dX7_read_118 rfl (by decide) (fun h118 => ?_) (fun h118 => ?_)
              · refine j_iconst (q := 126) (v := 0) dX7_read_125 rfl (by decide) ?_
                exact hK
              · exact absurd h118 (by decide)
            · rw [if_neg hc]
              rw [Int64.le_iff_toInt_le, Int64.le_iff_toInt_le, e1, e2, show (0 : Int64).toInt = 0 from rfl] at hc
              rw [if_pos (by omega)] at hK
              refine j_if_ne (q := 121) (tgt := 125) dX7_read_118 rfl (by decide) (fun h118 => ?_) (fun h118 => ?_)
              · exact absurd rfl h118
              · refine j_iconst (q := 122) (v := 2) dX7_read_121 rfl (by decide) ?_
                refine j_goto (tgt := 126) dX7_read_122 (by decide) ?_
                exact hK
          · rw [if_pos (fun q => h92 q.symm)] at hK
            refine j_iconst (q := 96) (v := 3) dX7_read_95 rfl (by decide) ?_
            refine j_goto (tgt := 126) dX7_read_96 (by decide) ?_
            exact hK
        · exact absurd (by first | exact h78 | exact Decidable.not_not.mp h78) hln
    have Kex : ∀ (i2 : Nat) (G : Nat → Int32) (by_ ca : Int32) (o8 : Option Value), i2 ≤ 40 → ¬ by_ = 0 → RR = (ca, G, by_, true) → (gJ E yX7_read cX7_read 9 (some .int) (gRm 2 0 0) F 192 ([some (.ref t), some (.int (nI j)), some (.int la), some (.int f), some (.int (nI u)), some (.int by_), some (.int ca), some (.int (nI i2)), o8]) ([]) 0 0 σ (gQ (gQ m t 159 g) t 0 G) hi) := by
      intro i2 G by_ ca o8 hi2 hb he
      refine j_iinc (q := 195) dX7_read_192 rfl (by rfl) (by first | exact nI_inc _ | rfl) (by decide) ?_
      refine j_goto (tgt := 56) dX7_read_195 (by decide) ?_
      refine j_iload (q := 58) dX7_read_56 rfl (by rfl) ?_
      refine j_iconst (q := 59) (v := 2) dX7_read_58 rfl (by decide) ?_
      refine j_iload (q := 61) dX7_read_59 rfl (by rfl) ?_
      refine j_imul (q := 62) dX7_read_61 rfl ?_
      rw [e2u]
      refine j_icmp_ge (q := 65) (tgt := 198) dX7_read_62 rfl (by decide) (fun h62 => ?_) (fun h62 => ?_)
      · exact K198 G by_ ca _ _ he
      refine j_iload (q := 67) dX7_read_65 rfl (by rfl) ?_
      refine j_if_ne (q := 70) (tgt := 198) dX7_read_67 rfl (by decide) (fun h67 => ?_) (fun h67 => ?_)
      · exact K198 G by_ ca _ _ he
      · exact absurd (by first | exact h67 | exact Decidable.not_not.mp h67) hb
    have K56 : ∀ (z i : Nat) (G : Nat → Int32) (o8 : Option Value), i + z = u → pg0 G → okC G → okB G 9999 → RR = rdR (szR m t j) (m.1 (t + 12) j) la (fun i => m.1 (t + 14) (40 * j + i)) f.toInt z i G → (gJ E yX7_read cX7_read 9 (some .int) (gRm 2 0 0) F 56 ([some (.ref t), some (.int (nI j)), some (.int la), some (.int f), some (.int (nI u)), some (.int 0), some (.int (nI i)), some (.int (nI (2 * i))), o8]) ([]) 0 0 σ (gQ (gQ m t 159 g) t 0 G) hi) := by
      intro z
      induction z with
      | zero =>
        intro i G o8 hiz hG0 hGC hGB he
        have hiu : i = u := by omega
        subst hiu
        refine j_iload (q := 58) dX7_read_56 rfl (by rfl) ?_
        refine j_iconst (q := 59) (v := 2) dX7_read_58 rfl (by decide) ?_
        refine j_iload (q := 61) dX7_read_59 rfl (by rfl) ?_
        refine j_imul (q := 62) dX7_read_61 rfl ?_
        rw [e2u]
        refine j_icmp_ge (q := 65) (tgt := 198) dX7_read_62 rfl (by decide) (fun h62 => ?_) (fun h62 => ?_)
        · exact K198 G 0 _ _ _ he
        · exact absurd (Int32.le_refl _) h62
      | succ z ih =>
        intro i G o8 hiz hG0 hGC hGB he
        have er0 : nI (2 * i) - nI (2 * i) / 2 * 2 = nI 0 := by
          have := pk_rem (a := 2 * i) (d := 2) (by omega) (by decide) (by decide)
          rw [show 2 * i % 2 = 0 by omega] at this
          exact this
        have er1 : nI (2 * i + 1) - nI (2 * i + 1) / 2 * 2 = nI 1 := by
          have := pk_rem (a := 2 * i + 1) (d := 2) (by omega) (by decide) (by decide)
          rw [show (2 * i + 1) % 2 = 1 by omega] at this
          exact this
        refine j_iload (q := 58) dX7_read_56 rfl (by rfl) ?_
        refine j_iconst (q := 59) (v := 2) dX7_read_58 rfl (by decide) ?_
        refine j_iload (q := 61) dX7_read_59 rfl (by rfl) ?_
        refine j_imul (q := 62) dX7_read_61 rfl ?_
        rw [e2u]
        refine j_icmp_ge (q := 65) (tgt := 198) dX7_read_62 rfl (by decide) (fun h62 => ?_) (fun h62 => ?_)
        · exact absurd h62 (nI_ge (by omega) (by omega))
        refine j_iload (q := 67) dX7_read_65 rfl (by rfl) ?_
        refine j_if_ne (q := 70) (tgt := 198) dX7_read_67 rfl (by decide) (fun h67 => ?_) (fun h67 => ?_)
        · exact absurd rfl h67
        refine Kseg (2 * i) G _ _ (by omega) ?_
        have ep : f.toInt + ((2 * i : Nat) : Int) = f.toInt + 2 * (i : Int) := by omega
        rw [ep]
        rw [rdR] at he
        by_cases hA : fS (szR m t j) (m.1 (t + 12) j) la (f.toInt + 2 * (i : Int)) = 0
        · rw [hA]
          refine j_istore (q := 128) dX7_read_126 rfl (by decide) ?_
          refine j_iload (q := 130) dX7_read_128 rfl (by rfl) ?_
          refine j_if_ne (q := 133) (tgt := 192) dX7_read_130 rfl (by decide) (fun h130 => ?_) (fun h130 => ?_)
          · exact absurd rfl h130
          refine j_iload (q := 135) dX7_read_133 rfl (by rfl) ?_
          refine j_iconst (q := 136) (v := 2) dX7_read_135 rfl (by decide) ?_
          refine j_irem (q := 137) dX7_read_136 rfl (by first | with_reducible assumption | assumption) ?_
          rw [er0]
          refine j_iconst (q := 138) (v := 1) dX7_read_137 rfl (by decide) ?_
          refine j_icmp_ne (q := 141) (tgt := 192) dX7_read_138 rfl (by decide) (fun h138 => ?_) (fun h138 => ?_)
          · refine j_iinc (q := 195) dX7_read_192 rfl (by rfl) (by first | exact nI_inc _ | rfl) (by decide) ?_
            refine j_goto (tgt := 56) dX7_read_195 (by decide) ?_
            refine j_iload (q := 58) dX7_read_56 rfl (by rfl) ?_
            refine j_iconst (q := 59) (v := 2) dX7_read_58 rfl (by decide) ?_
            refine j_iload (q := 61) dX7_read_59 rfl (by rfl) ?_
            refine j_imul (q := 62) dX7_read_61 rfl ?_
            rw [e2u]
            refine j_icmp_ge (q := 65) (tgt := 198) dX7_read_62 rfl (by decide) (fun h62' => ?_) (fun h62' => ?_)
            · exact absurd h62' (nI_ge (by omega) (by omega))
            refine j_iload (q := 67) dX7_read_65 rfl (by rfl) ?_
            refine j_if_ne (q := 70) (tgt := 198) dX7_read_67 rfl (by decide) (fun h67' => ?_) (fun h67' => ?_)
            · exact absurd rfl h67'
            refine Kseg (2 * i + 1) G _ _ (by omega) ?_
            have ep1 : f.toInt + ((2 * i + 1 : Nat) : Int) = f.toInt + 2 * (i : Int) + 1 := by omega
            rw [ep1]
            have hf2 : f2S (szR m t j) (m.1 (t + 12) j) la (f.toInt + 2 * (i : Int)) = fS (szR m t j) (m.1 (t + 12) j) la (f.toInt + 2 * (i : Int) + 1) := if_pos hA
            rw [hf2] at he
            by_cases hB : fS (szR m t j) (m.1 (t + 12) j) la (f.toInt + 2 * (i : Int) + 1) = 0
            · rw [if_pos hB] at he
              rw [hB]
              have hsz : szR m t j = -4 ∨ ∃ s, s ≤ 40 ∧ szR m t j = nI s := by
                by_cases hln : m.1 (t + 12) j = -4
                · exact Or.inl (if_pos hln)
                · obtain ⟨-, s, h1, h2⟩ := hj'.resolve_left hln
                  exact Or.inr ⟨s, h1, by unfold szR; rw [if_neg hln]; exact h2⟩
              obtain ⟨s0, p, hs0, -, hp, hps⟩ := fS_ok hA hsz
              obtain ⟨s1, p1, hs1, -, hp1, hps1⟩ := fS_ok hB hsz
              have epp : p1 = p + 1 := by omega
              subst epp
              have ecx : (40 : Int32) * nI j + f + nI (2 * i + 1) = nI (40 * j + (p + 1)) := by
                rw [Int32.add_assoc, rdC (j := p + 1) (by omega) (by omega) (by omega), show (40 : Int32) * nI j = nI (40 * j) from pk_mul 40 j, nI_add]
              have ecx1 : nI (40 * j + (p + 1)) - 1 = nI (40 * j + p) := nI_pred (40 * j + p)
              have ixa : gIdx (nI (40 * j + p)) 160 (40 * j + p) := gIdx.of rfl (by omega) (by decide)
              have ixb : gIdx (nI (40 * j + (p + 1))) 160 (40 * j + (p + 1)) := gIdx.of rfl (by omega) (by decide)
              obtain ⟨rr, hh, er49, hr12, -, -⟩ := id hGB
              have hAd := cM_adds E σ (gQ (gQ m t 159 g) t 0 G) hi t (m.1 (t + 14) (40 * j + p)) (m.1 (t + 14) (40 * j + (p + 1))) hR ⟨rr, by rw [pgR_gQ hG0]; exact er49, hr12⟩
              rw [pgR_gQ hG0, gQ_gQ] at hAd
              rw [show (f.toInt + 2 * (i : Int)).toNat = p by omega, show (f.toInt + 2 * (i : Int) + 1).toNat = p + 1 by omega] at he
              refine j_istore (q := 128) dX7_read_126 rfl (by decide) ?_
              refine j_iload (q := 130) dX7_read_128 rfl (by rfl) ?_
              refine j_if_ne (q := 133) (tgt := 192) dX7_read_130 rfl (by decide) (fun h130' => ?_) (fun h130' => ?_)
              · exact absurd rfl h130'
              refine j_iload (q := 135) dX7_read_133 rfl (by rfl) ?_
              refine j_iconst (q := 136) (v := 2) dX7_read_135 rfl (by decide) ?_
              refine j_irem (q := 137) dX7_read_136 rfl (by first | with_reducible assumption | assumption) ?_
              rw [er1]
              refine j_iconst (q := 138) (v := 1) dX7_read_137 rfl (by decide) ?_
              refine j_icmp_ne (q := 141) (tgt := 192) dX7_read_138 rfl (by decide) (fun h138' => ?_) (fun h138' => ?_)
              · exact absurd rfl h138'
              refine j_bipush (q := 143) (v := 40) dX7_read_141 rfl (by decide) ?_
              refine j_iload_n (q := 144) dX7_read_143 rfl (by rfl) ?_
              refine j_imul (q := 145) dX7_read_144 rfl ?_
              refine j_iload_n (q := 146) dX7_read_145 rfl (by rfl) ?_
              refine j_iadd (q := 147) dX7_read_146 rfl ?_
              refine j_iload (q := 149) dX7_read_147 rfl (by rfl) ?_
              refine j_iadd (q := 150) dX7_read_149 rfl ?_
              rw [ecx]
              refine j_istore (q := 152) dX7_read_150 rfl (by decide) ?_
              refine j_aload_n (q := 153) dX7_read_152 rfl (by rfl) ?_
              refine j_aload_n (q := 154) dX7_read_153 rfl (by rfl) ?_
              refine j_getr (q := 157) dX7_read_154 rfl fX7_50 (by first | with_reducible assumption | assumption) (by rfl) ?_
              refine j_iload (q := 159) dX7_read_157 rfl (by rfl) ?_
              refine j_iconst (q := 160) (v := 1) dX7_read_159 rfl (by decide) ?_
              refine j_isub (q := 161) dX7_read_160 rfl ?_
              rw [ecx1]
              refine j_iaload (q := 162) dX7_read_161 rfl (by first | with_reducible assumption | assumption) (by first | with_reducible assumption | assumption) ?_
              rw [hM _ _ _ (by omega)]
              refine j_aload_n (q := 163) dX7_read_162 rfl (by rfl) ?_
              refine j_getr (q := 166) dX7_read_163 rfl fX7_50 (by first | with_reducible assumption | assumption) (by rfl) ?_
              refine j_iload (q := 168) dX7_read_166 rfl (by rfl) ?_
              refine j_iaload (q := 169) dX7_read_168 rfl (by first | with_reducible assumption | assumption) (by first | with_reducible assumption | assumption) ?_
              rw [hM _ _ _ (by omega)]
              refine o_callVi (q := 172) dX7_read_169 rfl lX7_191 mwX7_adds mvX7_adds cn7 (by assumption) (by rfl) rfl (Nat.le_of_ble_eq_true (by rfl)) (by first | decide | omega) (hAd) ?_
              by_cases hneg : (xAdd G (m.1 (t + 14) (40 * j + p)) (m.1 (t + 14) (40 * j + (p + 1)))).1 < 0
              · rw [if_pos hneg] at he
                refine j_if_ge (q := 175) (tgt := 189) dX7_read_172 rfl (by decide) (fun h172 => ?_) (fun h172 => ?_)
                · exact absurd hneg (Int32.not_lt.mpr h172)
                have hCb := cM_copies E σ (gQ (gQ m t 159 g) t 0 (xAdd G (m.1 (t + 14) (40 * j + p)) (m.1 (t + 14) (40 * j + (p + 1)))).2) hi t 159 0 hR (by decide) (by decide) (by decide)
                rw [pgR_ne (by decide), pgR_gQ hg0] at hCb
                rw [he] at hF
                refine j_aload_n (q := 176) dX7_read_175 rfl (by rfl) ?_
                refine j_sipush (q := 179) (v := 159) dX7_read_176 rfl (by decide) ?_
                refine j_iconst (q := 180) (v := 0) dX7_read_179 rfl (by decide) ?_
                refine o_callVv (q := 183) dX7_read_180 rfl lX7_205 mwX7_copies mvX7_copies cn7 (by assumption) (by rfl) rfl (Nat.le_of_ble_eq_true (by rfl)) (by first | decide | omega) (hCb) ?_
                refine j_bipush (q := 185) (v := (-20)) dX7_read_183 rfl (by decide) ?_
                refine j_iload (q := 187) dX7_read_185 rfl (by rfl) ?_
                refine j_isub (q := 188) dX7_read_187 rfl ?_
                refine o_iret hF rfl dX7_read_188 ?_
                refine ⟨rfl, fun _ => ?_, fun h => (by cases h)⟩
                have := rsc_bk m t (xAdd G (m.1 (t + 14) (40 * j + p)) (m.1 (t + 14) (40 * j + (p + 1)))).2
                rw [hG] at this
                exact this
              · rw [if_neg hneg] at he
                refine j_if_ge (q := 175) (tgt := 189) dX7_read_172 rfl (by decide) (fun h172 => ?_) (fun h172 => ?_)
                · refine j_iinc (q := 192) dX7_read_189 rfl (by rfl) (by first | exact nI_inc _ | rfl) (by decide) ?_
                  refine j_iinc (q := 195) dX7_read_192 rfl (by rfl) (by first | exact nI_inc _ | rfl) (by decide) ?_
                  refine j_goto (tgt := 56) dX7_read_195 (by decide) ?_
                  have hok := xAdd_ok hGC hGB (m.1 (t + 14) (40 * j + p)) (m.1 (t + 14) (40 * j + (p + 1)))
                  exact ih (i + 1) _ _ (by omega) (xAdd_0 hG0 _ _) hok.1 hok.2 he
                · exact absurd (Int32.not_lt.mp hneg) h172
            · rw [if_neg hB] at he
              refine j_istore (q := 128) dX7_read_126 rfl (by decide) ?_
              refine j_iload (q := 130) dX7_read_128 rfl (by rfl) ?_
              refine j_if_ne (q := 133) (tgt := 192) dX7_read_130 rfl (by decide) (fun h130' => ?_) (fun h130' => ?_)
              · exact Kex (2 * i + 1) G _ _ _ (by omega) hB he
              · exact absurd (by first | exact h130' | exact Decidable.not_not.mp h130') hB
          · exact absurd (show nI 0 = 1 by first | exact h138 | exact Decidable.not_not.mp h138) (by decide)
        · have hf2 : f2S (szR m t j) (m.1 (t + 12) j) la (f.toInt + 2 * (i : Int)) = fS (szR m t j) (m.1 (t + 12) j) la (f.toInt + 2 * (i : Int)) := if_neg hA
          rw [hf2, if_neg hA] at he
          refine j_istore (q := 128) dX7_read_126 rfl (by decide) ?_
          refine j_iload (q := 130) dX7_read_128 rfl (by rfl) ?_
          refine j_if_ne (q := 133) (tgt := 192) dX7_read_130 rfl (by decide) (fun h130 => ?_) (fun h130 => ?_)
          · exact Kex (2 * i) G _ _ _ (by omega) hA he
          · exact absurd (by first | exact h130 | exact Decidable.not_not.mp h130) hA
    have hCp := cM_copies E σ m hi t 0 159 hR (by decide) (by decide) (by decide)
    rw [hG] at hCp
    refine j_aload_n (q := 40) dX7_read_39 rfl (by rfl) ?_
    refine j_iconst (q := 41) (v := 0) dX7_read_40 rfl (by decide) ?_
    refine j_sipush (q := 44) (v := 159) dX7_read_41 rfl (by decide) ?_
    refine o_callVv (q := 47) dX7_read_44 rfl lX7_205 mwX7_copies mvX7_copies cn7 (by assumption) (by rfl) rfl (Nat.le_of_ble_eq_true (by rfl)) (by first | decide | omega) (hCp) ?_
    refine j_iconst (q := 48) (v := 0) dX7_read_47 rfl (by decide) ?_
    refine j_istore (q := 50) dX7_read_48 rfl (by decide) ?_
    refine j_iconst (q := 51) (v := 0) dX7_read_50 rfl (by decide) ?_
    refine j_istore (q := 53) dX7_read_51 rfl (by decide) ?_
    refine j_iconst (q := 54) (v := 0) dX7_read_53 rfl (by decide) ?_
    refine j_istore (q := 56) dX7_read_54 rfl (by decide) ?_
    refine gJ.mm ?_ (K56 u 0 g _ (by omega) hg0 hoC hoB hRR.symm)
    have hpg : pgR (gQ m t 159 g) t 0 = g := by rw [pgR_ne (by decide), hG]
    have e := gQ_pgR (gQ m t 159 g) t 0
    rw [hpg] at e
    exact e.symm
  · exact bad (fun h => sWi_0 (by first | exact h34 | exact Decidable.not_not.mp h34) h.2.2)
