abbrev gCl : List vw_C := [(RX0, TX0, 8), (RX1, TX1, 9), (RX2, TX2, 4), (RX3, TX3, 3), (RX4, TX4, 2), (RX5, TX5, 6), (RX6, TX6, 13), (RX7, TX7, 30)]
def gT : List Cond := lw_tbl.filter goodWord
theorem gT_good : ∀ w ∈ gT, goodWord w = true := fun _ h => (List.mem_filter.mp h).2
theorem gT_in : ∀ w ∈ gT, w ∈ lw_tbl := fun _ h => (List.mem_filter.mp h).1
theorem gTm {w : Cond} (h : w ∈ lw_tbl) (hg : goodWord w = true) : w ∈ gT := List.mem_filter.mpr ⟨h, hg⟩
/-- a field's link: the class's number, the slot -/
def gFl (own : String) (idx ci k : Nat) : Prop := ∃ (C : String) (T : u_T) (N : Nat), gCl[ci]? = some (C, T, N) ∧ k < N ∧ Cond.fieldLink own idx (T k).1 (T k).2.1 (T k).2.2.1 ∈ gT
/-- a method's own words -/
def gMw (y : MethodName) (cc : ByteArray) (nL : Nat) (ret : Option FieldType) (n : Nat) : Prop := Cond.code y cc nL ret ∈ gT ∧ Cond.initialized y.cls ∈ gT ∧ (y.cls ≠ "java/lang/invoke/MethodHandle" ∧ y.cls ≠ "java/lang/invoke/VarHandle" ∧ (parseMethodDescriptor y.desc).map (fun d => d.parameters.length) = some n) ∧ plainName y.cls = true ∧ nL ≤ 20
def gMv (y : MethodName) : Prop := Cond.instanceMethod y ∈ gT ∧ Cond.selects y.cls y y ∈ gT
def gMi (y : MethodName) : Prop := y.name = "<init>" ∧ Cond.instanceMethod y ∈ gT
def gMs (y : MethodName) : Prop := Cond.static y ∈ gT
set_option maxRecDepth 100000 in
theorem inX0_l : ∀ w ∈ u_ws RX0 TX0 8, w ∈ lw_tbl := by decide +kernel
set_option maxRecDepth 100000 in
theorem inX0_g : (u_ws RX0 TX0 8).all goodWord = true := by decide +kernel
theorem inX0 : ∀ w ∈ u_ws RX0 TX0 8, w ∈ gT := fun w h => gTm (inX0_l w h) (List.all_eq_true.mp inX0_g w h)
set_option maxRecDepth 100000 in
theorem inX1_l : ∀ w ∈ u_ws RX1 TX1 9, w ∈ lw_tbl := by decide +kernel
set_option maxRecDepth 100000 in
theorem inX1_g : (u_ws RX1 TX1 9).all goodWord = true := by decide +kernel
theorem inX1 : ∀ w ∈ u_ws RX1 TX1 9, w ∈ gT := fun w h => gTm (inX1_l w h) (List.all_eq_true.mp inX1_g w h)
set_option maxRecDepth 100000 in
theorem inX2_l : ∀ w ∈ u_ws RX2 TX2 4, w ∈ lw_tbl := by decide +kernel
set_option maxRecDepth 100000 in
theorem inX2_g : (u_ws RX2 TX2 4).all goodWord = true := by decide +kernel
theorem inX2 : ∀ w ∈ u_ws RX2 TX2 4, w ∈ gT := fun w h => gTm (inX2_l w h) (List.all_eq_true.mp inX2_g w h)
set_option maxRecDepth 100000 in
theorem inX3_l : ∀ w ∈ u_ws RX3 TX3 3, w ∈ lw_tbl := by decide +kernel
set_option maxRecDepth 100000 in
theorem inX3_g : (u_ws RX3 TX3 3).all goodWord = true := by decide +kernel
theorem inX3 : ∀ w ∈ u_ws RX3 TX3 3, w ∈ gT := fun w h => gTm (inX3_l w h) (List.all_eq_true.mp inX3_g w h)
set_option maxRecDepth 100000 in
theorem inX4_l : ∀ w ∈ u_ws RX4 TX4 2, w ∈ lw_tbl := by decide +kernel
set_option maxRecDepth 100000 in
theorem inX4_g : (u_ws RX4 TX4 2).all goodWord = true := by decide +kernel
theorem inX4 : ∀ w ∈ u_ws RX4 TX4 2, w ∈ gT := fun w h => gTm (inX4_l w h) (List.all_eq_true.mp inX4_g w h)
set_option maxRecDepth 100000 in
theorem inX5_l : ∀ w ∈ u_ws RX5 TX5 6, w ∈ lw_tbl := by decide +kernel
set_option maxRecDepth 100000 in
theorem inX5_g : (u_ws RX5 TX5 6).all goodWord = true := by decide +kernel
theorem inX5 : ∀ w ∈ u_ws RX5 TX5 6, w ∈ gT := fun w h => gTm (inX5_l w h) (List.all_eq_true.mp inX5_g w h)
set_option maxRecDepth 100000 in
theorem inX6_l : ∀ w ∈ u_ws RX6 TX6 13, w ∈ lw_tbl := by decide +kernel
set_option maxRecDepth 100000 in
theorem inX6_g : (u_ws RX6 TX6 13).all goodWord = true := by decide +kernel
theorem inX6 : ∀ w ∈ u_ws RX6 TX6 13, w ∈ gT := fun w h => gTm (inX6_l w h) (List.all_eq_true.mp inX6_g w h)
set_option maxRecDepth 100000 in
theorem inX7_l : ∀ w ∈ u_ws RX7 TX7 30, w ∈ lw_tbl := by decide +kernel
set_option maxRecDepth 100000 in
theorem inX7_g : (u_ws RX7 TX7 30).all goodWord = true := by decide +kernel
theorem inX7 : ∀ w ∈ u_ws RX7 TX7 30, w ∈ gT := fun w h => gTm (inX7_l w h) (List.all_eq_true.mp inX7_g w h)
theorem gCl_ok {ci : Nat} {C : String} {T : u_T} {N : Nat} (h : gCl[ci]? = some (C, T, N)) : (∀ w ∈ u_ws C T N, w ∈ gT) ∧ (∃ ty0 : Nat → FieldType, ∀ k, k < N → parseFieldDescriptor (T k).2.2.1 = some (ty0 k)) ∧ (∀ a, a < N → ∀ b, b < N → a ≠ b → (T a).2.1 ≠ (T b).2.1) := by
  match ci, h with
  | 0, h => cases h; exact ⟨inX0, ⟨tyX0, tyX0_ok⟩, nmX0⟩
  | 1, h => cases h; exact ⟨inX1, ⟨tyX1, tyX1_ok⟩, nmX1⟩
  | 2, h => cases h; exact ⟨inX2, ⟨tyX2, tyX2_ok⟩, nmX2⟩
  | 3, h => cases h; exact ⟨inX3, ⟨tyX3, tyX3_ok⟩, nmX3⟩
  | 4, h => cases h; exact ⟨inX4, ⟨tyX4, tyX4_ok⟩, nmX4⟩
  | 5, h => cases h; exact ⟨inX5, ⟨tyX5, tyX5_ok⟩, nmX5⟩
  | 6, h => cases h; exact ⟨inX6, ⟨tyX6, tyX6_ok⟩, nmX6⟩
  | 7, h => cases h; exact ⟨inX7, ⟨tyX7, tyX7_ok⟩, nmX7⟩
  | k + 8, h => simp [gCl] at h
theorem fX0_11 : gFl RX0 11 0 0 := ⟨_, _, _, rfl, by decide, gTm (List.mem_of_getElem? (i := 116) (by decide +kernel)) (by decide +kernel)⟩
theorem fX0_17 : gFl RX0 17 0 1 := ⟨_, _, _, rfl, by decide, gTm (List.mem_of_getElem? (i := 118) (by decide +kernel)) (by decide +kernel)⟩
theorem fX0_21 : gFl RX0 21 0 2 := ⟨_, _, _, rfl, by decide, gTm (List.mem_of_getElem? (i := 120) (by decide +kernel)) (by decide +kernel)⟩
theorem fX0_24 : gFl RX0 24 0 6 := ⟨_, _, _, rfl, by decide, gTm (List.mem_of_getElem? (i := 130) (by decide +kernel)) (by decide +kernel)⟩
theorem fX0_28 : gFl RX0 28 0 7 := ⟨_, _, _, rfl, by decide, gTm (List.mem_of_getElem? (i := 133) (by decide +kernel)) (by decide +kernel)⟩
theorem fX0_32 : gFl RX0 32 0 3 := ⟨_, _, _, rfl, by decide, gTm (List.mem_of_getElem? (i := 122) (by decide +kernel)) (by decide +kernel)⟩
theorem fX0_35 : gFl RX0 35 0 4 := ⟨_, _, _, rfl, by decide, gTm (List.mem_of_getElem? (i := 125) (by decide +kernel)) (by decide +kernel)⟩
theorem fX0_38 : gFl RX0 38 0 5 := ⟨_, _, _, rfl, by decide, gTm (List.mem_of_getElem? (i := 128) (by decide +kernel)) (by decide +kernel)⟩
theorem fX0_99 : gFl RX0 99 5 3 := ⟨_, _, _, rfl, by decide, gTm (List.mem_of_getElem? (i := 96) (by decide +kernel)) (by decide +kernel)⟩
theorem fX0_102 : gFl RX0 102 5 4 := ⟨_, _, _, rfl, by decide, gTm (List.mem_of_getElem? (i := 99) (by decide +kernel)) (by decide +kernel)⟩
theorem fX1_12 : gFl RX1 12 1 0 := ⟨_, _, _, rfl, by decide, gTm (List.mem_of_getElem? (i := 176) (by decide +kernel)) (by decide +kernel)⟩
theorem fX1_18 : gFl RX1 18 1 1 := ⟨_, _, _, rfl, by decide, gTm (List.mem_of_getElem? (i := 178) (by decide +kernel)) (by decide +kernel)⟩
theorem fX1_22 : gFl RX1 22 1 5 := ⟨_, _, _, rfl, by decide, gTm (List.mem_of_getElem? (i := 182) (by decide +kernel)) (by decide +kernel)⟩
theorem fX1_25 : gFl RX1 25 1 6 := ⟨_, _, _, rfl, by decide, gTm (List.mem_of_getElem? (i := 184) (by decide +kernel)) (by decide +kernel)⟩
theorem fX1_28 : gFl RX1 28 1 7 := ⟨_, _, _, rfl, by decide, gTm (List.mem_of_getElem? (i := 186) (by decide +kernel)) (by decide +kernel)⟩
theorem fX1_32 : gFl RX1 32 1 8 := ⟨_, _, _, rfl, by decide, gTm (List.mem_of_getElem? (i := 187) (by decide +kernel)) (by decide +kernel)⟩
theorem fX1_43 : gFl RX1 43 1 2 := ⟨_, _, _, rfl, by decide, gTm (List.mem_of_getElem? (i := 179) (by decide +kernel)) (by decide +kernel)⟩
theorem fX1_54 : gFl RX1 54 1 3 := ⟨_, _, _, rfl, by decide, gTm (List.mem_of_getElem? (i := 180) (by decide +kernel)) (by decide +kernel)⟩
theorem fX1_81 : gFl RX1 81 0 6 := ⟨_, _, _, rfl, by decide, gTm (List.mem_of_getElem? (i := 131) (by decide +kernel)) (by decide +kernel)⟩
theorem fX1_87 : gFl RX1 87 0 7 := ⟨_, _, _, rfl, by decide, gTm (List.mem_of_getElem? (i := 134) (by decide +kernel)) (by decide +kernel)⟩
theorem fX1_90 : gFl RX1 90 0 4 := ⟨_, _, _, rfl, by decide, gTm (List.mem_of_getElem? (i := 126) (by decide +kernel)) (by decide +kernel)⟩
theorem fX1_97 : gFl RX1 97 0 3 := ⟨_, _, _, rfl, by decide, gTm (List.mem_of_getElem? (i := 124) (by decide +kernel)) (by decide +kernel)⟩
theorem fX1_104 : gFl RX1 104 1 4 := ⟨_, _, _, rfl, by decide, gTm (List.mem_of_getElem? (i := 181) (by decide +kernel)) (by decide +kernel)⟩
theorem fX2_9 : gFl RX2 9 2 0 := ⟨_, _, _, rfl, by decide, gTm (List.mem_of_getElem? (i := 213) (by decide +kernel)) (by decide +kernel)⟩
theorem fX2_15 : gFl RX2 15 2 1 := ⟨_, _, _, rfl, by decide, gTm (List.mem_of_getElem? (i := 214) (by decide +kernel)) (by decide +kernel)⟩
theorem fX2_18 : gFl RX2 18 2 2 := ⟨_, _, _, rfl, by decide, gTm (List.mem_of_getElem? (i := 215) (by decide +kernel)) (by decide +kernel)⟩
theorem fX2_21 : gFl RX2 21 2 3 := ⟨_, _, _, rfl, by decide, gTm (List.mem_of_getElem? (i := 216) (by decide +kernel)) (by decide +kernel)⟩
theorem fX3_9 : gFl RX3 9 3 0 := ⟨_, _, _, rfl, by decide, gTm (List.mem_of_getElem? (i := 234) (by decide +kernel)) (by decide +kernel)⟩
theorem fX3_15 : gFl RX3 15 3 2 := ⟨_, _, _, rfl, by decide, gTm (List.mem_of_getElem? (i := 237) (by decide +kernel)) (by decide +kernel)⟩
theorem fX3_19 : gFl RX3 19 3 1 := ⟨_, _, _, rfl, by decide, gTm (List.mem_of_getElem? (i := 235) (by decide +kernel)) (by decide +kernel)⟩
theorem fX4_9 : gFl RX4 9 4 0 := ⟨_, _, _, rfl, by decide, gTm (List.mem_of_getElem? (i := 166) (by decide +kernel)) (by decide +kernel)⟩
theorem fX4_15 : gFl RX4 15 4 1 := ⟨_, _, _, rfl, by decide, gTm (List.mem_of_getElem? (i := 167) (by decide +kernel)) (by decide +kernel)⟩
theorem fX5_9 : gFl RX5 9 5 0 := ⟨_, _, _, rfl, by decide, gTm (List.mem_of_getElem? (i := 90) (by decide +kernel)) (by decide +kernel)⟩
theorem fX5_15 : gFl RX5 15 5 1 := ⟨_, _, _, rfl, by decide, gTm (List.mem_of_getElem? (i := 92) (by decide +kernel)) (by decide +kernel)⟩
theorem fX5_18 : gFl RX5 18 5 2 := ⟨_, _, _, rfl, by decide, gTm (List.mem_of_getElem? (i := 93) (by decide +kernel)) (by decide +kernel)⟩
theorem fX5_21 : gFl RX5 21 5 3 := ⟨_, _, _, rfl, by decide, gTm (List.mem_of_getElem? (i := 95) (by decide +kernel)) (by decide +kernel)⟩
theorem fX5_24 : gFl RX5 24 5 4 := ⟨_, _, _, rfl, by decide, gTm (List.mem_of_getElem? (i := 98) (by decide +kernel)) (by decide +kernel)⟩
theorem fX5_27 : gFl RX5 27 5 5 := ⟨_, _, _, rfl, by decide, gTm (List.mem_of_getElem? (i := 101) (by decide +kernel)) (by decide +kernel)⟩
theorem fX6_10 : gFl RX6 10 6 0 := ⟨_, _, _, rfl, by decide, gTm (List.mem_of_getElem? (i := 247) (by decide +kernel)) (by decide +kernel)⟩
theorem fX6_16 : gFl RX6 16 6 1 := ⟨_, _, _, rfl, by decide, gTm (List.mem_of_getElem? (i := 248) (by decide +kernel)) (by decide +kernel)⟩
theorem fX6_19 : gFl RX6 19 6 2 := ⟨_, _, _, rfl, by decide, gTm (List.mem_of_getElem? (i := 249) (by decide +kernel)) (by decide +kernel)⟩
theorem fX6_23 : gFl RX6 23 6 3 := ⟨_, _, _, rfl, by decide, gTm (List.mem_of_getElem? (i := 250) (by decide +kernel)) (by decide +kernel)⟩
theorem fX6_26 : gFl RX6 26 6 4 := ⟨_, _, _, rfl, by decide, gTm (List.mem_of_getElem? (i := 251) (by decide +kernel)) (by decide +kernel)⟩
theorem fX6_33 : gFl RX6 33 6 5 := ⟨_, _, _, rfl, by decide, gTm (List.mem_of_getElem? (i := 252) (by decide +kernel)) (by decide +kernel)⟩
theorem fX6_37 : gFl RX6 37 1 0 := ⟨_, _, _, rfl, by decide, gTm (List.mem_of_getElem? (i := 177) (by decide +kernel)) (by decide +kernel)⟩
theorem fX6_41 : gFl RX6 41 6 6 := ⟨_, _, _, rfl, by decide, gTm (List.mem_of_getElem? (i := 253) (by decide +kernel)) (by decide +kernel)⟩
theorem fX6_47 : gFl RX6 47 6 7 := ⟨_, _, _, rfl, by decide, gTm (List.mem_of_getElem? (i := 254) (by decide +kernel)) (by decide +kernel)⟩
theorem fX6_51 : gFl RX6 51 6 8 := ⟨_, _, _, rfl, by decide, gTm (List.mem_of_getElem? (i := 255) (by decide +kernel)) (by decide +kernel)⟩
theorem fX6_55 : gFl RX6 55 6 9 := ⟨_, _, _, rfl, by decide, gTm (List.mem_of_getElem? (i := 256) (by decide +kernel)) (by decide +kernel)⟩
theorem fX6_61 : gFl RX6 61 6 10 := ⟨_, _, _, rfl, by decide, gTm (List.mem_of_getElem? (i := 257) (by decide +kernel)) (by decide +kernel)⟩
theorem fX6_76 : gFl RX6 76 4 1 := ⟨_, _, _, rfl, by decide, gTm (List.mem_of_getElem? (i := 168) (by decide +kernel)) (by decide +kernel)⟩
theorem fX6_84 : gFl RX6 84 1 5 := ⟨_, _, _, rfl, by decide, gTm (List.mem_of_getElem? (i := 183) (by decide +kernel)) (by decide +kernel)⟩
theorem fX6_87 : gFl RX6 87 6 11 := ⟨_, _, _, rfl, by decide, gTm (List.mem_of_getElem? (i := 258) (by decide +kernel)) (by decide +kernel)⟩
theorem fX6_90 : gFl RX6 90 1 6 := ⟨_, _, _, rfl, by decide, gTm (List.mem_of_getElem? (i := 185) (by decide +kernel)) (by decide +kernel)⟩
theorem fX6_97 : gFl RX6 97 2 3 := ⟨_, _, _, rfl, by decide, gTm (List.mem_of_getElem? (i := 217) (by decide +kernel)) (by decide +kernel)⟩
theorem fX6_100 : gFl RX6 100 0 3 := ⟨_, _, _, rfl, by decide, gTm (List.mem_of_getElem? (i := 123) (by decide +kernel)) (by decide +kernel)⟩
theorem fX6_103 : gFl RX6 103 0 4 := ⟨_, _, _, rfl, by decide, gTm (List.mem_of_getElem? (i := 127) (by decide +kernel)) (by decide +kernel)⟩
theorem fX6_106 : gFl RX6 106 0 5 := ⟨_, _, _, rfl, by decide, gTm (List.mem_of_getElem? (i := 129) (by decide +kernel)) (by decide +kernel)⟩
theorem fX6_109 : gFl RX6 109 0 6 := ⟨_, _, _, rfl, by decide, gTm (List.mem_of_getElem? (i := 132) (by decide +kernel)) (by decide +kernel)⟩
theorem fX6_112 : gFl RX6 112 0 7 := ⟨_, _, _, rfl, by decide, gTm (List.mem_of_getElem? (i := 135) (by decide +kernel)) (by decide +kernel)⟩
theorem fX6_132 : gFl RX6 132 0 0 := ⟨_, _, _, rfl, by decide, gTm (List.mem_of_getElem? (i := 117) (by decide +kernel)) (by decide +kernel)⟩
theorem fX6_147 : gFl RX6 147 0 1 := ⟨_, _, _, rfl, by decide, gTm (List.mem_of_getElem? (i := 119) (by decide +kernel)) (by decide +kernel)⟩
theorem fX6_150 : gFl RX6 150 0 2 := ⟨_, _, _, rfl, by decide, gTm (List.mem_of_getElem? (i := 121) (by decide +kernel)) (by decide +kernel)⟩
theorem fX6_188 : gFl RX6 188 5 3 := ⟨_, _, _, rfl, by decide, gTm (List.mem_of_getElem? (i := 97) (by decide +kernel)) (by decide +kernel)⟩
theorem fX6_191 : gFl RX6 191 5 4 := ⟨_, _, _, rfl, by decide, gTm (List.mem_of_getElem? (i := 100) (by decide +kernel)) (by decide +kernel)⟩
theorem fX6_233 : gFl RX6 233 5 0 := ⟨_, _, _, rfl, by decide, gTm (List.mem_of_getElem? (i := 91) (by decide +kernel)) (by decide +kernel)⟩
theorem fX6_277 : gFl RX6 277 5 2 := ⟨_, _, _, rfl, by decide, gTm (List.mem_of_getElem? (i := 94) (by decide +kernel)) (by decide +kernel)⟩
theorem fX6_298 : gFl RX6 298 3 1 := ⟨_, _, _, rfl, by decide, gTm (List.mem_of_getElem? (i := 236) (by decide +kernel)) (by decide +kernel)⟩
theorem fX6_317 : gFl RX6 317 6 12 := ⟨_, _, _, rfl, by decide, gTm (List.mem_of_getElem? (i := 259) (by decide +kernel)) (by decide +kernel)⟩
theorem fX6_320 : gFl RX6 320 3 2 := ⟨_, _, _, rfl, by decide, gTm (List.mem_of_getElem? (i := 238) (by decide +kernel)) (by decide +kernel)⟩
theorem fX7_7 : gFl RX7 7 7 0 := ⟨_, _, _, rfl, by decide, gTm (List.mem_of_getElem? (i := 841) (by decide +kernel)) (by decide +kernel)⟩
theorem fX7_13 : gFl RX7 13 7 1 := ⟨_, _, _, rfl, by decide, gTm (List.mem_of_getElem? (i := 842) (by decide +kernel)) (by decide +kernel)⟩
theorem fX7_16 : gFl RX7 16 7 4 := ⟨_, _, _, rfl, by decide, gTm (List.mem_of_getElem? (i := 845) (by decide +kernel)) (by decide +kernel)⟩
theorem fX7_19 : gFl RX7 19 7 13 := ⟨_, _, _, rfl, by decide, gTm (List.mem_of_getElem? (i := 854) (by decide +kernel)) (by decide +kernel)⟩
theorem fX7_22 : gFl RX7 22 7 14 := ⟨_, _, _, rfl, by decide, gTm (List.mem_of_getElem? (i := 855) (by decide +kernel)) (by decide +kernel)⟩
theorem fX7_25 : gFl RX7 25 7 18 := ⟨_, _, _, rfl, by decide, gTm (List.mem_of_getElem? (i := 859) (by decide +kernel)) (by decide +kernel)⟩
theorem fX7_28 : gFl RX7 28 7 19 := ⟨_, _, _, rfl, by decide, gTm (List.mem_of_getElem? (i := 860) (by decide +kernel)) (by decide +kernel)⟩
theorem fX7_31 : gFl RX7 31 7 20 := ⟨_, _, _, rfl, by decide, gTm (List.mem_of_getElem? (i := 861) (by decide +kernel)) (by decide +kernel)⟩
theorem fX7_34 : gFl RX7 34 7 22 := ⟨_, _, _, rfl, by decide, gTm (List.mem_of_getElem? (i := 863) (by decide +kernel)) (by decide +kernel)⟩
theorem fX7_37 : gFl RX7 37 7 24 := ⟨_, _, _, rfl, by decide, gTm (List.mem_of_getElem? (i := 865) (by decide +kernel)) (by decide +kernel)⟩
theorem fX7_40 : gFl RX7 40 7 25 := ⟨_, _, _, rfl, by decide, gTm (List.mem_of_getElem? (i := 866) (by decide +kernel)) (by decide +kernel)⟩
theorem fX7_44 : gFl RX7 44 7 26 := ⟨_, _, _, rfl, by decide, gTm (List.mem_of_getElem? (i := 867) (by decide +kernel)) (by decide +kernel)⟩
theorem fX7_47 : gFl RX7 47 7 27 := ⟨_, _, _, rfl, by decide, gTm (List.mem_of_getElem? (i := 868) (by decide +kernel)) (by decide +kernel)⟩
theorem fX7_50 : gFl RX7 50 7 28 := ⟨_, _, _, rfl, by decide, gTm (List.mem_of_getElem? (i := 869) (by decide +kernel)) (by decide +kernel)⟩
theorem fX7_59 : gFl RX7 59 7 5 := ⟨_, _, _, rfl, by decide, gTm (List.mem_of_getElem? (i := 846) (by decide +kernel)) (by decide +kernel)⟩
theorem fX7_63 : gFl RX7 63 7 7 := ⟨_, _, _, rfl, by decide, gTm (List.mem_of_getElem? (i := 848) (by decide +kernel)) (by decide +kernel)⟩
theorem fX7_66 : gFl RX7 66 7 10 := ⟨_, _, _, rfl, by decide, gTm (List.mem_of_getElem? (i := 851) (by decide +kernel)) (by decide +kernel)⟩
theorem fX7_69 : gFl RX7 69 7 8 := ⟨_, _, _, rfl, by decide, gTm (List.mem_of_getElem? (i := 849) (by decide +kernel)) (by decide +kernel)⟩
theorem fX7_72 : gFl RX7 72 7 11 := ⟨_, _, _, rfl, by decide, gTm (List.mem_of_getElem? (i := 852) (by decide +kernel)) (by decide +kernel)⟩
theorem fX7_75 : gFl RX7 75 7 9 := ⟨_, _, _, rfl, by decide, gTm (List.mem_of_getElem? (i := 850) (by decide +kernel)) (by decide +kernel)⟩
theorem fX7_82 : gFl RX7 82 7 12 := ⟨_, _, _, rfl, by decide, gTm (List.mem_of_getElem? (i := 853) (by decide +kernel)) (by decide +kernel)⟩
theorem fX7_110 : gFl RX7 110 7 2 := ⟨_, _, _, rfl, by decide, gTm (List.mem_of_getElem? (i := 843) (by decide +kernel)) (by decide +kernel)⟩
theorem fX7_114 : gFl RX7 114 7 3 := ⟨_, _, _, rfl, by decide, gTm (List.mem_of_getElem? (i := 844) (by decide +kernel)) (by decide +kernel)⟩
theorem fX7_123 : gFl RX7 123 7 6 := ⟨_, _, _, rfl, by decide, gTm (List.mem_of_getElem? (i := 847) (by decide +kernel)) (by decide +kernel)⟩
theorem fX7_126 : gFl RX7 126 7 23 := ⟨_, _, _, rfl, by decide, gTm (List.mem_of_getElem? (i := 864) (by decide +kernel)) (by decide +kernel)⟩
theorem fX7_202 : gFl RX7 202 7 17 := ⟨_, _, _, rfl, by decide, gTm (List.mem_of_getElem? (i := 858) (by decide +kernel)) (by decide +kernel)⟩
theorem fX7_209 : gFl RX7 209 7 15 := ⟨_, _, _, rfl, by decide, gTm (List.mem_of_getElem? (i := 856) (by decide +kernel)) (by decide +kernel)⟩
theorem fX7_212 : gFl RX7 212 7 16 := ⟨_, _, _, rfl, by decide, gTm (List.mem_of_getElem? (i := 857) (by decide +kernel)) (by decide +kernel)⟩
theorem fX7_233 : gFl RX7 233 7 21 := ⟨_, _, _, rfl, by decide, gTm (List.mem_of_getElem? (i := 862) (by decide +kernel)) (by decide +kernel)⟩
theorem fX7_264 : gFl RX7 264 7 29 := ⟨_, _, _, rfl, by decide, gTm (List.mem_of_getElem? (i := 870) (by decide +kernel)) (by decide +kernel)⟩
theorem mwX6_init : gMw yX6_init cX6_init 2 (none) 0 := ⟨gTm (List.mem_of_getElem? (i := 73) (by decide +kernel)) (by decide +kernel), gTm (List.mem_of_getElem? (i := 55) (by decide +kernel)) (by decide +kernel), by decide +kernel, by decide +kernel, by decide⟩
theorem miX6_init : gMi yX6_init := ⟨by decide +kernel, gTm (List.mem_of_getElem? (i := 72) (by decide +kernel)) (by decide +kernel)⟩
theorem mwX6_add : gMw yX6_add cX6_add 3 (some .int) 2 := ⟨gTm (List.mem_of_getElem? (i := 537) (by decide +kernel)) (by decide +kernel), gTm (List.mem_of_getElem? (i := 55) (by decide +kernel)) (by decide +kernel), by decide +kernel, by decide +kernel, by decide⟩
theorem mvX6_add : gMv yX6_add := ⟨gTm (List.mem_of_getElem? (i := 535) (by decide +kernel)) (by decide +kernel), gTm (List.mem_of_getElem? (i := 536) (by decide +kernel)) (by decide +kernel)⟩
theorem mwX6_addTo : gMw yX6_addTo cX6_addTo 3 (some .int) 3 := ⟨gTm (List.mem_of_getElem? (i := 540) (by decide +kernel)) (by decide +kernel), gTm (List.mem_of_getElem? (i := 55) (by decide +kernel)) (by decide +kernel), by decide +kernel, by decide +kernel, by decide⟩
theorem msX6_addTo : gMs yX6_addTo := gTm (List.mem_of_getElem? (i := 539) (by decide +kernel)) (by decide +kernel)
theorem mwX6_afresh : gMw yX6_afresh cX6_afresh 1 (some (.object "GeyserNerves$Ground")) 0 := ⟨gTm (List.mem_of_getElem? (i := 596) (by decide +kernel)) (by decide +kernel), gTm (List.mem_of_getElem? (i := 55) (by decide +kernel)) (by decide +kernel), by decide +kernel, by decide +kernel, by decide⟩
theorem mvX6_afresh : gMv yX6_afresh := ⟨gTm (List.mem_of_getElem? (i := 595) (by decide +kernel)) (by decide +kernel), gTm (List.mem_of_getElem? (i := 12) (by decide +kernel)) (by decide +kernel)⟩
theorem mwX6_again : gMw yX6_again cX6_again 3 (some .int) 0 := ⟨gTm (List.mem_of_getElem? (i := 631) (by decide +kernel)) (by decide +kernel), gTm (List.mem_of_getElem? (i := 55) (by decide +kernel)) (by decide +kernel), by decide +kernel, by decide +kernel, by decide⟩
theorem mvX6_again : gMv yX6_again := ⟨gTm (List.mem_of_getElem? (i := 629) (by decide +kernel)) (by decide +kernel), gTm (List.mem_of_getElem? (i := 630) (by decide +kernel)) (by decide +kernel)⟩
theorem mwX6_ahead : gMw yX6_ahead cX6_ahead 7 (some .int) 3 := ⟨gTm (List.mem_of_getElem? (i := 610) (by decide +kernel)) (by decide +kernel), gTm (List.mem_of_getElem? (i := 55) (by decide +kernel)) (by decide +kernel), by decide +kernel, by decide +kernel, by decide⟩
theorem mvX6_ahead : gMv yX6_ahead := ⟨gTm (List.mem_of_getElem? (i := 608) (by decide +kernel)) (by decide +kernel), gTm (List.mem_of_getElem? (i := 609) (by decide +kernel)) (by decide +kernel)⟩
theorem mwX6_alter : gMw yX6_alter cX6_alter 5 (some .int) 3 := ⟨gTm (List.mem_of_getElem? (i := 509) (by decide +kernel)) (by decide +kernel), gTm (List.mem_of_getElem? (i := 55) (by decide +kernel)) (by decide +kernel), by decide +kernel, by decide +kernel, by decide⟩
theorem mvX6_alter : gMv yX6_alter := ⟨gTm (List.mem_of_getElem? (i := 507) (by decide +kernel)) (by decide +kernel), gTm (List.mem_of_getElem? (i := 508) (by decide +kernel)) (by decide +kernel)⟩
theorem mwX6_areOdds : gMw yX6_areOdds cX6_areOdds 3 (some .boolean) 3 := ⟨gTm (List.mem_of_getElem? (i := 707) (by decide +kernel)) (by decide +kernel), gTm (List.mem_of_getElem? (i := 55) (by decide +kernel)) (by decide +kernel), by decide +kernel, by decide +kernel, by decide⟩
theorem msX6_areOdds : gMs yX6_areOdds := gTm (List.mem_of_getElem? (i := 706) (by decide +kernel)) (by decide +kernel)
theorem mwX6_ask : gMw yX6_ask cX6_ask 8 (some .int) 2 := ⟨gTm (List.mem_of_getElem? (i := 762) (by decide +kernel)) (by decide +kernel), gTm (List.mem_of_getElem? (i := 55) (by decide +kernel)) (by decide +kernel), by decide +kernel, by decide +kernel, by decide⟩
theorem mvX6_ask : gMv yX6_ask := ⟨gTm (List.mem_of_getElem? (i := 760) (by decide +kernel)) (by decide +kernel), gTm (List.mem_of_getElem? (i := 761) (by decide +kernel)) (by decide +kernel)⟩
theorem mwX6_back : gMw yX6_back cX6_back 2 (some .int) 1 := ⟨gTm (List.mem_of_getElem? (i := 783) (by decide +kernel)) (by decide +kernel), gTm (List.mem_of_getElem? (i := 55) (by decide +kernel)) (by decide +kernel), by decide +kernel, by decide +kernel, by decide⟩
theorem mvX6_back : gMv yX6_back := ⟨gTm (List.mem_of_getElem? (i := 781) (by decide +kernel)) (by decide +kernel), gTm (List.mem_of_getElem? (i := 782) (by decide +kernel)) (by decide +kernel)⟩
theorem mwX6_bears : gMw yX6_bears cX6_bears 6 (some .int) 2 := ⟨gTm (List.mem_of_getElem? (i := 670) (by decide +kernel)) (by decide +kernel), gTm (List.mem_of_getElem? (i := 55) (by decide +kernel)) (by decide +kernel), by decide +kernel, by decide +kernel, by decide⟩
theorem mvX6_bears : gMv yX6_bears := ⟨gTm (List.mem_of_getElem? (i := 668) (by decide +kernel)) (by decide +kernel), gTm (List.mem_of_getElem? (i := 669) (by decide +kernel)) (by decide +kernel)⟩
theorem mwX6_bit : gMw yX6_bit cX6_bit 2 (some .int) 2 := ⟨gTm (List.mem_of_getElem? (i := 617) (by decide +kernel)) (by decide +kernel), gTm (List.mem_of_getElem? (i := 55) (by decide +kernel)) (by decide +kernel), by decide +kernel, by decide +kernel, by decide⟩
theorem msX6_bit : gMs yX6_bit := gTm (List.mem_of_getElem? (i := 616) (by decide +kernel)) (by decide +kernel)
theorem mwX6_companyOnRoute : gMw yX6_companyOnRoute cX6_companyOnRoute 7 (some .int) 3 := ⟨gTm (List.mem_of_getElem? (i := 655) (by decide +kernel)) (by decide +kernel), gTm (List.mem_of_getElem? (i := 55) (by decide +kernel)) (by decide +kernel), by decide +kernel, by decide +kernel, by decide⟩
theorem mvX6_companyOnRoute : gMv yX6_companyOnRoute := ⟨gTm (List.mem_of_getElem? (i := 654) (by decide +kernel)) (by decide +kernel), gTm (List.mem_of_getElem? (i := 14) (by decide +kernel)) (by decide +kernel)⟩
theorem mwX6_count : gMw yX6_count cX6_count 2 (some .int) 1 := ⟨gTm (List.mem_of_getElem? (i := 830) (by decide +kernel)) (by decide +kernel), gTm (List.mem_of_getElem? (i := 55) (by decide +kernel)) (by decide +kernel), by decide +kernel, by decide +kernel, by decide⟩
theorem mvX6_count : gMv yX6_count := ⟨gTm (List.mem_of_getElem? (i := 828) (by decide +kernel)) (by decide +kernel), gTm (List.mem_of_getElem? (i := 829) (by decide +kernel)) (by decide +kernel)⟩
theorem mwX6_cut : gMw yX6_cut cX6_cut 3 (some .int) 1 := ⟨gTm (List.mem_of_getElem? (i := 533) (by decide +kernel)) (by decide +kernel), gTm (List.mem_of_getElem? (i := 55) (by decide +kernel)) (by decide +kernel), by decide +kernel, by decide +kernel, by decide⟩
theorem mvX6_cut : gMv yX6_cut := ⟨gTm (List.mem_of_getElem? (i := 531) (by decide +kernel)) (by decide +kernel), gTm (List.mem_of_getElem? (i := 532) (by decide +kernel)) (by decide +kernel)⟩
theorem mwX6_drop : gMw yX6_drop cX6_drop 3 (some .int) 1 := ⟨gTm (List.mem_of_getElem? (i := 545) (by decide +kernel)) (by decide +kernel), gTm (List.mem_of_getElem? (i := 55) (by decide +kernel)) (by decide +kernel), by decide +kernel, by decide +kernel, by decide⟩
theorem mvX6_drop : gMv yX6_drop := ⟨gTm (List.mem_of_getElem? (i := 543) (by decide +kernel)) (by decide +kernel), gTm (List.mem_of_getElem? (i := 544) (by decide +kernel)) (by decide +kernel)⟩
theorem mwX6_end : gMw yX6_end cX6_end 3 (some .int) 1 := ⟨gTm (List.mem_of_getElem? (i := 301) (by decide +kernel)) (by decide +kernel), gTm (List.mem_of_getElem? (i := 55) (by decide +kernel)) (by decide +kernel), by decide +kernel, by decide +kernel, by decide⟩
theorem mvX6_end : gMv yX6_end := ⟨gTm (List.mem_of_getElem? (i := 299) (by decide +kernel)) (by decide +kernel), gTm (List.mem_of_getElem? (i := 300) (by decide +kernel)) (by decide +kernel)⟩
theorem mwX6_fault : gMw yX6_fault cX6_fault 1 (some .int) 0 := ⟨gTm (List.mem_of_getElem? (i := 455) (by decide +kernel)) (by decide +kernel), gTm (List.mem_of_getElem? (i := 55) (by decide +kernel)) (by decide +kernel), by decide +kernel, by decide +kernel, by decide⟩
theorem mvX6_fault : gMv yX6_fault := ⟨gTm (List.mem_of_getElem? (i := 453) (by decide +kernel)) (by decide +kernel), gTm (List.mem_of_getElem? (i := 454) (by decide +kernel)) (by decide +kernel)⟩
theorem mwX6_feed : gMw yX6_feed cX6_feed 2 (some .int) 1 := ⟨gTm (List.mem_of_getElem? (i := 290) (by decide +kernel)) (by decide +kernel), gTm (List.mem_of_getElem? (i := 55) (by decide +kernel)) (by decide +kernel), by decide +kernel, by decide +kernel, by decide⟩
theorem mvX6_feed : gMv yX6_feed := ⟨gTm (List.mem_of_getElem? (i := 288) (by decide +kernel)) (by decide +kernel), gTm (List.mem_of_getElem? (i := 289) (by decide +kernel)) (by decide +kernel)⟩
theorem mwX6_fitsVent : gMw yX6_fitsVent cX6_fitsVent 2 (some .boolean) 2 := ⟨gTm (List.mem_of_getElem? (i := 512) (by decide +kernel)) (by decide +kernel), gTm (List.mem_of_getElem? (i := 55) (by decide +kernel)) (by decide +kernel), by decide +kernel, by decide +kernel, by decide⟩
theorem msX6_fitsVent : gMs yX6_fitsVent := gTm (List.mem_of_getElem? (i := 511) (by decide +kernel)) (by decide +kernel)
theorem mwX6_flow : gMw yX6_flow cX6_flow 6 (some .int) 3 := ⟨gTm (List.mem_of_getElem? (i := 678) (by decide +kernel)) (by decide +kernel), gTm (List.mem_of_getElem? (i := 55) (by decide +kernel)) (by decide +kernel), by decide +kernel, by decide +kernel, by decide⟩
theorem mvX6_flow : gMv yX6_flow := ⟨gTm (List.mem_of_getElem? (i := 676) (by decide +kernel)) (by decide +kernel), gTm (List.mem_of_getElem? (i := 677) (by decide +kernel)) (by decide +kernel)⟩
theorem mwX6_forget : gMw yX6_forget cX6_forget 3 (some .int) 1 := ⟨gTm (List.mem_of_getElem? (i := 737) (by decide +kernel)) (by decide +kernel), gTm (List.mem_of_getElem? (i := 55) (by decide +kernel)) (by decide +kernel), by decide +kernel, by decide +kernel, by decide⟩
theorem mvX6_forget : gMv yX6_forget := ⟨gTm (List.mem_of_getElem? (i := 735) (by decide +kernel)) (by decide +kernel), gTm (List.mem_of_getElem? (i := 736) (by decide +kernel)) (by decide +kernel)⟩
theorem mwX6_geyser : gMw yX6_geyser cX6_geyser 3 (some .int) 2 := ⟨gTm (List.mem_of_getElem? (i := 487) (by decide +kernel)) (by decide +kernel), gTm (List.mem_of_getElem? (i := 55) (by decide +kernel)) (by decide +kernel), by decide +kernel, by decide +kernel, by decide⟩
theorem mvX6_geyser : gMv yX6_geyser := ⟨gTm (List.mem_of_getElem? (i := 485) (by decide +kernel)) (by decide +kernel), gTm (List.mem_of_getElem? (i := 486) (by decide +kernel)) (by decide +kernel)⟩
theorem mwX6_goesAsSeen : gMw yX6_goesAsSeen cX6_goesAsSeen 3 (some .boolean) 1 := ⟨gTm (List.mem_of_getElem? (i := 745) (by decide +kernel)) (by decide +kernel), gTm (List.mem_of_getElem? (i := 55) (by decide +kernel)) (by decide +kernel), by decide +kernel, by decide +kernel, by decide⟩
theorem mvX6_goesAsSeen : gMv yX6_goesAsSeen := ⟨gTm (List.mem_of_getElem? (i := 744) (by decide +kernel)) (by decide +kernel), gTm (List.mem_of_getElem? (i := 19) (by decide +kernel)) (by decide +kernel)⟩
theorem mwX6_goesAsSeenByNerve : gMw yX6_goesAsSeenByNerve cX6_goesAsSeenByNerve 4 (some .boolean) 2 := ⟨gTm (List.mem_of_getElem? (i := 758) (by decide +kernel)) (by decide +kernel), gTm (List.mem_of_getElem? (i := 55) (by decide +kernel)) (by decide +kernel), by decide +kernel, by decide +kernel, by decide⟩
theorem mvX6_goesAsSeenByNerve : gMv yX6_goesAsSeenByNerve := ⟨gTm (List.mem_of_getElem? (i := 757) (by decide +kernel)) (by decide +kernel), gTm (List.mem_of_getElem? (i := 20) (by decide +kernel)) (by decide +kernel)⟩
theorem mwX6_hours : gMw yX6_hours cX6_hours 2 (some .int) 1 := ⟨gTm (List.mem_of_getElem? (i := 549) (by decide +kernel)) (by decide +kernel), gTm (List.mem_of_getElem? (i := 55) (by decide +kernel)) (by decide +kernel), by decide +kernel, by decide +kernel, by decide⟩
theorem mvX6_hours : gMv yX6_hours := ⟨gTm (List.mem_of_getElem? (i := 547) (by decide +kernel)) (by decide +kernel), gTm (List.mem_of_getElem? (i := 548) (by decide +kernel)) (by decide +kernel)⟩
theorem mwX6_hoursOf : gMw yX6_hoursOf cX6_hoursOf 5 (some .long) 1 := ⟨gTm (List.mem_of_getElem? (i := 766) (by decide +kernel)) (by decide +kernel), gTm (List.mem_of_getElem? (i := 55) (by decide +kernel)) (by decide +kernel), by decide +kernel, by decide +kernel, by decide⟩
theorem mvX6_hoursOf : gMv yX6_hoursOf := ⟨gTm (List.mem_of_getElem? (i := 765) (by decide +kernel)) (by decide +kernel), gTm (List.mem_of_getElem? (i := 21) (by decide +kernel)) (by decide +kernel)⟩
theorem mwX6_isAhead : gMw yX6_isAhead cX6_isAhead 1 (some .boolean) 1 := ⟨gTm (List.mem_of_getElem? (i := 592) (by decide +kernel)) (by decide +kernel), gTm (List.mem_of_getElem? (i := 55) (by decide +kernel)) (by decide +kernel), by decide +kernel, by decide +kernel, by decide⟩
theorem msX6_isAhead : gMs yX6_isAhead := gTm (List.mem_of_getElem? (i := 591) (by decide +kernel)) (by decide +kernel)
theorem mwX6_isLane : gMw yX6_isLane cX6_isLane 1 (some .boolean) 1 := ⟨gTm (List.mem_of_getElem? (i := 790) (by decide +kernel)) (by decide +kernel), gTm (List.mem_of_getElem? (i := 55) (by decide +kernel)) (by decide +kernel), by decide +kernel, by decide +kernel, by decide⟩
theorem msX6_isLane : gMs yX6_isLane := gTm (List.mem_of_getElem? (i := 789) (by decide +kernel)) (by decide +kernel)
theorem mwX6_keep : gMw yX6_keep cX6_keep 3 (some .int) 1 := ⟨gTm (List.mem_of_getElem? (i := 779) (by decide +kernel)) (by decide +kernel), gTm (List.mem_of_getElem? (i := 55) (by decide +kernel)) (by decide +kernel), by decide +kernel, by decide +kernel, by decide⟩
theorem mvX6_keep : gMv yX6_keep := ⟨gTm (List.mem_of_getElem? (i := 777) (by decide +kernel)) (by decide +kernel), gTm (List.mem_of_getElem? (i := 778) (by decide +kernel)) (by decide +kernel)⟩
theorem mwX6_kind : gMw yX6_kind cX6_kind 9 (some .int) 3 := ⟨gTm (List.mem_of_getElem? (i := 682) (by decide +kernel)) (by decide +kernel), gTm (List.mem_of_getElem? (i := 55) (by decide +kernel)) (by decide +kernel), by decide +kernel, by decide +kernel, by decide⟩
theorem mvX6_kind : gMv yX6_kind := ⟨gTm (List.mem_of_getElem? (i := 680) (by decide +kernel)) (by decide +kernel), gTm (List.mem_of_getElem? (i := 681) (by decide +kernel)) (by decide +kernel)⟩
theorem mwX6_kinds : gMw yX6_kinds cX6_kinds 5 (some .int) 1 := ⟨gTm (List.mem_of_getElem? (i := 741) (by decide +kernel)) (by decide +kernel), gTm (List.mem_of_getElem? (i := 55) (by decide +kernel)) (by decide +kernel), by decide +kernel, by decide +kernel, by decide⟩
theorem mvX6_kinds : gMv yX6_kinds := ⟨gTm (List.mem_of_getElem? (i := 739) (by decide +kernel)) (by decide +kernel), gTm (List.mem_of_getElem? (i := 740) (by decide +kernel)) (by decide +kernel)⟩
theorem mwX6_lay : gMw yX6_lay cX6_lay 5 (some .int) 3 := ⟨gTm (List.mem_of_getElem? (i := 800) (by decide +kernel)) (by decide +kernel), gTm (List.mem_of_getElem? (i := 55) (by decide +kernel)) (by decide +kernel), by decide +kernel, by decide +kernel, by decide⟩
theorem mvX6_lay : gMv yX6_lay := ⟨gTm (List.mem_of_getElem? (i := 798) (by decide +kernel)) (by decide +kernel), gTm (List.mem_of_getElem? (i := 799) (by decide +kernel)) (by decide +kernel)⟩
theorem mwX6_leastFor : gMw yX6_leastFor cX6_leastFor 8 (some .int) 4 := ⟨gTm (List.mem_of_getElem? (i := 690) (by decide +kernel)) (by decide +kernel), gTm (List.mem_of_getElem? (i := 55) (by decide +kernel)) (by decide +kernel), by decide +kernel, by decide +kernel, by decide⟩
theorem mvX6_leastFor : gMv yX6_leastFor := ⟨gTm (List.mem_of_getElem? (i := 689) (by decide +kernel)) (by decide +kernel), gTm (List.mem_of_getElem? (i := 16) (by decide +kernel)) (by decide +kernel)⟩
theorem mwX6_leftAtWorst : gMw yX6_leftAtWorst cX6_leftAtWorst 5 (some .int) 2 := ⟨gTm (List.mem_of_getElem? (i := 770) (by decide +kernel)) (by decide +kernel), gTm (List.mem_of_getElem? (i := 55) (by decide +kernel)) (by decide +kernel), by decide +kernel, by decide +kernel, by decide⟩
theorem mvX6_leftAtWorst : gMv yX6_leftAtWorst := ⟨gTm (List.mem_of_getElem? (i := 769) (by decide +kernel)) (by decide +kernel), gTm (List.mem_of_getElem? (i := 22) (by decide +kernel)) (by decide +kernel)⟩
theorem mwX6_lowest : gMw yX6_lowest cX6_lowest 12 (some .long) 3 := ⟨gTm (List.mem_of_getElem? (i := 721) (by decide +kernel)) (by decide +kernel), gTm (List.mem_of_getElem? (i := 55) (by decide +kernel)) (by decide +kernel), by decide +kernel, by decide +kernel, by decide⟩
theorem msX6_lowest : gMs yX6_lowest := gTm (List.mem_of_getElem? (i := 720) (by decide +kernel)) (by decide +kernel)
theorem mwX6_luck : gMw yX6_luck cX6_luck 8 (some .long) 4 := ⟨gTm (List.mem_of_getElem? (i := 704) (by decide +kernel)) (by decide +kernel), gTm (List.mem_of_getElem? (i := 55) (by decide +kernel)) (by decide +kernel), by decide +kernel, by decide +kernel, by decide⟩
theorem mvX6_luck : gMv yX6_luck := ⟨gTm (List.mem_of_getElem? (i := 702) (by decide +kernel)) (by decide +kernel), gTm (List.mem_of_getElem? (i := 703) (by decide +kernel)) (by decide +kernel)⟩
theorem mwX6_mean : gMw yX6_mean cX6_mean 7 (some .long) 3 := ⟨gTm (List.mem_of_getElem? (i := 725) (by decide +kernel)) (by decide +kernel), gTm (List.mem_of_getElem? (i := 55) (by decide +kernel)) (by decide +kernel), by decide +kernel, by decide +kernel, by decide⟩
theorem mvX6_mean : gMv yX6_mean := ⟨gTm (List.mem_of_getElem? (i := 723) (by decide +kernel)) (by decide +kernel), gTm (List.mem_of_getElem? (i := 724) (by decide +kernel)) (by decide +kernel)⟩
theorem mwX6_mostFrom : gMw yX6_mostFrom cX6_mostFrom 5 (some .int) 2 := ⟨gTm (List.mem_of_getElem? (i := 699) (by decide +kernel)) (by decide +kernel), gTm (List.mem_of_getElem? (i := 55) (by decide +kernel)) (by decide +kernel), by decide +kernel, by decide +kernel, by decide⟩
theorem mvX6_mostFrom : gMv yX6_mostFrom := ⟨gTm (List.mem_of_getElem? (i := 698) (by decide +kernel)) (by decide +kernel), gTm (List.mem_of_getElem? (i := 17) (by decide +kernel)) (by decide +kernel)⟩
theorem mwX6_nerves : gMw yX6_nerves cX6_nerves 4 (some .int) 1 := ⟨gTm (List.mem_of_getElem? (i := 754) (by decide +kernel)) (by decide +kernel), gTm (List.mem_of_getElem? (i := 55) (by decide +kernel)) (by decide +kernel), by decide +kernel, by decide +kernel, by decide⟩
theorem mvX6_nerves : gMv yX6_nerves := ⟨gTm (List.mem_of_getElem? (i := 752) (by decide +kernel)) (by decide +kernel), gTm (List.mem_of_getElem? (i := 753) (by decide +kernel)) (by decide +kernel)⟩
theorem mwX6_open : gMw yX6_open cX6_open 4 (some .int) 3 := ⟨gTm (List.mem_of_getElem? (i := 528) (by decide +kernel)) (by decide +kernel), gTm (List.mem_of_getElem? (i := 55) (by decide +kernel)) (by decide +kernel), by decide +kernel, by decide +kernel, by decide⟩
theorem mvX6_open : gMv yX6_open := ⟨gTm (List.mem_of_getElem? (i := 526) (by decide +kernel)) (by decide +kernel), gTm (List.mem_of_getElem? (i := 527) (by decide +kernel)) (by decide +kernel)⟩
theorem mwX6_play : gMw yX6_play cX6_play 7 (some .int) 2 := ⟨gTm (List.mem_of_getElem? (i := 686) (by decide +kernel)) (by decide +kernel), gTm (List.mem_of_getElem? (i := 55) (by decide +kernel)) (by decide +kernel), by decide +kernel, by decide +kernel, by decide⟩
theorem mvX6_play : gMv yX6_play := ⟨gTm (List.mem_of_getElem? (i := 684) (by decide +kernel)) (by decide +kernel), gTm (List.mem_of_getElem? (i := 685) (by decide +kernel)) (by decide +kernel)⟩
theorem mwX6_power : gMw yX6_power cX6_power 5 (some .long) 2 := ⟨gTm (List.mem_of_getElem? (i := 718) (by decide +kernel)) (by decide +kernel), gTm (List.mem_of_getElem? (i := 55) (by decide +kernel)) (by decide +kernel), by decide +kernel, by decide +kernel, by decide⟩
theorem msX6_power : gMs yX6_power := gTm (List.mem_of_getElem? (i := 717) (by decide +kernel)) (by decide +kernel)
theorem mwX6_read : gMw yX6_read cX6_read 11 (some .int) 4 := ⟨gTm (List.mem_of_getElem? (i := 812) (by decide +kernel)) (by decide +kernel), gTm (List.mem_of_getElem? (i := 55) (by decide +kernel)) (by decide +kernel), by decide +kernel, by decide +kernel, by decide⟩
theorem mvX6_read : gMv yX6_read := ⟨gTm (List.mem_of_getElem? (i := 810) (by decide +kernel)) (by decide +kernel), gTm (List.mem_of_getElem? (i := 811) (by decide +kernel)) (by decide +kernel)⟩
theorem mwX6_route : gMw yX6_route cX6_route 8 (some .int) 2 := ⟨gTm (List.mem_of_getElem? (i := 647) (by decide +kernel)) (by decide +kernel), gTm (List.mem_of_getElem? (i := 55) (by decide +kernel)) (by decide +kernel), by decide +kernel, by decide +kernel, by decide⟩
theorem mvX6_route : gMv yX6_route := ⟨gTm (List.mem_of_getElem? (i := 645) (by decide +kernel)) (by decide +kernel), gTm (List.mem_of_getElem? (i := 646) (by decide +kernel)) (by decide +kernel)⟩
theorem mwX6_row : gMw yX6_row cX6_row 3 (some .int) 2 := ⟨gTm (List.mem_of_getElem? (i := 504) (by decide +kernel)) (by decide +kernel), gTm (List.mem_of_getElem? (i := 55) (by decide +kernel)) (by decide +kernel), by decide +kernel, by decide +kernel, by decide⟩
theorem mvX6_row : gMv yX6_row := ⟨gTm (List.mem_of_getElem? (i := 502) (by decide +kernel)) (by decide +kernel), gTm (List.mem_of_getElem? (i := 503) (by decide +kernel)) (by decide +kernel)⟩
theorem mwX6_rule : gMw yX6_rule cX6_rule 2 (some .int) 1 := ⟨gTm (List.mem_of_getElem? (i := 459) (by decide +kernel)) (by decide +kernel), gTm (List.mem_of_getElem? (i := 55) (by decide +kernel)) (by decide +kernel), by decide +kernel, by decide +kernel, by decide⟩
theorem mvX6_rule : gMv yX6_rule := ⟨gTm (List.mem_of_getElem? (i := 457) (by decide +kernel)) (by decide +kernel), gTm (List.mem_of_getElem? (i := 458) (by decide +kernel)) (by decide +kernel)⟩
theorem mwX6_runs : gMw yX6_runs cX6_runs 3 (some .int) 2 := ⟨gTm (List.mem_of_getElem? (i := 589) (by decide +kernel)) (by decide +kernel), gTm (List.mem_of_getElem? (i := 55) (by decide +kernel)) (by decide +kernel), by decide +kernel, by decide +kernel, by decide⟩
theorem mvX6_runs : gMv yX6_runs := ⟨gTm (List.mem_of_getElem? (i := 587) (by decide +kernel)) (by decide +kernel), gTm (List.mem_of_getElem? (i := 588) (by decide +kernel)) (by decide +kernel)⟩
theorem mwX6_season : gMw yX6_season cX6_season 9 (some .int) 3 := ⟨gTm (List.mem_of_getElem? (i := 774) (by decide +kernel)) (by decide +kernel), gTm (List.mem_of_getElem? (i := 55) (by decide +kernel)) (by decide +kernel), by decide +kernel, by decide +kernel, by decide⟩
theorem mvX6_season : gMv yX6_season := ⟨gTm (List.mem_of_getElem? (i := 772) (by decide +kernel)) (by decide +kernel), gTm (List.mem_of_getElem? (i := 773) (by decide +kernel)) (by decide +kernel)⟩
theorem mwX6_see : gMw yX6_see cX6_see 4 (some .int) 3 := ⟨gTm (List.mem_of_getElem? (i := 729) (by decide +kernel)) (by decide +kernel), gTm (List.mem_of_getElem? (i := 55) (by decide +kernel)) (by decide +kernel), by decide +kernel, by decide +kernel, by decide⟩
theorem mvX6_see : gMv yX6_see := ⟨gTm (List.mem_of_getElem? (i := 727) (by decide +kernel)) (by decide +kernel), gTm (List.mem_of_getElem? (i := 728) (by decide +kernel)) (by decide +kernel)⟩
theorem mwX6_set : gMw yX6_set cX6_set 5 (some .int) 3 := ⟨gTm (List.mem_of_getElem? (i := 524) (by decide +kernel)) (by decide +kernel), gTm (List.mem_of_getElem? (i := 55) (by decide +kernel)) (by decide +kernel), by decide +kernel, by decide +kernel, by decide⟩
theorem mvX6_set : gMv yX6_set := ⟨gTm (List.mem_of_getElem? (i := 522) (by decide +kernel)) (by decide +kernel), gTm (List.mem_of_getElem? (i := 523) (by decide +kernel)) (by decide +kernel)⟩
theorem mwX6_sheet : gMw yX6_sheet cX6_sheet 4 (some .int) 3 := ⟨gTm (List.mem_of_getElem? (i := 787) (by decide +kernel)) (by decide +kernel), gTm (List.mem_of_getElem? (i := 55) (by decide +kernel)) (by decide +kernel), by decide +kernel, by decide +kernel, by decide⟩
theorem mvX6_sheet : gMv yX6_sheet := ⟨gTm (List.mem_of_getElem? (i := 785) (by decide +kernel)) (by decide +kernel), gTm (List.mem_of_getElem? (i := 786) (by decide +kernel)) (by decide +kernel)⟩
theorem mwX6_swap : gMw yX6_swap cX6_swap 9 (some .int) 2 := ⟨gTm (List.mem_of_getElem? (i := 662) (by decide +kernel)) (by decide +kernel), gTm (List.mem_of_getElem? (i := 55) (by decide +kernel)) (by decide +kernel), by decide +kernel, by decide +kernel, by decide⟩
theorem mvX6_swap : gMv yX6_swap := ⟨gTm (List.mem_of_getElem? (i := 660) (by decide +kernel)) (by decide +kernel), gTm (List.mem_of_getElem? (i := 661) (by decide +kernel)) (by decide +kernel)⟩
theorem mwX6_tell : gMw yX6_tell cX6_tell 4 (some .int) 2 := ⟨gTm (List.mem_of_getElem? (i := 520) (by decide +kernel)) (by decide +kernel), gTm (List.mem_of_getElem? (i := 55) (by decide +kernel)) (by decide +kernel), by decide +kernel, by decide +kernel, by decide⟩
theorem mvX6_tell : gMv yX6_tell := ⟨gTm (List.mem_of_getElem? (i := 518) (by decide +kernel)) (by decide +kernel), gTm (List.mem_of_getElem? (i := 519) (by decide +kernel)) (by decide +kernel)⟩
theorem mwX6_text : gMw yX6_text cX6_text 3 (some .int) 0 := ⟨gTm (List.mem_of_getElem? (i := 305) (by decide +kernel)) (by decide +kernel), gTm (List.mem_of_getElem? (i := 55) (by decide +kernel)) (by decide +kernel), by decide +kernel, by decide +kernel, by decide⟩
theorem mvX6_text : gMv yX6_text := ⟨gTm (List.mem_of_getElem? (i := 303) (by decide +kernel)) (by decide +kernel), gTm (List.mem_of_getElem? (i := 304) (by decide +kernel)) (by decide +kernel)⟩
theorem mwX6_torn : gMw yX6_torn cX6_torn 1 (some .int) 0 := ⟨gTm (List.mem_of_getElem? (i := 826) (by decide +kernel)) (by decide +kernel), gTm (List.mem_of_getElem? (i := 55) (by decide +kernel)) (by decide +kernel), by decide +kernel, by decide +kernel, by decide⟩
theorem mvX6_torn : gMv yX6_torn := ⟨gTm (List.mem_of_getElem? (i := 824) (by decide +kernel)) (by decide +kernel), gTm (List.mem_of_getElem? (i := 825) (by decide +kernel)) (by decide +kernel)⟩
theorem mwX6_ups : gMw yX6_ups cX6_ups 3 (some .int) 1 := ⟨gTm (List.mem_of_getElem? (i := 621) (by decide +kernel)) (by decide +kernel), gTm (List.mem_of_getElem? (i := 55) (by decide +kernel)) (by decide +kernel), by decide +kernel, by decide +kernel, by decide⟩
theorem mvX6_ups : gMv yX6_ups := ⟨gTm (List.mem_of_getElem? (i := 619) (by decide +kernel)) (by decide +kernel), gTm (List.mem_of_getElem? (i := 620) (by decide +kernel)) (by decide +kernel)⟩
theorem mwX6_upsByOdds : gMw yX6_upsByOdds cX6_upsByOdds 8 (some .int) 3 := ⟨gTm (List.mem_of_getElem? (i := 712) (by decide +kernel)) (by decide +kernel), gTm (List.mem_of_getElem? (i := 55) (by decide +kernel)) (by decide +kernel), by decide +kernel, by decide +kernel, by decide⟩
theorem mvX6_upsByOdds : gMv yX6_upsByOdds := ⟨gTm (List.mem_of_getElem? (i := 711) (by decide +kernel)) (by decide +kernel), gTm (List.mem_of_getElem? (i := 18) (by decide +kernel)) (by decide +kernel)⟩
theorem mwX6_upsByRoute : gMw yX6_upsByRoute cX6_upsByRoute 6 (some .int) 2 := ⟨gTm (List.mem_of_getElem? (i := 651) (by decide +kernel)) (by decide +kernel), gTm (List.mem_of_getElem? (i := 55) (by decide +kernel)) (by decide +kernel), by decide +kernel, by decide +kernel, by decide⟩
theorem mvX6_upsByRoute : gMv yX6_upsByRoute := ⟨gTm (List.mem_of_getElem? (i := 650) (by decide +kernel)) (by decide +kernel), gTm (List.mem_of_getElem? (i := 13) (by decide +kernel)) (by decide +kernel)⟩
theorem mwX6_upsWithWatchers : gMw yX6_upsWithWatchers cX6_upsWithWatchers 5 (some .int) 3 := ⟨gTm (List.mem_of_getElem? (i := 674) (by decide +kernel)) (by decide +kernel), gTm (List.mem_of_getElem? (i := 55) (by decide +kernel)) (by decide +kernel), by decide +kernel, by decide +kernel, by decide⟩
theorem mvX6_upsWithWatchers : gMv yX6_upsWithWatchers := ⟨gTm (List.mem_of_getElem? (i := 673) (by decide +kernel)) (by decide +kernel), gTm (List.mem_of_getElem? (i := 15) (by decide +kernel)) (by decide +kernel)⟩
theorem mwX6_weight : gMw yX6_weight cX6_weight 4 (some .long) 3 := ⟨gTm (List.mem_of_getElem? (i := 715) (by decide +kernel)) (by decide +kernel), gTm (List.mem_of_getElem? (i := 55) (by decide +kernel)) (by decide +kernel), by decide +kernel, by decide +kernel, by decide⟩
theorem msX6_weight : gMs yX6_weight := gTm (List.mem_of_getElem? (i := 714) (by decide +kernel)) (by decide +kernel)
theorem mwX6_when : gMw yX6_when cX6_when 4 (some .int) 1 := ⟨gTm (List.mem_of_getElem? (i := 626) (by decide +kernel)) (by decide +kernel), gTm (List.mem_of_getElem? (i := 55) (by decide +kernel)) (by decide +kernel), by decide +kernel, by decide +kernel, by decide⟩
theorem mvX6_when : gMv yX6_when := ⟨gTm (List.mem_of_getElem? (i := 624) (by decide +kernel)) (by decide +kernel), gTm (List.mem_of_getElem? (i := 625) (by decide +kernel)) (by decide +kernel)⟩
theorem mwX6_whom : gMw yX6_whom cX6_whom 9 (some .int) 3 := ⟨gTm (List.mem_of_getElem? (i := 639) (by decide +kernel)) (by decide +kernel), gTm (List.mem_of_getElem? (i := 55) (by decide +kernel)) (by decide +kernel), by decide +kernel, by decide +kernel, by decide⟩
theorem mvX6_whom : gMv yX6_whom := ⟨gTm (List.mem_of_getElem? (i := 637) (by decide +kernel)) (by decide +kernel), gTm (List.mem_of_getElem? (i := 638) (by decide +kernel)) (by decide +kernel)⟩
theorem mwX6_within : gMw yX6_within cX6_within 3 (some .boolean) 3 := ⟨gTm (List.mem_of_getElem? (i := 293) (by decide +kernel)) (by decide +kernel), gTm (List.mem_of_getElem? (i := 55) (by decide +kernel)) (by decide +kernel), by decide +kernel, by decide +kernel, by decide⟩
theorem msX6_within : gMs yX6_within := gTm (List.mem_of_getElem? (i := 292) (by decide +kernel)) (by decide +kernel)
theorem mwX0_init : gMw yX0_init cX0_init 2 (none) 0 := ⟨gTm (List.mem_of_getElem? (i := 81) (by decide +kernel)) (by decide +kernel), gTm (List.mem_of_getElem? (i := 56) (by decide +kernel)) (by decide +kernel), by decide +kernel, by decide +kernel, by decide⟩
theorem miX0_init : gMi yX0_init := ⟨by decide +kernel, gTm (List.mem_of_getElem? (i := 80) (by decide +kernel)) (by decide +kernel)⟩
theorem mwX0_become : gMw yX0_become cX0_become 3 (none) 1 := ⟨gTm (List.mem_of_getElem? (i := 443) (by decide +kernel)) (by decide +kernel), gTm (List.mem_of_getElem? (i := 56) (by decide +kernel)) (by decide +kernel), by decide +kernel, by decide +kernel, by decide⟩
theorem mvX0_become : gMv yX0_become := ⟨gTm (List.mem_of_getElem? (i := 441) (by decide +kernel)) (by decide +kernel), gTm (List.mem_of_getElem? (i := 442) (by decide +kernel)) (by decide +kernel)⟩
theorem mwX0_choice : gMw yX0_choice cX0_choice 2 (some .int) 1 := ⟨gTm (List.mem_of_getElem? (i := 643) (by decide +kernel)) (by decide +kernel), gTm (List.mem_of_getElem? (i := 56) (by decide +kernel)) (by decide +kernel), by decide +kernel, by decide +kernel, by decide⟩
theorem mvX0_choice : gMv yX0_choice := ⟨gTm (List.mem_of_getElem? (i := 641) (by decide +kernel)) (by decide +kernel), gTm (List.mem_of_getElem? (i := 642) (by decide +kernel)) (by decide +kernel)⟩
theorem mwX0_clear : gMw yX0_clear cX0_clear 1 (none) 0 := ⟨gTm (List.mem_of_getElem? (i := 313) (by decide +kernel)) (by decide +kernel), gTm (List.mem_of_getElem? (i := 56) (by decide +kernel)) (by decide +kernel), by decide +kernel, by decide +kernel, by decide⟩
theorem mvX0_clear : gMv yX0_clear := ⟨gTm (List.mem_of_getElem? (i := 311) (by decide +kernel)) (by decide +kernel), gTm (List.mem_of_getElem? (i := 312) (by decide +kernel)) (by decide +kernel)⟩
theorem mwX0_companyNow : gMw yX0_companyNow cX0_companyNow 2 (some .int) 0 := ⟨gTm (List.mem_of_getElem? (i := 483) (by decide +kernel)) (by decide +kernel), gTm (List.mem_of_getElem? (i := 56) (by decide +kernel)) (by decide +kernel), by decide +kernel, by decide +kernel, by decide⟩
theorem mvX0_companyNow : gMv yX0_companyNow := ⟨gTm (List.mem_of_getElem? (i := 481) (by decide +kernel)) (by decide +kernel), gTm (List.mem_of_getElem? (i := 482) (by decide +kernel)) (by decide +kernel)⟩
theorem mwX0_exchange : gMw yX0_exchange cX0_exchange 5 (none) 2 := ⟨gTm (List.mem_of_getElem? (i := 666) (by decide +kernel)) (by decide +kernel), gTm (List.mem_of_getElem? (i := 56) (by decide +kernel)) (by decide +kernel), by decide +kernel, by decide +kernel, by decide⟩
theorem mvX0_exchange : gMv yX0_exchange := ⟨gTm (List.mem_of_getElem? (i := 664) (by decide +kernel)) (by decide +kernel), gTm (List.mem_of_getElem? (i := 665) (by decide +kernel)) (by decide +kernel)⟩
theorem mwX0_greatestHeat : gMw yX0_greatestHeat cX0_greatestHeat 3 (some .int) 0 := ⟨gTm (List.mem_of_getElem? (i := 604) (by decide +kernel)) (by decide +kernel), gTm (List.mem_of_getElem? (i := 56) (by decide +kernel)) (by decide +kernel), by decide +kernel, by decide +kernel, by decide⟩
theorem mvX0_greatestHeat : gMv yX0_greatestHeat := ⟨gTm (List.mem_of_getElem? (i := 602) (by decide +kernel)) (by decide +kernel), gTm (List.mem_of_getElem? (i := 603) (by decide +kernel)) (by decide +kernel)⟩
theorem mwX0_hasRow : gMw yX0_hasRow cX0_hasRow 2 (some .boolean) 1 := ⟨gTm (List.mem_of_getElem? (i := 479) (by decide +kernel)) (by decide +kernel), gTm (List.mem_of_getElem? (i := 56) (by decide +kernel)) (by decide +kernel), by decide +kernel, by decide +kernel, by decide⟩
theorem mvX0_hasRow : gMv yX0_hasRow := ⟨gTm (List.mem_of_getElem? (i := 477) (by decide +kernel)) (by decide +kernel), gTm (List.mem_of_getElem? (i := 478) (by decide +kernel)) (by decide +kernel)⟩
theorem mwX0_hasVent : gMw yX0_hasVent cX0_hasVent 2 (some .boolean) 1 := ⟨gTm (List.mem_of_getElem? (i := 491) (by decide +kernel)) (by decide +kernel), gTm (List.mem_of_getElem? (i := 56) (by decide +kernel)) (by decide +kernel), by decide +kernel, by decide +kernel, by decide⟩
theorem mvX0_hasVent : gMv yX0_hasVent := ⟨gTm (List.mem_of_getElem? (i := 489) (by decide +kernel)) (by decide +kernel), gTm (List.mem_of_getElem? (i := 490) (by decide +kernel)) (by decide +kernel)⟩
theorem mwX0_moreRows : gMw yX0_moreRows cX0_moreRows 3 (some .boolean) 2 := ⟨gTm (List.mem_of_getElem? (i := 427) (by decide +kernel)) (by decide +kernel), gTm (List.mem_of_getElem? (i := 56) (by decide +kernel)) (by decide +kernel), by decide +kernel, by decide +kernel, by decide⟩
theorem mvX0_moreRows : gMv yX0_moreRows := ⟨gTm (List.mem_of_getElem? (i := 425) (by decide +kernel)) (by decide +kernel), gTm (List.mem_of_getElem? (i := 426) (by decide +kernel)) (by decide +kernel)⟩
theorem mwX0_moreVents : gMw yX0_moreVents cX0_moreVents 4 (some .boolean) 3 := ⟨gTm (List.mem_of_getElem? (i := 435) (by decide +kernel)) (by decide +kernel), gTm (List.mem_of_getElem? (i := 56) (by decide +kernel)) (by decide +kernel), by decide +kernel, by decide +kernel, by decide⟩
theorem mvX0_moreVents : gMv yX0_moreVents := ⟨gTm (List.mem_of_getElem? (i := 433) (by decide +kernel)) (by decide +kernel), gTm (List.mem_of_getElem? (i := 434) (by decide +kernel)) (by decide +kernel)⟩
theorem mwX0_pass : gMw yX0_pass cX0_pass 5 (some .int) 2 := ⟨gTm (List.mem_of_getElem? (i := 563) (by decide +kernel)) (by decide +kernel), gTm (List.mem_of_getElem? (i := 56) (by decide +kernel)) (by decide +kernel), by decide +kernel, by decide +kernel, by decide⟩
theorem mvX0_pass : gMv yX0_pass := ⟨gTm (List.mem_of_getElem? (i := 561) (by decide +kernel)) (by decide +kernel), gTm (List.mem_of_getElem? (i := 562) (by decide +kernel)) (by decide +kernel)⟩
theorem mwX0_passByPlan : gMw yX0_passByPlan cX0_passByPlan 1 (some .int) 0 := ⟨gTm (List.mem_of_getElem? (i := 557) (by decide +kernel)) (by decide +kernel), gTm (List.mem_of_getElem? (i := 56) (by decide +kernel)) (by decide +kernel), by decide +kernel, by decide +kernel, by decide⟩
theorem mvX0_passByPlan : gMv yX0_passByPlan := ⟨gTm (List.mem_of_getElem? (i := 555) (by decide +kernel)) (by decide +kernel), gTm (List.mem_of_getElem? (i := 556) (by decide +kernel)) (by decide +kernel)⟩
theorem mwX0_shareOf : gMw yX0_shareOf cX0_shareOf 2 (some .int) 1 := ⟨gTm (List.mem_of_getElem? (i := 495) (by decide +kernel)) (by decide +kernel), gTm (List.mem_of_getElem? (i := 56) (by decide +kernel)) (by decide +kernel), by decide +kernel, by decide +kernel, by decide⟩
theorem mvX0_shareOf : gMv yX0_shareOf := ⟨gTm (List.mem_of_getElem? (i := 493) (by decide +kernel)) (by decide +kernel), gTm (List.mem_of_getElem? (i := 494) (by decide +kernel)) (by decide +kernel)⟩
theorem mwX0_standsAs : gMw yX0_standsAs cX0_standsAs 3 (some .boolean) 1 := ⟨gTm (List.mem_of_getElem? (i := 635) (by decide +kernel)) (by decide +kernel), gTm (List.mem_of_getElem? (i := 56) (by decide +kernel)) (by decide +kernel), by decide +kernel, by decide +kernel, by decide⟩
theorem mvX0_standsAs : gMv yX0_standsAs := ⟨gTm (List.mem_of_getElem? (i := 633) (by decide +kernel)) (by decide +kernel), gTm (List.mem_of_getElem? (i := 634) (by decide +kernel)) (by decide +kernel)⟩
theorem mwX0_sumOf : gMw yX0_sumOf cX0_sumOf 4 (some .int) 1 := ⟨gTm (List.mem_of_getElem? (i := 463) (by decide +kernel)) (by decide +kernel), gTm (List.mem_of_getElem? (i := 56) (by decide +kernel)) (by decide +kernel), by decide +kernel, by decide +kernel, by decide⟩
theorem mvX0_sumOf : gMv yX0_sumOf := ⟨gTm (List.mem_of_getElem? (i := 461) (by decide +kernel)) (by decide +kernel), gTm (List.mem_of_getElem? (i := 462) (by decide +kernel)) (by decide +kernel)⟩
theorem mwX0_sumOfWatchers : gMw yX0_sumOfWatchers cX0_sumOfWatchers 3 (some .int) 0 := ⟨gTm (List.mem_of_getElem? (i := 834) (by decide +kernel)) (by decide +kernel), gTm (List.mem_of_getElem? (i := 56) (by decide +kernel)) (by decide +kernel), by decide +kernel, by decide +kernel, by decide⟩
theorem mvX0_sumOfWatchers : gMv yX0_sumOfWatchers := ⟨gTm (List.mem_of_getElem? (i := 832) (by decide +kernel)) (by decide +kernel), gTm (List.mem_of_getElem? (i := 833) (by decide +kernel)) (by decide +kernel)⟩
theorem mwX0_takeMoods : gMw yX0_takeMoods cX0_takeMoods 3 (none) 1 := ⟨gTm (List.mem_of_getElem? (i := 694) (by decide +kernel)) (by decide +kernel), gTm (List.mem_of_getElem? (i := 56) (by decide +kernel)) (by decide +kernel), by decide +kernel, by decide +kernel, by decide⟩
theorem mvX0_takeMoods : gMv yX0_takeMoods := ⟨gTm (List.mem_of_getElem? (i := 692) (by decide +kernel)) (by decide +kernel), gTm (List.mem_of_getElem? (i := 693) (by decide +kernel)) (by decide +kernel)⟩
theorem mwX0_tally : gMw yX0_tally cX0_tally 10 (some .int) 2 := ⟨gTm (List.mem_of_getElem? (i := 600) (by decide +kernel)) (by decide +kernel), gTm (List.mem_of_getElem? (i := 56) (by decide +kernel)) (by decide +kernel), by decide +kernel, by decide +kernel, by decide⟩
theorem mvX0_tally : gMv yX0_tally := ⟨gTm (List.mem_of_getElem? (i := 598) (by decide +kernel)) (by decide +kernel), gTm (List.mem_of_getElem? (i := 599) (by decide +kernel)) (by decide +kernel)⟩
theorem mwX0_turn : gMw yX0_turn cX0_turn 1 (some .int) 0 := ⟨gTm (List.mem_of_getElem? (i := 475) (by decide +kernel)) (by decide +kernel), gTm (List.mem_of_getElem? (i := 56) (by decide +kernel)) (by decide +kernel), by decide +kernel, by decide +kernel, by decide⟩
theorem mvX0_turn : gMv yX0_turn := ⟨gTm (List.mem_of_getElem? (i := 473) (by decide +kernel)) (by decide +kernel), gTm (List.mem_of_getElem? (i := 474) (by decide +kernel)) (by decide +kernel)⟩
theorem mwX0_upsOf : gMw yX0_upsOf cX0_upsOf 5 (some .int) 2 := ⟨gTm (List.mem_of_getElem? (i := 614) (by decide +kernel)) (by decide +kernel), gTm (List.mem_of_getElem? (i := 56) (by decide +kernel)) (by decide +kernel), by decide +kernel, by decide +kernel, by decide⟩
theorem mvX0_upsOf : gMv yX0_upsOf := ⟨gTm (List.mem_of_getElem? (i := 612) (by decide +kernel)) (by decide +kernel), gTm (List.mem_of_getElem? (i := 613) (by decide +kernel)) (by decide +kernel)⟩
theorem mwX0_upsOfAll : gMw yX0_upsOfAll cX0_upsOfAll 4 (some .int) 1 := ⟨gTm (List.mem_of_getElem? (i := 553) (by decide +kernel)) (by decide +kernel), gTm (List.mem_of_getElem? (i := 56) (by decide +kernel)) (by decide +kernel), by decide +kernel, by decide +kernel, by decide⟩
theorem mvX0_upsOfAll : gMv yX0_upsOfAll := ⟨gTm (List.mem_of_getElem? (i := 551) (by decide +kernel)) (by decide +kernel), gTm (List.mem_of_getElem? (i := 552) (by decide +kernel)) (by decide +kernel)⟩
theorem mwX0_watchersNow : gMw yX0_watchersNow cX0_watchersNow 2 (some .int) 0 := ⟨gTm (List.mem_of_getElem? (i := 471) (by decide +kernel)) (by decide +kernel), gTm (List.mem_of_getElem? (i := 56) (by decide +kernel)) (by decide +kernel), by decide +kernel, by decide +kernel, by decide⟩
theorem mvX0_watchersNow : gMv yX0_watchersNow := ⟨gTm (List.mem_of_getElem? (i := 469) (by decide +kernel)) (by decide +kernel), gTm (List.mem_of_getElem? (i := 470) (by decide +kernel)) (by decide +kernel)⟩
theorem mwX1_init : gMw yX1_init cX1_init 1 (none) 0 := ⟨gTm (List.mem_of_getElem? (i := 158) (by decide +kernel)) (by decide +kernel), gTm (List.mem_of_getElem? (i := 58) (by decide +kernel)) (by decide +kernel), by decide +kernel, by decide +kernel, by decide⟩
theorem miX1_init : gMi yX1_init := ⟨by decide +kernel, gTm (List.mem_of_getElem? (i := 157) (by decide +kernel)) (by decide +kernel)⟩
theorem mwX1_advance : gMw yX1_advance cX1_advance 3 (none) 0 := ⟨gTm (List.mem_of_getElem? (i := 317) (by decide +kernel)) (by decide +kernel), gTm (List.mem_of_getElem? (i := 58) (by decide +kernel)) (by decide +kernel), by decide +kernel, by decide +kernel, by decide⟩
theorem mvX1_advance : gMv yX1_advance := ⟨gTm (List.mem_of_getElem? (i := 316) (by decide +kernel)) (by decide +kernel), gTm (List.mem_of_getElem? (i := 0) (by decide +kernel)) (by decide +kernel)⟩
theorem mwX1_fail : gMw yX1_fail cX1_fail 3 (none) 2 := ⟨gTm (List.mem_of_getElem? (i := 331) (by decide +kernel)) (by decide +kernel), gTm (List.mem_of_getElem? (i := 58) (by decide +kernel)) (by decide +kernel), by decide +kernel, by decide +kernel, by decide⟩
theorem mvX1_fail : gMv yX1_fail := ⟨gTm (List.mem_of_getElem? (i := 330) (by decide +kernel)) (by decide +kernel), gTm (List.mem_of_getElem? (i := 1) (by decide +kernel)) (by decide +kernel)⟩
theorem mwX1_isFigure : gMw yX1_isFigure cX1_isFigure 1 (some .boolean) 1 := ⟨gTm (List.mem_of_getElem? (i := 327) (by decide +kernel)) (by decide +kernel), gTm (List.mem_of_getElem? (i := 58) (by decide +kernel)) (by decide +kernel), by decide +kernel, by decide +kernel, by decide⟩
theorem msX1_isFigure : gMs yX1_isFigure := gTm (List.mem_of_getElem? (i := 326) (by decide +kernel)) (by decide +kernel)
theorem mwX1_isLetter : gMw yX1_isLetter cX1_isLetter 1 (some .boolean) 1 := ⟨gTm (List.mem_of_getElem? (i := 324) (by decide +kernel)) (by decide +kernel), gTm (List.mem_of_getElem? (i := 58) (by decide +kernel)) (by decide +kernel), by decide +kernel, by decide +kernel, by decide⟩
theorem msX1_isLetter : gMs yX1_isLetter := gTm (List.mem_of_getElem? (i := 323) (by decide +kernel)) (by decide +kernel)
theorem mwX1_lineOfName : gMw yX1_lineOfName cX1_lineOfName 1 (some .int) 0 := ⟨gTm (List.mem_of_getElem? (i := 339) (by decide +kernel)) (by decide +kernel), gTm (List.mem_of_getElem? (i := 58) (by decide +kernel)) (by decide +kernel), by decide +kernel, by decide +kernel, by decide⟩
theorem mvX1_lineOfName : gMv yX1_lineOfName := ⟨gTm (List.mem_of_getElem? (i := 338) (by decide +kernel)) (by decide +kernel), gTm (List.mem_of_getElem? (i := 3) (by decide +kernel)) (by decide +kernel)⟩
theorem mwX1_nameIs : gMw yX1_nameIs cX1_nameIs 3 (some .boolean) 1 := ⟨gTm (List.mem_of_getElem? (i := 344) (by decide +kernel)) (by decide +kernel), gTm (List.mem_of_getElem? (i := 58) (by decide +kernel)) (by decide +kernel), by decide +kernel, by decide +kernel, by decide⟩
theorem mvX1_nameIs : gMv yX1_nameIs := ⟨gTm (List.mem_of_getElem? (i := 343) (by decide +kernel)) (by decide +kernel), gTm (List.mem_of_getElem? (i := 4) (by decide +kernel)) (by decide +kernel)⟩
theorem mwX1_passName : gMw yX1_passName cX1_passName 1 (none) 0 := ⟨gTm (List.mem_of_getElem? (i := 406) (by decide +kernel)) (by decide +kernel), gTm (List.mem_of_getElem? (i := 58) (by decide +kernel)) (by decide +kernel), by decide +kernel, by decide +kernel, by decide⟩
theorem mvX1_passName : gMv yX1_passName := ⟨gTm (List.mem_of_getElem? (i := 405) (by decide +kernel)) (by decide +kernel), gTm (List.mem_of_getElem? (i := 6) (by decide +kernel)) (by decide +kernel)⟩
theorem mwX1_takeAll : gMw yX1_takeAll cX1_takeAll 4 (some .int) 1 := ⟨gTm (List.mem_of_getElem? (i := 309) (by decide +kernel)) (by decide +kernel), gTm (List.mem_of_getElem? (i := 58) (by decide +kernel)) (by decide +kernel), by decide +kernel, by decide +kernel, by decide⟩
theorem mvX1_takeAll : gMv yX1_takeAll := ⟨gTm (List.mem_of_getElem? (i := 307) (by decide +kernel)) (by decide +kernel), gTm (List.mem_of_getElem? (i := 308) (by decide +kernel)) (by decide +kernel)⟩
theorem mwX1_takeCalm : gMw yX1_takeCalm cX1_takeCalm 2 (none) 1 := ⟨gTm (List.mem_of_getElem? (i := 419) (by decide +kernel)) (by decide +kernel), gTm (List.mem_of_getElem? (i := 58) (by decide +kernel)) (by decide +kernel), by decide +kernel, by decide +kernel, by decide⟩
theorem mvX1_takeCalm : gMv yX1_takeCalm := ⟨gTm (List.mem_of_getElem? (i := 418) (by decide +kernel)) (by decide +kernel), gTm (List.mem_of_getElem? (i := 9) (by decide +kernel)) (by decide +kernel)⟩
theorem mwX1_takeFlow : gMw yX1_takeFlow cX1_takeFlow 2 (none) 1 := ⟨gTm (List.mem_of_getElem? (i := 402) (by decide +kernel)) (by decide +kernel), gTm (List.mem_of_getElem? (i := 58) (by decide +kernel)) (by decide +kernel), by decide +kernel, by decide +kernel, by decide⟩
theorem mvX1_takeFlow : gMv yX1_takeFlow := ⟨gTm (List.mem_of_getElem? (i := 401) (by decide +kernel)) (by decide +kernel), gTm (List.mem_of_getElem? (i := 5) (by decide +kernel)) (by decide +kernel)⟩
theorem mwX1_takeHour : gMw yX1_takeHour cX1_takeHour 4 (none) 1 := ⟨gTm (List.mem_of_getElem? (i := 423) (by decide +kernel)) (by decide +kernel), gTm (List.mem_of_getElem? (i := 58) (by decide +kernel)) (by decide +kernel), by decide +kernel, by decide +kernel, by decide⟩
theorem mvX1_takeHour : gMv yX1_takeHour := ⟨gTm (List.mem_of_getElem? (i := 422) (by decide +kernel)) (by decide +kernel), gTm (List.mem_of_getElem? (i := 10) (by decide +kernel)) (by decide +kernel)⟩
theorem mwX1_takeLine : gMw yX1_takeLine cX1_takeLine 3 (none) 1 := ⟨gTm (List.mem_of_getElem? (i := 335) (by decide +kernel)) (by decide +kernel), gTm (List.mem_of_getElem? (i := 58) (by decide +kernel)) (by decide +kernel), by decide +kernel, by decide +kernel, by decide⟩
theorem mvX1_takeLine : gMv yX1_takeLine := ⟨gTm (List.mem_of_getElem? (i := 334) (by decide +kernel)) (by decide +kernel), gTm (List.mem_of_getElem? (i := 2) (by decide +kernel)) (by decide +kernel)⟩
theorem mwX1_takeNumber : gMw yX1_takeNumber cX1_takeNumber 4 (some .int) 2 := ⟨gTm (List.mem_of_getElem? (i := 410) (by decide +kernel)) (by decide +kernel), gTm (List.mem_of_getElem? (i := 58) (by decide +kernel)) (by decide +kernel), by decide +kernel, by decide +kernel, by decide⟩
theorem mvX1_takeNumber : gMv yX1_takeNumber := ⟨gTm (List.mem_of_getElem? (i := 409) (by decide +kernel)) (by decide +kernel), gTm (List.mem_of_getElem? (i := 7) (by decide +kernel)) (by decide +kernel)⟩
theorem mwX1_takeStop : gMw yX1_takeStop cX1_takeStop 1 (none) 0 := ⟨gTm (List.mem_of_getElem? (i := 415) (by decide +kernel)) (by decide +kernel), gTm (List.mem_of_getElem? (i := 58) (by decide +kernel)) (by decide +kernel), by decide +kernel, by decide +kernel, by decide⟩
theorem mvX1_takeStop : gMv yX1_takeStop := ⟨gTm (List.mem_of_getElem? (i := 414) (by decide +kernel)) (by decide +kernel), gTm (List.mem_of_getElem? (i := 8) (by decide +kernel)) (by decide +kernel)⟩
theorem mwX1_takeVent : gMw yX1_takeVent cX1_takeVent 5 (none) 2 := ⟨gTm (List.mem_of_getElem? (i := 431) (by decide +kernel)) (by decide +kernel), gTm (List.mem_of_getElem? (i := 58) (by decide +kernel)) (by decide +kernel), by decide +kernel, by decide +kernel, by decide⟩
theorem mvX1_takeVent : gMv yX1_takeVent := ⟨gTm (List.mem_of_getElem? (i := 430) (by decide +kernel)) (by decide +kernel), gTm (List.mem_of_getElem? (i := 11) (by decide +kernel)) (by decide +kernel)⟩
theorem mwX2_init : gMw yX2_init cX2_init 1 (none) 0 := ⟨gTm (List.mem_of_getElem? (i := 211) (by decide +kernel)) (by decide +kernel), gTm (List.mem_of_getElem? (i := 60) (by decide +kernel)) (by decide +kernel), by decide +kernel, by decide +kernel, by decide⟩
theorem miX2_init : gMi yX2_init := ⟨by decide +kernel, gTm (List.mem_of_getElem? (i := 210) (by decide +kernel)) (by decide +kernel)⟩
theorem mwX2_agrees : gMw yX2_agrees cX2_agrees 4 (some .boolean) 1 := ⟨gTm (List.mem_of_getElem? (i := 749) (by decide +kernel)) (by decide +kernel), gTm (List.mem_of_getElem? (i := 60) (by decide +kernel)) (by decide +kernel), by decide +kernel, by decide +kernel, by decide⟩
theorem mvX2_agrees : gMv yX2_agrees := ⟨gTm (List.mem_of_getElem? (i := 747) (by decide +kernel)) (by decide +kernel), gTm (List.mem_of_getElem? (i := 748) (by decide +kernel)) (by decide +kernel)⟩
theorem mwX2_take : gMw yX2_take cX2_take 4 (some .boolean) 3 := ⟨gTm (List.mem_of_getElem? (i := 733) (by decide +kernel)) (by decide +kernel), gTm (List.mem_of_getElem? (i := 60) (by decide +kernel)) (by decide +kernel), by decide +kernel, by decide +kernel, by decide⟩
theorem mvX2_take : gMv yX2_take := ⟨gTm (List.mem_of_getElem? (i := 731) (by decide +kernel)) (by decide +kernel), gTm (List.mem_of_getElem? (i := 732) (by decide +kernel)) (by decide +kernel)⟩
theorem mwX3_init : gMw yX3_init cX3_init 1 (none) 0 := ⟨gTm (List.mem_of_getElem? (i := 232) (by decide +kernel)) (by decide +kernel), gTm (List.mem_of_getElem? (i := 61) (by decide +kernel)) (by decide +kernel), by decide +kernel, by decide +kernel, by decide⟩
theorem miX3_init : gMi yX3_init := ⟨by decide +kernel, gTm (List.mem_of_getElem? (i := 231) (by decide +kernel)) (by decide +kernel)⟩
theorem mwX3_cellAt : gMw yX3_cellAt cX3_cellAt 3 (some .int) 1 := ⟨gTm (List.mem_of_getElem? (i := 822) (by decide +kernel)) (by decide +kernel), gTm (List.mem_of_getElem? (i := 61) (by decide +kernel)) (by decide +kernel), by decide +kernel, by decide +kernel, by decide⟩
theorem mvX3_cellAt : gMv yX3_cellAt := ⟨gTm (List.mem_of_getElem? (i := 820) (by decide +kernel)) (by decide +kernel), gTm (List.mem_of_getElem? (i := 821) (by decide +kernel)) (by decide +kernel)⟩
theorem mwX3_faultAt : gMw yX3_faultAt cX3_faultAt 4 (some .int) 2 := ⟨gTm (List.mem_of_getElem? (i := 804) (by decide +kernel)) (by decide +kernel), gTm (List.mem_of_getElem? (i := 61) (by decide +kernel)) (by decide +kernel), by decide +kernel, by decide +kernel, by decide⟩
theorem mvX3_faultAt : gMv yX3_faultAt := ⟨gTm (List.mem_of_getElem? (i := 802) (by decide +kernel)) (by decide +kernel), gTm (List.mem_of_getElem? (i := 803) (by decide +kernel)) (by decide +kernel)⟩
theorem mwX3_faultOfTwo : gMw yX3_faultOfTwo cX3_faultOfTwo 5 (some .int) 2 := ⟨gTm (List.mem_of_getElem? (i := 817) (by decide +kernel)) (by decide +kernel), gTm (List.mem_of_getElem? (i := 61) (by decide +kernel)) (by decide +kernel), by decide +kernel, by decide +kernel, by decide⟩
theorem mvX3_faultOfTwo : gMv yX3_faultOfTwo := ⟨gTm (List.mem_of_getElem? (i := 815) (by decide +kernel)) (by decide +kernel), gTm (List.mem_of_getElem? (i := 816) (by decide +kernel)) (by decide +kernel)⟩
theorem mwX3_put : gMw yX3_put cX3_put 3 (none) 2 := ⟨gTm (List.mem_of_getElem? (i := 808) (by decide +kernel)) (by decide +kernel), gTm (List.mem_of_getElem? (i := 61) (by decide +kernel)) (by decide +kernel), by decide +kernel, by decide +kernel, by decide⟩
theorem mvX3_put : gMv yX3_put := ⟨gTm (List.mem_of_getElem? (i := 806) (by decide +kernel)) (by decide +kernel), gTm (List.mem_of_getElem? (i := 807) (by decide +kernel)) (by decide +kernel)⟩
theorem mwX3_renew : gMw yX3_renew cX3_renew 4 (none) 2 := ⟨gTm (List.mem_of_getElem? (i := 794) (by decide +kernel)) (by decide +kernel), gTm (List.mem_of_getElem? (i := 61) (by decide +kernel)) (by decide +kernel), by decide +kernel, by decide +kernel, by decide⟩
theorem mvX3_renew : gMv yX3_renew := ⟨gTm (List.mem_of_getElem? (i := 792) (by decide +kernel)) (by decide +kernel), gTm (List.mem_of_getElem? (i := 793) (by decide +kernel)) (by decide +kernel)⟩
theorem mwX4_init : gMw yX4_init cX4_init 1 (none) 0 := ⟨gTm (List.mem_of_getElem? (i := 164) (by decide +kernel)) (by decide +kernel), gTm (List.mem_of_getElem? (i := 59) (by decide +kernel)) (by decide +kernel), by decide +kernel, by decide +kernel, by decide⟩
theorem miX4_init : gMi yX4_init := ⟨by decide +kernel, gTm (List.mem_of_getElem? (i := 163) (by decide +kernel)) (by decide +kernel)⟩
theorem mwX4_byteAt : gMw yX4_byteAt cX4_byteAt 2 (some .int) 1 := ⟨gTm (List.mem_of_getElem? (i := 321) (by decide +kernel)) (by decide +kernel), gTm (List.mem_of_getElem? (i := 59) (by decide +kernel)) (by decide +kernel), by decide +kernel, by decide +kernel, by decide⟩
theorem mvX4_byteAt : gMv yX4_byteAt := ⟨gTm (List.mem_of_getElem? (i := 319) (by decide +kernel)) (by decide +kernel), gTm (List.mem_of_getElem? (i := 320) (by decide +kernel)) (by decide +kernel)⟩
theorem mwX4_take : gMw yX4_take cX4_take 2 (some .boolean) 1 := ⟨gTm (List.mem_of_getElem? (i := 297) (by decide +kernel)) (by decide +kernel), gTm (List.mem_of_getElem? (i := 59) (by decide +kernel)) (by decide +kernel), by decide +kernel, by decide +kernel, by decide⟩
theorem mvX4_take : gMv yX4_take := ⟨gTm (List.mem_of_getElem? (i := 295) (by decide +kernel)) (by decide +kernel), gTm (List.mem_of_getElem? (i := 296) (by decide +kernel)) (by decide +kernel)⟩
theorem mwX5_init : gMw yX5_init cX5_init 1 (none) 0 := ⟨gTm (List.mem_of_getElem? (i := 88) (by decide +kernel)) (by decide +kernel), gTm (List.mem_of_getElem? (i := 57) (by decide +kernel)) (by decide +kernel), by decide +kernel, by decide +kernel, by decide⟩
theorem miX5_init : gMi yX5_init := ⟨by decide +kernel, gTm (List.mem_of_getElem? (i := 87) (by decide +kernel)) (by decide +kernel)⟩
theorem mwX5_become : gMw yX5_become cX5_become 2 (none) 1 := ⟨gTm (List.mem_of_getElem? (i := 447) (by decide +kernel)) (by decide +kernel), gTm (List.mem_of_getElem? (i := 57) (by decide +kernel)) (by decide +kernel), by decide +kernel, by decide +kernel, by decide⟩
theorem mvX5_become : gMv yX5_become := ⟨gTm (List.mem_of_getElem? (i := 445) (by decide +kernel)) (by decide +kernel), gTm (List.mem_of_getElem? (i := 446) (by decide +kernel)) (by decide +kernel)⟩
theorem mwX5_begin : gMw yX5_begin cX5_begin 4 (none) 3 := ⟨gTm (List.mem_of_getElem? (i := 439) (by decide +kernel)) (by decide +kernel), gTm (List.mem_of_getElem? (i := 57) (by decide +kernel)) (by decide +kernel), by decide +kernel, by decide +kernel, by decide⟩
theorem mvX5_begin : gMv yX5_begin := ⟨gTm (List.mem_of_getElem? (i := 437) (by decide +kernel)) (by decide +kernel), gTm (List.mem_of_getElem? (i := 438) (by decide +kernel)) (by decide +kernel)⟩
theorem mwX5_change : gMw yX5_change cX5_change 3 (none) 2 := ⟨gTm (List.mem_of_getElem? (i := 516) (by decide +kernel)) (by decide +kernel), gTm (List.mem_of_getElem? (i := 57) (by decide +kernel)) (by decide +kernel), by decide +kernel, by decide +kernel, by decide⟩
theorem mvX5_change : gMv yX5_change := ⟨gTm (List.mem_of_getElem? (i := 514) (by decide +kernel)) (by decide +kernel), gTm (List.mem_of_getElem? (i := 515) (by decide +kernel)) (by decide +kernel)⟩
theorem mwX5_fades : gMw yX5_fades cX5_fades 1 (some .int) 0 := ⟨gTm (List.mem_of_getElem? (i := 579) (by decide +kernel)) (by decide +kernel), gTm (List.mem_of_getElem? (i := 57) (by decide +kernel)) (by decide +kernel), by decide +kernel, by decide +kernel, by decide⟩
theorem mvX5_fades : gMv yX5_fades := ⟨gTm (List.mem_of_getElem? (i := 577) (by decide +kernel)) (by decide +kernel), gTm (List.mem_of_getElem? (i := 578) (by decide +kernel)) (by decide +kernel)⟩
theorem mwX5_minds : gMw yX5_minds cX5_minds 4 (some .int) 1 := ⟨gTm (List.mem_of_getElem? (i := 499) (by decide +kernel)) (by decide +kernel), gTm (List.mem_of_getElem? (i := 57) (by decide +kernel)) (by decide +kernel), by decide +kernel, by decide +kernel, by decide⟩
theorem mvX5_minds : gMv yX5_minds := ⟨gTm (List.mem_of_getElem? (i := 497) (by decide +kernel)) (by decide +kernel), gTm (List.mem_of_getElem? (i := 498) (by decide +kernel)) (by decide +kernel)⟩
theorem mwX5_part : gMw yX5_part cX5_part 2 (some .int) 1 := ⟨gTm (List.mem_of_getElem? (i := 467) (by decide +kernel)) (by decide +kernel), gTm (List.mem_of_getElem? (i := 57) (by decide +kernel)) (by decide +kernel), by decide +kernel, by decide +kernel, by decide⟩
theorem mvX5_part : gMv yX5_part := ⟨gTm (List.mem_of_getElem? (i := 465) (by decide +kernel)) (by decide +kernel), gTm (List.mem_of_getElem? (i := 466) (by decide +kernel)) (by decide +kernel)⟩
theorem mwX5_pass : gMw yX5_pass cX5_pass 4 (some .boolean) 3 := ⟨gTm (List.mem_of_getElem? (i := 568) (by decide +kernel)) (by decide +kernel), gTm (List.mem_of_getElem? (i := 57) (by decide +kernel)) (by decide +kernel), by decide +kernel, by decide +kernel, by decide⟩
theorem mvX5_pass : gMv yX5_pass := ⟨gTm (List.mem_of_getElem? (i := 566) (by decide +kernel)) (by decide +kernel), gTm (List.mem_of_getElem? (i := 567) (by decide +kernel)) (by decide +kernel)⟩
theorem mwX5_takeMood : gMw yX5_takeMood cX5_takeMood 2 (none) 1 := ⟨gTm (List.mem_of_getElem? (i := 451) (by decide +kernel)) (by decide +kernel), gTm (List.mem_of_getElem? (i := 57) (by decide +kernel)) (by decide +kernel), by decide +kernel, by decide +kernel, by decide⟩
theorem mvX5_takeMood : gMv yX5_takeMood := ⟨gTm (List.mem_of_getElem? (i := 449) (by decide +kernel)) (by decide +kernel), gTm (List.mem_of_getElem? (i := 450) (by decide +kernel)) (by decide +kernel)⟩
theorem mwX7_init : gMw yX7_init cX7_init 1 (none) 0 := ⟨gTm (List.mem_of_getElem? (i := 839) (by decide +kernel)) (by decide +kernel), gTm (List.mem_of_getElem? (i := 62) (by decide +kernel)) (by decide +kernel), by decide +kernel, by decide +kernel, by decide⟩
theorem miX7_init : gMi yX7_init := ⟨by decide +kernel, gTm (List.mem_of_getElem? (i := 838) (by decide +kernel)) (by decide +kernel)⟩
theorem mwX7_add : gMw yX7_add cX7_add 3 (some .int) 2 := ⟨gTm (List.mem_of_getElem? (i := 1067) (by decide +kernel)) (by decide +kernel), gTm (List.mem_of_getElem? (i := 62) (by decide +kernel)) (by decide +kernel), by decide +kernel, by decide +kernel, by decide⟩
theorem mvX7_add : gMv yX7_add := ⟨gTm (List.mem_of_getElem? (i := 1065) (by decide +kernel)) (by decide +kernel), gTm (List.mem_of_getElem? (i := 1066) (by decide +kernel)) (by decide +kernel)⟩
theorem mwX7_adds : gMw yX7_adds cX7_adds 4 (some .int) 2 := ⟨gTm (List.mem_of_getElem? (i := 1071) (by decide +kernel)) (by decide +kernel), gTm (List.mem_of_getElem? (i := 62) (by decide +kernel)) (by decide +kernel), by decide +kernel, by decide +kernel, by decide⟩
theorem mvX7_adds : gMv yX7_adds := ⟨gTm (List.mem_of_getElem? (i := 1070) (by decide +kernel)) (by decide +kernel), gTm (List.mem_of_getElem? (i := 39) (by decide +kernel)) (by decide +kernel)⟩
theorem mwX7_again : gMw yX7_again cX7_again 5 (some .int) 0 := ⟨gTm (List.mem_of_getElem? (i := 1140) (by decide +kernel)) (by decide +kernel), gTm (List.mem_of_getElem? (i := 62) (by decide +kernel)) (by decide +kernel), by decide +kernel, by decide +kernel, by decide⟩
theorem mvX7_again : gMv yX7_again := ⟨gTm (List.mem_of_getElem? (i := 1138) (by decide +kernel)) (by decide +kernel), gTm (List.mem_of_getElem? (i := 1139) (by decide +kernel)) (by decide +kernel)⟩
theorem mwX7_ahead : gMw yX7_ahead cX7_ahead 4 (some .int) 3 := ⟨gTm (List.mem_of_getElem? (i := 1123) (by decide +kernel)) (by decide +kernel), gTm (List.mem_of_getElem? (i := 62) (by decide +kernel)) (by decide +kernel), by decide +kernel, by decide +kernel, by decide⟩
theorem mvX7_ahead : gMv yX7_ahead := ⟨gTm (List.mem_of_getElem? (i := 1121) (by decide +kernel)) (by decide +kernel), gTm (List.mem_of_getElem? (i := 1122) (by decide +kernel)) (by decide +kernel)⟩
theorem mwX7_alter : gMw yX7_alter cX7_alter 4 (some .int) 3 := ⟨gTm (List.mem_of_getElem? (i := 1033) (by decide +kernel)) (by decide +kernel), gTm (List.mem_of_getElem? (i := 62) (by decide +kernel)) (by decide +kernel), by decide +kernel, by decide +kernel, by decide⟩
theorem mvX7_alter : gMv yX7_alter := ⟨gTm (List.mem_of_getElem? (i := 1031) (by decide +kernel)) (by decide +kernel), gTm (List.mem_of_getElem? (i := 1032) (by decide +kernel)) (by decide +kernel)⟩
theorem mwX7_ask : gMw yX7_ask cX7_ask 10 (some .int) 2 := ⟨gTm (List.mem_of_getElem? (i := 1227) (by decide +kernel)) (by decide +kernel), gTm (List.mem_of_getElem? (i := 62) (by decide +kernel)) (by decide +kernel), by decide +kernel, by decide +kernel, by decide⟩
theorem mvX7_ask : gMv yX7_ask := ⟨gTm (List.mem_of_getElem? (i := 1225) (by decide +kernel)) (by decide +kernel), gTm (List.mem_of_getElem? (i := 1226) (by decide +kernel)) (by decide +kernel)⟩
theorem mwX7_back : gMw yX7_back cX7_back 2 (some .int) 1 := ⟨gTm (List.mem_of_getElem? (i := 1240) (by decide +kernel)) (by decide +kernel), gTm (List.mem_of_getElem? (i := 62) (by decide +kernel)) (by decide +kernel), by decide +kernel, by decide +kernel, by decide⟩
theorem mvX7_back : gMv yX7_back := ⟨gTm (List.mem_of_getElem? (i := 1238) (by decide +kernel)) (by decide +kernel), gTm (List.mem_of_getElem? (i := 1239) (by decide +kernel)) (by decide +kernel)⟩
theorem mwX7_bears : gMw yX7_bears cX7_bears 6 (some .int) 2 := ⟨gTm (List.mem_of_getElem? (i := 1160) (by decide +kernel)) (by decide +kernel), gTm (List.mem_of_getElem? (i := 62) (by decide +kernel)) (by decide +kernel), by decide +kernel, by decide +kernel, by decide⟩
theorem mvX7_bears : gMv yX7_bears := ⟨gTm (List.mem_of_getElem? (i := 1158) (by decide +kernel)) (by decide +kernel), gTm (List.mem_of_getElem? (i := 1159) (by decide +kernel)) (by decide +kernel)⟩
theorem mwX7_bitsOf : gMw yX7_bitsOf cX7_bitsOf 3 (some .int) 1 := ⟨gTm (List.mem_of_getElem? (i := 1099) (by decide +kernel)) (by decide +kernel), gTm (List.mem_of_getElem? (i := 62) (by decide +kernel)) (by decide +kernel), by decide +kernel, by decide +kernel, by decide⟩
theorem msX7_bitsOf : gMs yX7_bitsOf := gTm (List.mem_of_getElem? (i := 1098) (by decide +kernel)) (by decide +kernel)
theorem mwX7_byNobody : gMw yX7_byNobody cX7_byNobody 15 (some .long) 4 := ⟨gTm (List.mem_of_getElem? (i := 1191) (by decide +kernel)) (by decide +kernel), gTm (List.mem_of_getElem? (i := 62) (by decide +kernel)) (by decide +kernel), by decide +kernel, by decide +kernel, by decide⟩
theorem mvX7_byNobody : gMv yX7_byNobody := ⟨gTm (List.mem_of_getElem? (i := 1190) (by decide +kernel)) (by decide +kernel), gTm (List.mem_of_getElem? (i := 51) (by decide +kernel)) (by decide +kernel)⟩
theorem mwX7_byteAt : gMw yX7_byteAt cX7_byteAt 2 (some .int) 1 := ⟨gTm (List.mem_of_getElem? (i := 955) (by decide +kernel)) (by decide +kernel), gTm (List.mem_of_getElem? (i := 62) (by decide +kernel)) (by decide +kernel), by decide +kernel, by decide +kernel, by decide⟩
theorem mvX7_byteAt : gMv yX7_byteAt := ⟨gTm (List.mem_of_getElem? (i := 954) (by decide +kernel)) (by decide +kernel), gTm (List.mem_of_getElem? (i := 24) (by decide +kernel)) (by decide +kernel)⟩
theorem mwX7_copies : gMw yX7_copies cX7_copies 4 (none) 2 := ⟨gTm (List.mem_of_getElem? (i := 1115) (by decide +kernel)) (by decide +kernel), gTm (List.mem_of_getElem? (i := 62) (by decide +kernel)) (by decide +kernel), by decide +kernel, by decide +kernel, by decide⟩
theorem mvX7_copies : gMv yX7_copies := ⟨gTm (List.mem_of_getElem? (i := 1114) (by decide +kernel)) (by decide +kernel), gTm (List.mem_of_getElem? (i := 45) (by decide +kernel)) (by decide +kernel)⟩
theorem mwX7_count : gMw yX7_count cX7_count 4 (some .int) 1 := ⟨gTm (List.mem_of_getElem? (i := 1260) (by decide +kernel)) (by decide +kernel), gTm (List.mem_of_getElem? (i := 62) (by decide +kernel)) (by decide +kernel), by decide +kernel, by decide +kernel, by decide⟩
theorem mvX7_count : gMv yX7_count := ⟨gTm (List.mem_of_getElem? (i := 1258) (by decide +kernel)) (by decide +kernel), gTm (List.mem_of_getElem? (i := 1259) (by decide +kernel)) (by decide +kernel)⟩
theorem mwX7_cut : gMw yX7_cut cX7_cut 2 (some .int) 1 := ⟨gTm (List.mem_of_getElem? (i := 1063) (by decide +kernel)) (by decide +kernel), gTm (List.mem_of_getElem? (i := 62) (by decide +kernel)) (by decide +kernel), by decide +kernel, by decide +kernel, by decide⟩
theorem mvX7_cut : gMv yX7_cut := ⟨gTm (List.mem_of_getElem? (i := 1061) (by decide +kernel)) (by decide +kernel), gTm (List.mem_of_getElem? (i := 1062) (by decide +kernel)) (by decide +kernel)⟩
theorem mwX7_drop : gMw yX7_drop cX7_drop 2 (some .int) 1 := ⟨gTm (List.mem_of_getElem? (i := 1075) (by decide +kernel)) (by decide +kernel), gTm (List.mem_of_getElem? (i := 62) (by decide +kernel)) (by decide +kernel), by decide +kernel, by decide +kernel, by decide⟩
theorem mvX7_drop : gMv yX7_drop := ⟨gTm (List.mem_of_getElem? (i := 1073) (by decide +kernel)) (by decide +kernel), gTm (List.mem_of_getElem? (i := 1074) (by decide +kernel)) (by decide +kernel)⟩
theorem mwX7_end : gMw yX7_end cX7_end 3 (some .int) 1 := ⟨gTm (List.mem_of_getElem? (i := 943) (by decide +kernel)) (by decide +kernel), gTm (List.mem_of_getElem? (i := 62) (by decide +kernel)) (by decide +kernel), by decide +kernel, by decide +kernel, by decide⟩
theorem mvX7_end : gMv yX7_end := ⟨gTm (List.mem_of_getElem? (i := 941) (by decide +kernel)) (by decide +kernel), gTm (List.mem_of_getElem? (i := 942) (by decide +kernel)) (by decide +kernel)⟩
theorem mwX7_fadesOn : gMw yX7_fadesOn cX7_fadesOn 4 (some .int) 2 := ⟨gTm (List.mem_of_getElem? (i := 1096) (by decide +kernel)) (by decide +kernel), gTm (List.mem_of_getElem? (i := 62) (by decide +kernel)) (by decide +kernel), by decide +kernel, by decide +kernel, by decide⟩
theorem mvX7_fadesOn : gMv yX7_fadesOn := ⟨gTm (List.mem_of_getElem? (i := 1095) (by decide +kernel)) (by decide +kernel), gTm (List.mem_of_getElem? (i := 43) (by decide +kernel)) (by decide +kernel)⟩
theorem mwX7_fails : gMw yX7_fails cX7_fails 2 (none) 1 := ⟨gTm (List.mem_of_getElem? (i := 963) (by decide +kernel)) (by decide +kernel), gTm (List.mem_of_getElem? (i := 62) (by decide +kernel)) (by decide +kernel), by decide +kernel, by decide +kernel, by decide⟩
theorem mvX7_fails : gMv yX7_fails := ⟨gTm (List.mem_of_getElem? (i := 962) (by decide +kernel)) (by decide +kernel), gTm (List.mem_of_getElem? (i := 25) (by decide +kernel)) (by decide +kernel)⟩
theorem mwX7_fault : gMw yX7_fault cX7_fault 1 (some .int) 0 := ⟨gTm (List.mem_of_getElem? (i := 984) (by decide +kernel)) (by decide +kernel), gTm (List.mem_of_getElem? (i := 62) (by decide +kernel)) (by decide +kernel), by decide +kernel, by decide +kernel, by decide⟩
theorem mvX7_fault : gMv yX7_fault := ⟨gTm (List.mem_of_getElem? (i := 982) (by decide +kernel)) (by decide +kernel), gTm (List.mem_of_getElem? (i := 983) (by decide +kernel)) (by decide +kernel)⟩
theorem mwX7_feed : gMw yX7_feed cX7_feed 2 (some .int) 1 := ⟨gTm (List.mem_of_getElem? (i := 935) (by decide +kernel)) (by decide +kernel), gTm (List.mem_of_getElem? (i := 62) (by decide +kernel)) (by decide +kernel), by decide +kernel, by decide +kernel, by decide⟩
theorem mvX7_feed : gMv yX7_feed := ⟨gTm (List.mem_of_getElem? (i := 933) (by decide +kernel)) (by decide +kernel), gTm (List.mem_of_getElem? (i := 934) (by decide +kernel)) (by decide +kernel)⟩
theorem mwX7_feels : gMw yX7_feels cX7_feels 3 (none) 1 := ⟨gTm (List.mem_of_getElem? (i := 1119) (by decide +kernel)) (by decide +kernel), gTm (List.mem_of_getElem? (i := 62) (by decide +kernel)) (by decide +kernel), by decide +kernel, by decide +kernel, by decide⟩
theorem mvX7_feels : gMv yX7_feels := ⟨gTm (List.mem_of_getElem? (i := 1118) (by decide +kernel)) (by decide +kernel), gTm (List.mem_of_getElem? (i := 46) (by decide +kernel)) (by decide +kernel)⟩
theorem mwX7_figuresOf : gMw yX7_figuresOf cX7_figuresOf 6 (none) 3 := ⟨gTm (List.mem_of_getElem? (i := 1177) (by decide +kernel)) (by decide +kernel), gTm (List.mem_of_getElem? (i := 62) (by decide +kernel)) (by decide +kernel), by decide +kernel, by decide +kernel, by decide⟩
theorem mvX7_figuresOf : gMv yX7_figuresOf := ⟨gTm (List.mem_of_getElem? (i := 1176) (by decide +kernel)) (by decide +kernel), gTm (List.mem_of_getElem? (i := 49) (by decide +kernel)) (by decide +kernel)⟩
theorem mwX7_flow : gMw yX7_flow cX7_flow 5 (some .int) 3 := ⟨gTm (List.mem_of_getElem? (i := 1164) (by decide +kernel)) (by decide +kernel), gTm (List.mem_of_getElem? (i := 62) (by decide +kernel)) (by decide +kernel), by decide +kernel, by decide +kernel, by decide⟩
theorem mvX7_flow : gMv yX7_flow := ⟨gTm (List.mem_of_getElem? (i := 1162) (by decide +kernel)) (by decide +kernel), gTm (List.mem_of_getElem? (i := 1163) (by decide +kernel)) (by decide +kernel)⟩
theorem mwX7_forget : gMw yX7_forget cX7_forget 3 (some .int) 1 := ⟨gTm (List.mem_of_getElem? (i := 1207) (by decide +kernel)) (by decide +kernel), gTm (List.mem_of_getElem? (i := 62) (by decide +kernel)) (by decide +kernel), by decide +kernel, by decide +kernel, by decide⟩
theorem mvX7_forget : gMv yX7_forget := ⟨gTm (List.mem_of_getElem? (i := 1205) (by decide +kernel)) (by decide +kernel), gTm (List.mem_of_getElem? (i := 1206) (by decide +kernel)) (by decide +kernel)⟩
theorem mwX7_geyser : gMw yX7_geyser cX7_geyser 3 (some .int) 2 := ⟨gTm (List.mem_of_getElem? (i := 1008) (by decide +kernel)) (by decide +kernel), gTm (List.mem_of_getElem? (i := 62) (by decide +kernel)) (by decide +kernel), by decide +kernel, by decide +kernel, by decide⟩
theorem mvX7_geyser : gMv yX7_geyser := ⟨gTm (List.mem_of_getElem? (i := 1006) (by decide +kernel)) (by decide +kernel), gTm (List.mem_of_getElem? (i := 1007) (by decide +kernel)) (by decide +kernel)⟩
theorem mwX7_goesBack : gMw yX7_goesBack cX7_goesBack 6 (none) 3 := ⟨gTm (List.mem_of_getElem? (i := 1181) (by decide +kernel)) (by decide +kernel), gTm (List.mem_of_getElem? (i := 62) (by decide +kernel)) (by decide +kernel), by decide +kernel, by decide +kernel, by decide⟩
theorem mvX7_goesBack : gMv yX7_goesBack := ⟨gTm (List.mem_of_getElem? (i := 1180) (by decide +kernel)) (by decide +kernel), gTm (List.mem_of_getElem? (i := 50) (by decide +kernel)) (by decide +kernel)⟩
theorem mwX7_goesUp : gMw yX7_goesUp cX7_goesUp 8 (some .boolean) 4 := ⟨gTm (List.mem_of_getElem? (i := 1092) (by decide +kernel)) (by decide +kernel), gTm (List.mem_of_getElem? (i := 62) (by decide +kernel)) (by decide +kernel), by decide +kernel, by decide +kernel, by decide⟩
theorem mvX7_goesUp : gMv yX7_goesUp := ⟨gTm (List.mem_of_getElem? (i := 1091) (by decide +kernel)) (by decide +kernel), gTm (List.mem_of_getElem? (i := 42) (by decide +kernel)) (by decide +kernel)⟩
theorem mwX7_hourOn : gMw yX7_hourOn cX7_hourOn 6 (some .int) 3 := ⟨gTm (List.mem_of_getElem? (i := 1088) (by decide +kernel)) (by decide +kernel), gTm (List.mem_of_getElem? (i := 62) (by decide +kernel)) (by decide +kernel), by decide +kernel, by decide +kernel, by decide⟩
theorem mvX7_hourOn : gMv yX7_hourOn := ⟨gTm (List.mem_of_getElem? (i := 1087) (by decide +kernel)) (by decide +kernel), gTm (List.mem_of_getElem? (i := 41) (by decide +kernel)) (by decide +kernel)⟩
theorem mwX7_hours : gMw yX7_hours cX7_hours 4 (some .int) 1 := ⟨gTm (List.mem_of_getElem? (i := 1079) (by decide +kernel)) (by decide +kernel), gTm (List.mem_of_getElem? (i := 62) (by decide +kernel)) (by decide +kernel), by decide +kernel, by decide +kernel, by decide⟩
theorem mvX7_hours : gMv yX7_hours := ⟨gTm (List.mem_of_getElem? (i := 1077) (by decide +kernel)) (by decide +kernel), gTm (List.mem_of_getElem? (i := 1078) (by decide +kernel)) (by decide +kernel)⟩
theorem mwX7_hoursGo : gMw yX7_hoursGo cX7_hoursGo 7 (some .int) 2 := ⟨gTm (List.mem_of_getElem? (i := 1111) (by decide +kernel)) (by decide +kernel), gTm (List.mem_of_getElem? (i := 62) (by decide +kernel)) (by decide +kernel), by decide +kernel, by decide +kernel, by decide⟩
theorem mvX7_hoursGo : gMv yX7_hoursGo := ⟨gTm (List.mem_of_getElem? (i := 1110) (by decide +kernel)) (by decide +kernel), gTm (List.mem_of_getElem? (i := 44) (by decide +kernel)) (by decide +kernel)⟩
theorem mwX7_in : gMw yX7_in cX7_in 6 (some .boolean) 3 := ⟨gTm (List.mem_of_getElem? (i := 939) (by decide +kernel)) (by decide +kernel), gTm (List.mem_of_getElem? (i := 62) (by decide +kernel)) (by decide +kernel), by decide +kernel, by decide +kernel, by decide⟩
theorem msX7_in : gMs yX7_in := gTm (List.mem_of_getElem? (i := 938) (by decide +kernel)) (by decide +kernel)
theorem mwX7_isAsSeen : gMw yX7_isAsSeen cX7_isAsSeen 6 (some .boolean) 1 := ⟨gTm (List.mem_of_getElem? (i := 1219) (by decide +kernel)) (by decide +kernel), gTm (List.mem_of_getElem? (i := 62) (by decide +kernel)) (by decide +kernel), by decide +kernel, by decide +kernel, by decide⟩
theorem mvX7_isAsSeen : gMv yX7_isAsSeen := ⟨gTm (List.mem_of_getElem? (i := 1218) (by decide +kernel)) (by decide +kernel), gTm (List.mem_of_getElem? (i := 53) (by decide +kernel)) (by decide +kernel)⟩
theorem mwX7_isGeyser : gMw yX7_isGeyser cX7_isGeyser 2 (some .boolean) 1 := ⟨gTm (List.mem_of_getElem? (i := 1012) (by decide +kernel)) (by decide +kernel), gTm (List.mem_of_getElem? (i := 62) (by decide +kernel)) (by decide +kernel), by decide +kernel, by decide +kernel, by decide⟩
theorem mvX7_isGeyser : gMv yX7_isGeyser := ⟨gTm (List.mem_of_getElem? (i := 1011) (by decide +kernel)) (by decide +kernel), gTm (List.mem_of_getElem? (i := 34) (by decide +kernel)) (by decide +kernel)⟩
theorem mwX7_isGood : gMw yX7_isGood cX7_isGood 2 (some .boolean) 2 := ⟨gTm (List.mem_of_getElem? (i := 1036) (by decide +kernel)) (by decide +kernel), gTm (List.mem_of_getElem? (i := 62) (by decide +kernel)) (by decide +kernel), by decide +kernel, by decide +kernel, by decide⟩
theorem msX7_isGood : gMs yX7_isGood := gTm (List.mem_of_getElem? (i := 1035) (by decide +kernel)) (by decide +kernel)
theorem mwX7_isLong : gMw yX7_isLong cX7_isLong 1 (some .boolean) 1 := ⟨gTm (List.mem_of_getElem? (i := 1106) (by decide +kernel)) (by decide +kernel), gTm (List.mem_of_getElem? (i := 62) (by decide +kernel)) (by decide +kernel), by decide +kernel, by decide +kernel, by decide⟩
theorem msX7_isLong : gMs yX7_isLong := gTm (List.mem_of_getElem? (i := 1105) (by decide +kernel)) (by decide +kernel)
theorem mwX7_isRow : gMw yX7_isRow cX7_isRow 2 (some .boolean) 1 := ⟨gTm (List.mem_of_getElem? (i := 1029) (by decide +kernel)) (by decide +kernel), gTm (List.mem_of_getElem? (i := 62) (by decide +kernel)) (by decide +kernel), by decide +kernel, by decide +kernel, by decide⟩
theorem mvX7_isRow : gMv yX7_isRow := ⟨gTm (List.mem_of_getElem? (i := 1028) (by decide +kernel)) (by decide +kernel), gTm (List.mem_of_getElem? (i := 37) (by decide +kernel)) (by decide +kernel)⟩
theorem mwX7_keep : gMw yX7_keep cX7_keep 3 (some .int) 1 := ⟨gTm (List.mem_of_getElem? (i := 1236) (by decide +kernel)) (by decide +kernel), gTm (List.mem_of_getElem? (i := 62) (by decide +kernel)) (by decide +kernel), by decide +kernel, by decide +kernel, by decide⟩
theorem mvX7_keep : gMv yX7_keep := ⟨gTm (List.mem_of_getElem? (i := 1234) (by decide +kernel)) (by decide +kernel), gTm (List.mem_of_getElem? (i := 1235) (by decide +kernel)) (by decide +kernel)⟩
theorem mwX7_kind : gMw yX7_kind cX7_kind 7 (some .int) 3 := ⟨gTm (List.mem_of_getElem? (i := 1168) (by decide +kernel)) (by decide +kernel), gTm (List.mem_of_getElem? (i := 62) (by decide +kernel)) (by decide +kernel), by decide +kernel, by decide +kernel, by decide⟩
theorem mvX7_kind : gMv yX7_kind := ⟨gTm (List.mem_of_getElem? (i := 1166) (by decide +kernel)) (by decide +kernel), gTm (List.mem_of_getElem? (i := 1167) (by decide +kernel)) (by decide +kernel)⟩
theorem mwX7_kinds : gMw yX7_kinds cX7_kinds 2 (some .int) 1 := ⟨gTm (List.mem_of_getElem? (i := 1211) (by decide +kernel)) (by decide +kernel), gTm (List.mem_of_getElem? (i := 62) (by decide +kernel)) (by decide +kernel), by decide +kernel, by decide +kernel, by decide⟩
theorem mvX7_kinds : gMv yX7_kinds := ⟨gTm (List.mem_of_getElem? (i := 1209) (by decide +kernel)) (by decide +kernel), gTm (List.mem_of_getElem? (i := 1210) (by decide +kernel)) (by decide +kernel)⟩
theorem mwX7_lay : gMw yX7_lay cX7_lay 4 (some .int) 3 := ⟨gTm (List.mem_of_getElem? (i := 1248) (by decide +kernel)) (by decide +kernel), gTm (List.mem_of_getElem? (i := 62) (by decide +kernel)) (by decide +kernel), by decide +kernel, by decide +kernel, by decide⟩
theorem mvX7_lay : gMv yX7_lay := ⟨gTm (List.mem_of_getElem? (i := 1246) (by decide +kernel)) (by decide +kernel), gTm (List.mem_of_getElem? (i := 1247) (by decide +kernel)) (by decide +kernel)⟩
theorem mwX7_lowest : gMw yX7_lowest cX7_lowest 11 (some .long) 3 := ⟨gTm (List.mem_of_getElem? (i := 1194) (by decide +kernel)) (by decide +kernel), gTm (List.mem_of_getElem? (i := 62) (by decide +kernel)) (by decide +kernel), by decide +kernel, by decide +kernel, by decide⟩
theorem msX7_lowest : gMs yX7_lowest := gTm (List.mem_of_getElem? (i := 1193) (by decide +kernel)) (by decide +kernel)
theorem mwX7_luck : gMw yX7_luck cX7_luck 5 (some .long) 4 := ⟨gTm (List.mem_of_getElem? (i := 1185) (by decide +kernel)) (by decide +kernel), gTm (List.mem_of_getElem? (i := 62) (by decide +kernel)) (by decide +kernel), by decide +kernel, by decide +kernel, by decide⟩
theorem mvX7_luck : gMv yX7_luck := ⟨gTm (List.mem_of_getElem? (i := 1183) (by decide +kernel)) (by decide +kernel), gTm (List.mem_of_getElem? (i := 1184) (by decide +kernel)) (by decide +kernel)⟩
theorem mwX7_mean : gMw yX7_mean cX7_mean 4 (some .long) 3 := ⟨gTm (List.mem_of_getElem? (i := 1199) (by decide +kernel)) (by decide +kernel), gTm (List.mem_of_getElem? (i := 62) (by decide +kernel)) (by decide +kernel), by decide +kernel, by decide +kernel, by decide⟩
theorem mvX7_mean : gMv yX7_mean := ⟨gTm (List.mem_of_getElem? (i := 1197) (by decide +kernel)) (by decide +kernel), gTm (List.mem_of_getElem? (i := 1198) (by decide +kernel)) (by decide +kernel)⟩
theorem mwX7_mindsOn : gMw yX7_mindsOn cX7_mindsOn 6 (some .int) 3 := ⟨gTm (List.mem_of_getElem? (i := 1021) (by decide +kernel)) (by decide +kernel), gTm (List.mem_of_getElem? (i := 62) (by decide +kernel)) (by decide +kernel), by decide +kernel, by decide +kernel, by decide⟩
theorem mvX7_mindsOn : gMv yX7_mindsOn := ⟨gTm (List.mem_of_getElem? (i := 1020) (by decide +kernel)) (by decide +kernel), gTm (List.mem_of_getElem? (i := 36) (by decide +kernel)) (by decide +kernel)⟩
theorem mwX7_nameHere : gMw yX7_nameHere cX7_nameHere 4 (some .int) 0 := ⟨gTm (List.mem_of_getElem? (i := 971) (by decide +kernel)) (by decide +kernel), gTm (List.mem_of_getElem? (i := 62) (by decide +kernel)) (by decide +kernel), by decide +kernel, by decide +kernel, by decide⟩
theorem mvX7_nameHere : gMv yX7_nameHere := ⟨gTm (List.mem_of_getElem? (i := 970) (by decide +kernel)) (by decide +kernel), gTm (List.mem_of_getElem? (i := 27) (by decide +kernel)) (by decide +kernel)⟩
theorem mwX7_nerves : gMw yX7_nerves cX7_nerves 2 (some .int) 1 := ⟨gTm (List.mem_of_getElem? (i := 1223) (by decide +kernel)) (by decide +kernel), gTm (List.mem_of_getElem? (i := 62) (by decide +kernel)) (by decide +kernel), by decide +kernel, by decide +kernel, by decide⟩
theorem mvX7_nerves : gMv yX7_nerves := ⟨gTm (List.mem_of_getElem? (i := 1221) (by decide +kernel)) (by decide +kernel), gTm (List.mem_of_getElem? (i := 1222) (by decide +kernel)) (by decide +kernel)⟩
theorem mwX7_number : gMw yX7_number cX7_number 4 (some .int) 2 := ⟨gTm (List.mem_of_getElem? (i := 980) (by decide +kernel)) (by decide +kernel), gTm (List.mem_of_getElem? (i := 62) (by decide +kernel)) (by decide +kernel), by decide +kernel, by decide +kernel, by decide⟩
theorem mvX7_number : gMv yX7_number := ⟨gTm (List.mem_of_getElem? (i := 979) (by decide +kernel)) (by decide +kernel), gTm (List.mem_of_getElem? (i := 29) (by decide +kernel)) (by decide +kernel)⟩
theorem mwX7_numbersAt : gMw yX7_numbersAt cX7_numbersAt 6 (some .int) 2 := ⟨gTm (List.mem_of_getElem? (i := 1215) (by decide +kernel)) (by decide +kernel), gTm (List.mem_of_getElem? (i := 62) (by decide +kernel)) (by decide +kernel), by decide +kernel, by decide +kernel, by decide⟩
theorem mvX7_numbersAt : gMv yX7_numbersAt := ⟨gTm (List.mem_of_getElem? (i := 1214) (by decide +kernel)) (by decide +kernel), gTm (List.mem_of_getElem? (i := 52) (by decide +kernel)) (by decide +kernel)⟩
theorem mwX7_open : gMw yX7_open cX7_open 5 (some .int) 3 := ⟨gTm (List.mem_of_getElem? (i := 1059) (by decide +kernel)) (by decide +kernel), gTm (List.mem_of_getElem? (i := 62) (by decide +kernel)) (by decide +kernel), by decide +kernel, by decide +kernel, by decide⟩
theorem mvX7_open : gMv yX7_open := ⟨gTm (List.mem_of_getElem? (i := 1057) (by decide +kernel)) (by decide +kernel), gTm (List.mem_of_getElem? (i := 1058) (by decide +kernel)) (by decide +kernel)⟩
theorem mwX7_planOn : gMw yX7_planOn cX7_planOn 2 (some .int) 1 := ⟨gTm (List.mem_of_getElem? (i := 1084) (by decide +kernel)) (by decide +kernel), gTm (List.mem_of_getElem? (i := 62) (by decide +kernel)) (by decide +kernel), by decide +kernel, by decide +kernel, by decide⟩
theorem mvX7_planOn : gMv yX7_planOn := ⟨gTm (List.mem_of_getElem? (i := 1083) (by decide +kernel)) (by decide +kernel), gTm (List.mem_of_getElem? (i := 40) (by decide +kernel)) (by decide +kernel)⟩
theorem mwX7_play : gMw yX7_play cX7_play 8 (some .int) 2 := ⟨gTm (List.mem_of_getElem? (i := 1172) (by decide +kernel)) (by decide +kernel), gTm (List.mem_of_getElem? (i := 62) (by decide +kernel)) (by decide +kernel), by decide +kernel, by decide +kernel, by decide⟩
theorem mvX7_play : gMv yX7_play := ⟨gTm (List.mem_of_getElem? (i := 1170) (by decide +kernel)) (by decide +kernel), gTm (List.mem_of_getElem? (i := 1171) (by decide +kernel)) (by decide +kernel)⟩
theorem mwX7_puts : gMw yX7_puts cX7_puts 6 (some .int) 4 := ⟨gTm (List.mem_of_getElem? (i := 1045) (by decide +kernel)) (by decide +kernel), gTm (List.mem_of_getElem? (i := 62) (by decide +kernel)) (by decide +kernel), by decide +kernel, by decide +kernel, by decide⟩
theorem mvX7_puts : gMv yX7_puts := ⟨gTm (List.mem_of_getElem? (i := 1044) (by decide +kernel)) (by decide +kernel), gTm (List.mem_of_getElem? (i := 38) (by decide +kernel)) (by decide +kernel)⟩
theorem mwX7_read : gMw yX7_read cX7_read 9 (some .int) 4 := ⟨gTm (List.mem_of_getElem? (i := 1252) (by decide +kernel)) (by decide +kernel), gTm (List.mem_of_getElem? (i := 62) (by decide +kernel)) (by decide +kernel), by decide +kernel, by decide +kernel, by decide⟩
theorem mvX7_read : gMv yX7_read := ⟨gTm (List.mem_of_getElem? (i := 1250) (by decide +kernel)) (by decide +kernel), gTm (List.mem_of_getElem? (i := 1251) (by decide +kernel)) (by decide +kernel)⟩
theorem mwX7_readLine : gMw yX7_readLine cX7_readLine 2 (none) 0 := ⟨gTm (List.mem_of_getElem? (i := 967) (by decide +kernel)) (by decide +kernel), gTm (List.mem_of_getElem? (i := 62) (by decide +kernel)) (by decide +kernel), by decide +kernel, by decide +kernel, by decide⟩
theorem mvX7_readLine : gMv yX7_readLine := ⟨gTm (List.mem_of_getElem? (i := 966) (by decide +kernel)) (by decide +kernel), gTm (List.mem_of_getElem? (i := 26) (by decide +kernel)) (by decide +kernel)⟩
theorem mwX7_readMore : gMw yX7_readMore cX7_readMore 3 (none) 1 := ⟨gTm (List.mem_of_getElem? (i := 976) (by decide +kernel)) (by decide +kernel), gTm (List.mem_of_getElem? (i := 62) (by decide +kernel)) (by decide +kernel), by decide +kernel, by decide +kernel, by decide⟩
theorem mvX7_readMore : gMv yX7_readMore := ⟨gTm (List.mem_of_getElem? (i := 975) (by decide +kernel)) (by decide +kernel), gTm (List.mem_of_getElem? (i := 28) (by decide +kernel)) (by decide +kernel)⟩
theorem mwX7_readsOn : gMw yX7_readsOn cX7_readsOn 2 (none) 0 := ⟨gTm (List.mem_of_getElem? (i := 951) (by decide +kernel)) (by decide +kernel), gTm (List.mem_of_getElem? (i := 62) (by decide +kernel)) (by decide +kernel), by decide +kernel, by decide +kernel, by decide⟩
theorem mvX7_readsOn : gMv yX7_readsOn := ⟨gTm (List.mem_of_getElem? (i := 950) (by decide +kernel)) (by decide +kernel), gTm (List.mem_of_getElem? (i := 23) (by decide +kernel)) (by decide +kernel)⟩
theorem mwX7_route : gMw yX7_route cX7_route 11 (some .int) 2 := ⟨gTm (List.mem_of_getElem? (i := 1152) (by decide +kernel)) (by decide +kernel), gTm (List.mem_of_getElem? (i := 62) (by decide +kernel)) (by decide +kernel), by decide +kernel, by decide +kernel, by decide⟩
theorem mvX7_route : gMv yX7_route := ⟨gTm (List.mem_of_getElem? (i := 1150) (by decide +kernel)) (by decide +kernel), gTm (List.mem_of_getElem? (i := 1151) (by decide +kernel)) (by decide +kernel)⟩
theorem mwX7_row : gMw yX7_row cX7_row 3 (some .int) 2 := ⟨gTm (List.mem_of_getElem? (i := 1025) (by decide +kernel)) (by decide +kernel), gTm (List.mem_of_getElem? (i := 62) (by decide +kernel)) (by decide +kernel), by decide +kernel, by decide +kernel, by decide⟩
theorem mvX7_row : gMv yX7_row := ⟨gTm (List.mem_of_getElem? (i := 1023) (by decide +kernel)) (by decide +kernel), gTm (List.mem_of_getElem? (i := 1024) (by decide +kernel)) (by decide +kernel)⟩
theorem mwX7_rowOn : gMw yX7_rowOn cX7_rowOn 2 (some .int) 1 := ⟨gTm (List.mem_of_getElem? (i := 1000) (by decide +kernel)) (by decide +kernel), gTm (List.mem_of_getElem? (i := 62) (by decide +kernel)) (by decide +kernel), by decide +kernel, by decide +kernel, by decide⟩
theorem mvX7_rowOn : gMv yX7_rowOn := ⟨gTm (List.mem_of_getElem? (i := 999) (by decide +kernel)) (by decide +kernel), gTm (List.mem_of_getElem? (i := 32) (by decide +kernel)) (by decide +kernel)⟩
theorem mwX7_rule : gMw yX7_rule cX7_rule 2 (some .int) 1 := ⟨gTm (List.mem_of_getElem? (i := 988) (by decide +kernel)) (by decide +kernel), gTm (List.mem_of_getElem? (i := 62) (by decide +kernel)) (by decide +kernel), by decide +kernel, by decide +kernel, by decide⟩
theorem mvX7_rule : gMv yX7_rule := ⟨gTm (List.mem_of_getElem? (i := 986) (by decide +kernel)) (by decide +kernel), gTm (List.mem_of_getElem? (i := 987) (by decide +kernel)) (by decide +kernel)⟩
theorem mwX7_runs : gMw yX7_runs cX7_runs 4 (some .int) 2 := ⟨gTm (List.mem_of_getElem? (i := 1103) (by decide +kernel)) (by decide +kernel), gTm (List.mem_of_getElem? (i := 62) (by decide +kernel)) (by decide +kernel), by decide +kernel, by decide +kernel, by decide⟩
theorem mvX7_runs : gMv yX7_runs := ⟨gTm (List.mem_of_getElem? (i := 1101) (by decide +kernel)) (by decide +kernel), gTm (List.mem_of_getElem? (i := 1102) (by decide +kernel)) (by decide +kernel)⟩
theorem mwX7_season : gMw yX7_season cX7_season 7 (some .int) 3 := ⟨gTm (List.mem_of_getElem? (i := 1231) (by decide +kernel)) (by decide +kernel), gTm (List.mem_of_getElem? (i := 62) (by decide +kernel)) (by decide +kernel), by decide +kernel, by decide +kernel, by decide⟩
theorem mvX7_season : gMv yX7_season := ⟨gTm (List.mem_of_getElem? (i := 1229) (by decide +kernel)) (by decide +kernel), gTm (List.mem_of_getElem? (i := 1230) (by decide +kernel)) (by decide +kernel)⟩
theorem mwX7_see : gMw yX7_see cX7_see 4 (some .int) 3 := ⟨gTm (List.mem_of_getElem? (i := 1203) (by decide +kernel)) (by decide +kernel), gTm (List.mem_of_getElem? (i := 62) (by decide +kernel)) (by decide +kernel), by decide +kernel, by decide +kernel, by decide⟩
theorem mvX7_see : gMv yX7_see := ⟨gTm (List.mem_of_getElem? (i := 1201) (by decide +kernel)) (by decide +kernel), gTm (List.mem_of_getElem? (i := 1202) (by decide +kernel)) (by decide +kernel)⟩
theorem mwX7_set : gMw yX7_set cX7_set 5 (some .int) 3 := ⟨gTm (List.mem_of_getElem? (i := 1054) (by decide +kernel)) (by decide +kernel), gTm (List.mem_of_getElem? (i := 62) (by decide +kernel)) (by decide +kernel), by decide +kernel, by decide +kernel, by decide⟩
theorem mvX7_set : gMv yX7_set := ⟨gTm (List.mem_of_getElem? (i := 1052) (by decide +kernel)) (by decide +kernel), gTm (List.mem_of_getElem? (i := 1053) (by decide +kernel)) (by decide +kernel)⟩
theorem mwX7_shareOn : gMw yX7_shareOn cX7_shareOn 5 (some .int) 2 := ⟨gTm (List.mem_of_getElem? (i := 1017) (by decide +kernel)) (by decide +kernel), gTm (List.mem_of_getElem? (i := 62) (by decide +kernel)) (by decide +kernel), by decide +kernel, by decide +kernel, by decide⟩
theorem mvX7_shareOn : gMv yX7_shareOn := ⟨gTm (List.mem_of_getElem? (i := 1016) (by decide +kernel)) (by decide +kernel), gTm (List.mem_of_getElem? (i := 35) (by decide +kernel)) (by decide +kernel)⟩
theorem mwX7_sheet : gMw yX7_sheet cX7_sheet 5 (some .int) 3 := ⟨gTm (List.mem_of_getElem? (i := 1244) (by decide +kernel)) (by decide +kernel), gTm (List.mem_of_getElem? (i := 62) (by decide +kernel)) (by decide +kernel), by decide +kernel, by decide +kernel, by decide⟩
theorem mvX7_sheet : gMv yX7_sheet := ⟨gTm (List.mem_of_getElem? (i := 1242) (by decide +kernel)) (by decide +kernel), gTm (List.mem_of_getElem? (i := 1243) (by decide +kernel)) (by decide +kernel)⟩
theorem mwX7_sumOn : gMw yX7_sumOn cX7_sumOn 5 (some .int) 2 := ⟨gTm (List.mem_of_getElem? (i := 992) (by decide +kernel)) (by decide +kernel), gTm (List.mem_of_getElem? (i := 62) (by decide +kernel)) (by decide +kernel), by decide +kernel, by decide +kernel, by decide⟩
theorem mvX7_sumOn : gMv yX7_sumOn := ⟨gTm (List.mem_of_getElem? (i := 991) (by decide +kernel)) (by decide +kernel), gTm (List.mem_of_getElem? (i := 30) (by decide +kernel)) (by decide +kernel)⟩
theorem mwX7_swap : gMw yX7_swap cX7_swap 7 (some .int) 2 := ⟨gTm (List.mem_of_getElem? (i := 1156) (by decide +kernel)) (by decide +kernel), gTm (List.mem_of_getElem? (i := 62) (by decide +kernel)) (by decide +kernel), by decide +kernel, by decide +kernel, by decide⟩
theorem mvX7_swap : gMv yX7_swap := ⟨gTm (List.mem_of_getElem? (i := 1154) (by decide +kernel)) (by decide +kernel), gTm (List.mem_of_getElem? (i := 1155) (by decide +kernel)) (by decide +kernel)⟩
theorem mwX7_tell : gMw yX7_tell cX7_tell 3 (some .int) 2 := ⟨gTm (List.mem_of_getElem? (i := 1049) (by decide +kernel)) (by decide +kernel), gTm (List.mem_of_getElem? (i := 62) (by decide +kernel)) (by decide +kernel), by decide +kernel, by decide +kernel, by decide⟩
theorem mvX7_tell : gMv yX7_tell := ⟨gTm (List.mem_of_getElem? (i := 1047) (by decide +kernel)) (by decide +kernel), gTm (List.mem_of_getElem? (i := 1048) (by decide +kernel)) (by decide +kernel)⟩
theorem mwX7_text : gMw yX7_text cX7_text 3 (some .int) 0 := ⟨gTm (List.mem_of_getElem? (i := 947) (by decide +kernel)) (by decide +kernel), gTm (List.mem_of_getElem? (i := 62) (by decide +kernel)) (by decide +kernel), by decide +kernel, by decide +kernel, by decide⟩
theorem mvX7_text : gMv yX7_text := ⟨gTm (List.mem_of_getElem? (i := 945) (by decide +kernel)) (by decide +kernel), gTm (List.mem_of_getElem? (i := 946) (by decide +kernel)) (by decide +kernel)⟩
theorem mwX7_torn : gMw yX7_torn cX7_torn 1 (some .int) 0 := ⟨gTm (List.mem_of_getElem? (i := 1256) (by decide +kernel)) (by decide +kernel), gTm (List.mem_of_getElem? (i := 62) (by decide +kernel)) (by decide +kernel), by decide +kernel, by decide +kernel, by decide⟩
theorem mvX7_torn : gMv yX7_torn := ⟨gTm (List.mem_of_getElem? (i := 1254) (by decide +kernel)) (by decide +kernel), gTm (List.mem_of_getElem? (i := 1255) (by decide +kernel)) (by decide +kernel)⟩
theorem mwX7_ups : gMw yX7_ups cX7_ups 2 (some .int) 1 := ⟨gTm (List.mem_of_getElem? (i := 1132) (by decide +kernel)) (by decide +kernel), gTm (List.mem_of_getElem? (i := 62) (by decide +kernel)) (by decide +kernel), by decide +kernel, by decide +kernel, by decide⟩
theorem mvX7_ups : gMv yX7_ups := ⟨gTm (List.mem_of_getElem? (i := 1130) (by decide +kernel)) (by decide +kernel), gTm (List.mem_of_getElem? (i := 1131) (by decide +kernel)) (by decide +kernel)⟩
theorem mwX7_watchersOn : gMw yX7_watchersOn cX7_watchersOn 3 (some .int) 1 := ⟨gTm (List.mem_of_getElem? (i := 996) (by decide +kernel)) (by decide +kernel), gTm (List.mem_of_getElem? (i := 62) (by decide +kernel)) (by decide +kernel), by decide +kernel, by decide +kernel, by decide⟩
theorem mvX7_watchersOn : gMv yX7_watchersOn := ⟨gTm (List.mem_of_getElem? (i := 995) (by decide +kernel)) (by decide +kernel), gTm (List.mem_of_getElem? (i := 31) (by decide +kernel)) (by decide +kernel)⟩
theorem mwX7_wentThen : gMw yX7_wentThen cX7_wentThen 2 (some .int) 1 := ⟨gTm (List.mem_of_getElem? (i := 1128) (by decide +kernel)) (by decide +kernel), gTm (List.mem_of_getElem? (i := 62) (by decide +kernel)) (by decide +kernel), by decide +kernel, by decide +kernel, by decide⟩
theorem mvX7_wentThen : gMv yX7_wentThen := ⟨gTm (List.mem_of_getElem? (i := 1127) (by decide +kernel)) (by decide +kernel), gTm (List.mem_of_getElem? (i := 47) (by decide +kernel)) (by decide +kernel)⟩
theorem mwX7_when : gMw yX7_when cX7_when 3 (some .int) 1 := ⟨gTm (List.mem_of_getElem? (i := 1136) (by decide +kernel)) (by decide +kernel), gTm (List.mem_of_getElem? (i := 62) (by decide +kernel)) (by decide +kernel), by decide +kernel, by decide +kernel, by decide⟩
theorem mvX7_when : gMv yX7_when := ⟨gTm (List.mem_of_getElem? (i := 1134) (by decide +kernel)) (by decide +kernel), gTm (List.mem_of_getElem? (i := 1135) (by decide +kernel)) (by decide +kernel)⟩
theorem mwX7_whom : gMw yX7_whom cX7_whom 8 (some .int) 3 := ⟨gTm (List.mem_of_getElem? (i := 1144) (by decide +kernel)) (by decide +kernel), gTm (List.mem_of_getElem? (i := 62) (by decide +kernel)) (by decide +kernel), by decide +kernel, by decide +kernel, by decide⟩
theorem mvX7_whom : gMv yX7_whom := ⟨gTm (List.mem_of_getElem? (i := 1142) (by decide +kernel)) (by decide +kernel), gTm (List.mem_of_getElem? (i := 1143) (by decide +kernel)) (by decide +kernel)⟩
theorem mwX7_whomBy : gMw yX7_whomBy cX7_whomBy 2 (some .int) 1 := ⟨gTm (List.mem_of_getElem? (i := 1148) (by decide +kernel)) (by decide +kernel), gTm (List.mem_of_getElem? (i := 62) (by decide +kernel)) (by decide +kernel), by decide +kernel, by decide +kernel, by decide⟩
theorem mvX7_whomBy : gMv yX7_whomBy := ⟨gTm (List.mem_of_getElem? (i := 1147) (by decide +kernel)) (by decide +kernel), gTm (List.mem_of_getElem? (i := 48) (by decide +kernel)) (by decide +kernel)⟩
theorem mwX7_whomOn : gMw yX7_whomOn cX7_whomOn 3 (some .int) 1 := ⟨gTm (List.mem_of_getElem? (i := 1004) (by decide +kernel)) (by decide +kernel), gTm (List.mem_of_getElem? (i := 62) (by decide +kernel)) (by decide +kernel), by decide +kernel, by decide +kernel, by decide⟩
theorem mvX7_whomOn : gMv yX7_whomOn := ⟨gTm (List.mem_of_getElem? (i := 1003) (by decide +kernel)) (by decide +kernel), gTm (List.mem_of_getElem? (i := 33) (by decide +kernel)) (by decide +kernel)⟩
theorem mwJ6_bitCount_0f7a4 : gMw yJ6_bitCount_0f7a4 cJ6_bitCount_0f7a4 1 (some .int) 1 := ⟨gTm (List.mem_of_getElem? (i := 582) (by decide +kernel)) (by decide +kernel), gTm (List.mem_of_getElem? (i := 68) (by decide +kernel)) (by decide +kernel), by decide +kernel, by decide +kernel, by decide⟩
theorem msJ6_bitCount_0f7a4 : gMs yJ6_bitCount_0f7a4 := gTm (List.mem_of_getElem? (i := 581) (by decide +kernel)) (by decide +kernel)
theorem mwJ0_charAt_5068e : gMw yJ0_charAt_5068e cJ0_charAt_5068e 2 (some .char) 1 := ⟨gTm (List.mem_of_getElem? (i := 358) (by decide +kernel)) (by decide +kernel), gTm (List.mem_of_getElem? (i := 63) (by decide +kernel)) (by decide +kernel), by decide +kernel, by decide +kernel, by decide⟩
theorem mvJ0_charAt_5068e : gMv yJ0_charAt_5068e := ⟨gTm (List.mem_of_getElem? (i := 356) (by decide +kernel)) (by decide +kernel), gTm (List.mem_of_getElem? (i := 357) (by decide +kernel)) (by decide +kernel)⟩
theorem mwJ0_checkIndex_df160 : gMw yJ0_checkIndex_df160 cJ0_checkIndex_df160 2 (none) 2 := ⟨gTm (List.mem_of_getElem? (i := 368) (by decide +kernel)) (by decide +kernel), gTm (List.mem_of_getElem? (i := 63) (by decide +kernel)) (by decide +kernel), by decide +kernel, by decide +kernel, by decide⟩
theorem msJ0_checkIndex_df160 : gMs yJ0_checkIndex_df160 := gTm (List.mem_of_getElem? (i := 367) (by decide +kernel)) (by decide +kernel)
theorem mwJ0_coder_7d493 : gMw yJ0_coder_7d493 cJ0_coder_7d493 1 (some .byte) 0 := ⟨gTm (List.mem_of_getElem? (i := 352) (by decide +kernel)) (by decide +kernel), gTm (List.mem_of_getElem? (i := 63) (by decide +kernel)) (by decide +kernel), by decide +kernel, by decide +kernel, by decide⟩
theorem mvJ0_coder_7d493 : gMv yJ0_coder_7d493 := ⟨gTm (List.mem_of_getElem? (i := 350) (by decide +kernel)) (by decide +kernel), gTm (List.mem_of_getElem? (i := 351) (by decide +kernel)) (by decide +kernel)⟩
theorem mwJ0_isLatin1_aae02 : gMw yJ0_isLatin1_aae02 cJ0_isLatin1_aae02 1 (some .boolean) 0 := ⟨gTm (List.mem_of_getElem? (i := 362) (by decide +kernel)) (by decide +kernel), gTm (List.mem_of_getElem? (i := 63) (by decide +kernel)) (by decide +kernel), by decide +kernel, by decide +kernel, by decide⟩
theorem mvJ0_isLatin1_aae02 : gMv yJ0_isLatin1_aae02 := ⟨gTm (List.mem_of_getElem? (i := 360) (by decide +kernel)) (by decide +kernel), gTm (List.mem_of_getElem? (i := 361) (by decide +kernel)) (by decide +kernel)⟩
theorem mwJ0_length_8abf5 : gMw yJ0_length_8abf5 cJ0_length_8abf5 1 (some .int) 0 := ⟨gTm (List.mem_of_getElem? (i := 348) (by decide +kernel)) (by decide +kernel), gTm (List.mem_of_getElem? (i := 63) (by decide +kernel)) (by decide +kernel), by decide +kernel, by decide +kernel, by decide⟩
theorem mvJ0_length_8abf5 : gMv yJ0_length_8abf5 := ⟨gTm (List.mem_of_getElem? (i := 346) (by decide +kernel)) (by decide +kernel), gTm (List.mem_of_getElem? (i := 347) (by decide +kernel)) (by decide +kernel)⟩
theorem mwJ1_charAt_3b067 : gMw yJ1_charAt_3b067 cJ1_charAt_3b067 2 (some .char) 2 := ⟨gTm (List.mem_of_getElem? (i := 365) (by decide +kernel)) (by decide +kernel), gTm (List.mem_of_getElem? (i := 64) (by decide +kernel)) (by decide +kernel), by decide +kernel, by decide +kernel, by decide⟩
theorem msJ1_charAt_3b067 : gMs yJ1_charAt_3b067 := gTm (List.mem_of_getElem? (i := 364) (by decide +kernel)) (by decide +kernel)
theorem mwJ2_charAt_3b067 : gMw yJ2_charAt_3b067 cJ2_charAt_3b067 2 (some .char) 2 := ⟨gTm (List.mem_of_getElem? (i := 376) (by decide +kernel)) (by decide +kernel), gTm (List.mem_of_getElem? (i := 66) (by decide +kernel)) (by decide +kernel), by decide +kernel, by decide +kernel, by decide⟩
theorem msJ2_charAt_3b067 : gMs yJ2_charAt_3b067 := gTm (List.mem_of_getElem? (i := 375) (by decide +kernel)) (by decide +kernel)
theorem mwJ2_checkIndex_2214a : gMw yJ2_checkIndex_2214a cJ2_checkIndex_2214a 2 (none) 2 := ⟨gTm (List.mem_of_getElem? (i := 379) (by decide +kernel)) (by decide +kernel), gTm (List.mem_of_getElem? (i := 66) (by decide +kernel)) (by decide +kernel), by decide +kernel, by decide +kernel, by decide⟩
theorem msJ2_checkIndex_2214a : gMs yJ2_checkIndex_2214a := gTm (List.mem_of_getElem? (i := 378) (by decide +kernel)) (by decide +kernel)
theorem mwJ2_getChar_3b067 : gMw yJ2_getChar_3b067 cJ2_getChar_3b067 2 (some .char) 2 := ⟨gTm (List.mem_of_getElem? (i := 386) (by decide +kernel)) (by decide +kernel), gTm (List.mem_of_getElem? (i := 66) (by decide +kernel)) (by decide +kernel), by decide +kernel, by decide +kernel, by decide⟩
theorem msJ2_getChar_3b067 : gMs yJ2_getChar_3b067 := gTm (List.mem_of_getElem? (i := 385) (by decide +kernel)) (by decide +kernel)
theorem mwJ2_length_9d52b : gMw yJ2_length_9d52b cJ2_length_9d52b 1 (some .int) 1 := ⟨gTm (List.mem_of_getElem? (i := 382) (by decide +kernel)) (by decide +kernel), gTm (List.mem_of_getElem? (i := 66) (by decide +kernel)) (by decide +kernel), by decide +kernel, by decide +kernel, by decide⟩
theorem msJ2_length_9d52b : gMs yJ2_length_9d52b := gTm (List.mem_of_getElem? (i := 381) (by decide +kernel)) (by decide +kernel)
theorem mwJ3_checkIndex_8e157 : gMw yJ3_checkIndex_8e157 cJ3_checkIndex_8e157 3 (some .int) 3 := ⟨gTm (List.mem_of_getElem? (i := 373) (by decide +kernel)) (by decide +kernel), gTm (List.mem_of_getElem? (i := 65) (by decide +kernel)) (by decide +kernel), by decide +kernel, by decide +kernel, by decide⟩
theorem msJ3_checkIndex_8e157 : gMs yJ3_checkIndex_8e157 := gTm (List.mem_of_getElem? (i := 372) (by decide +kernel)) (by decide +kernel)
theorem lJ0_335 : Cond.methodLink RJ0 335 yJ0_coder_7d493 ∈ gT := gTm (List.mem_of_getElem? (i := 349) (by decide +kernel)) (by decide +kernel)
theorem lJ0_492 : Cond.methodLink RJ0 492 yJ0_isLatin1_aae02 ∈ gT := gTm (List.mem_of_getElem? (i := 359) (by decide +kernel)) (by decide +kernel)
theorem lJ0_495 : Cond.methodLink RJ0 495 yJ1_charAt_3b067 ∈ gT := gTm (List.mem_of_getElem? (i := 363) (by decide +kernel)) (by decide +kernel)
theorem lJ0_498 : Cond.methodLink RJ0 498 yJ2_charAt_3b067 ∈ gT := gTm (List.mem_of_getElem? (i := 374) (by decide +kernel)) (by decide +kernel)
theorem lJ0_1059 : Cond.methodLink RJ0 1059 yJ3_checkIndex_8e157 ∈ gT := gTm (List.mem_of_getElem? (i := 371) (by decide +kernel)) (by decide +kernel)
theorem lJ1_9 : Cond.methodLink RJ1 9 yJ0_checkIndex_df160 ∈ gT := gTm (List.mem_of_getElem? (i := 366) (by decide +kernel)) (by decide +kernel)
theorem lJ2_48 : Cond.methodLink RJ2 48 yJ2_length_9d52b ∈ gT := gTm (List.mem_of_getElem? (i := 380) (by decide +kernel)) (by decide +kernel)
theorem lJ2_67 : Cond.methodLink RJ2 67 yJ2_checkIndex_2214a ∈ gT := gTm (List.mem_of_getElem? (i := 377) (by decide +kernel)) (by decide +kernel)
theorem lJ2_71 : Cond.methodLink RJ2 71 yJ2_getChar_3b067 ∈ gT := gTm (List.mem_of_getElem? (i := 384) (by decide +kernel)) (by decide +kernel)
theorem lJ2_414 : Cond.methodLink RJ2 414 yJ0_checkIndex_df160 ∈ gT := gTm (List.mem_of_getElem? (i := 383) (by decide +kernel)) (by decide +kernel)
theorem lL_9 : Cond.methodLink RL 9 yX6_init ∈ gT := gTm (List.mem_of_getElem? (i := 71) (by decide +kernel)) (by decide +kernel)
theorem lL_12 : Cond.methodLink RL 12 yX7_init ∈ gT := gTm (List.mem_of_getElem? (i := 837) (by decide +kernel)) (by decide +kernel)
theorem lL_13 : Cond.methodLink RL 13 yX6_feed ∈ gT := gTm (List.mem_of_getElem? (i := 287) (by decide +kernel)) (by decide +kernel)
theorem lL_17 : Cond.methodLink RL 17 yX7_feed ∈ gT := gTm (List.mem_of_getElem? (i := 932) (by decide +kernel)) (by decide +kernel)
theorem lL_18 : Cond.methodLink RL 18 yX6_end ∈ gT := gTm (List.mem_of_getElem? (i := 298) (by decide +kernel)) (by decide +kernel)
theorem lL_21 : Cond.methodLink RL 21 yX7_end ∈ gT := gTm (List.mem_of_getElem? (i := 940) (by decide +kernel)) (by decide +kernel)
theorem lL_22 : Cond.methodLink RL 22 yX6_text ∈ gT := gTm (List.mem_of_getElem? (i := 302) (by decide +kernel)) (by decide +kernel)
theorem lL_26 : Cond.methodLink RL 26 yX7_text ∈ gT := gTm (List.mem_of_getElem? (i := 944) (by decide +kernel)) (by decide +kernel)
theorem lL_27 : Cond.methodLink RL 27 yX6_fault ∈ gT := gTm (List.mem_of_getElem? (i := 452) (by decide +kernel)) (by decide +kernel)
theorem lL_30 : Cond.methodLink RL 30 yX7_fault ∈ gT := gTm (List.mem_of_getElem? (i := 981) (by decide +kernel)) (by decide +kernel)
theorem lL_31 : Cond.methodLink RL 31 yX6_rule ∈ gT := gTm (List.mem_of_getElem? (i := 456) (by decide +kernel)) (by decide +kernel)
theorem lL_34 : Cond.methodLink RL 34 yX7_rule ∈ gT := gTm (List.mem_of_getElem? (i := 985) (by decide +kernel)) (by decide +kernel)
theorem lL_35 : Cond.methodLink RL 35 yX6_geyser ∈ gT := gTm (List.mem_of_getElem? (i := 484) (by decide +kernel)) (by decide +kernel)
theorem lL_39 : Cond.methodLink RL 39 yX7_geyser ∈ gT := gTm (List.mem_of_getElem? (i := 1005) (by decide +kernel)) (by decide +kernel)
theorem lL_40 : Cond.methodLink RL 40 yX6_row ∈ gT := gTm (List.mem_of_getElem? (i := 501) (by decide +kernel)) (by decide +kernel)
theorem lL_43 : Cond.methodLink RL 43 yX7_row ∈ gT := gTm (List.mem_of_getElem? (i := 1022) (by decide +kernel)) (by decide +kernel)
theorem lL_44 : Cond.methodLink RL 44 yX6_alter ∈ gT := gTm (List.mem_of_getElem? (i := 506) (by decide +kernel)) (by decide +kernel)
theorem lL_48 : Cond.methodLink RL 48 yX7_alter ∈ gT := gTm (List.mem_of_getElem? (i := 1030) (by decide +kernel)) (by decide +kernel)
theorem lL_49 : Cond.methodLink RL 49 yX6_tell ∈ gT := gTm (List.mem_of_getElem? (i := 517) (by decide +kernel)) (by decide +kernel)
theorem lL_52 : Cond.methodLink RL 52 yX7_tell ∈ gT := gTm (List.mem_of_getElem? (i := 1046) (by decide +kernel)) (by decide +kernel)
theorem lL_53 : Cond.methodLink RL 53 yX6_set ∈ gT := gTm (List.mem_of_getElem? (i := 521) (by decide +kernel)) (by decide +kernel)
theorem lL_56 : Cond.methodLink RL 56 yX7_set ∈ gT := gTm (List.mem_of_getElem? (i := 1051) (by decide +kernel)) (by decide +kernel)
theorem lL_57 : Cond.methodLink RL 57 yX6_open ∈ gT := gTm (List.mem_of_getElem? (i := 525) (by decide +kernel)) (by decide +kernel)
theorem lL_60 : Cond.methodLink RL 60 yX7_open ∈ gT := gTm (List.mem_of_getElem? (i := 1056) (by decide +kernel)) (by decide +kernel)
theorem lL_61 : Cond.methodLink RL 61 yX6_cut ∈ gT := gTm (List.mem_of_getElem? (i := 530) (by decide +kernel)) (by decide +kernel)
theorem lL_64 : Cond.methodLink RL 64 yX7_cut ∈ gT := gTm (List.mem_of_getElem? (i := 1060) (by decide +kernel)) (by decide +kernel)
theorem lL_65 : Cond.methodLink RL 65 yX6_add ∈ gT := gTm (List.mem_of_getElem? (i := 534) (by decide +kernel)) (by decide +kernel)
theorem lL_68 : Cond.methodLink RL 68 yX7_add ∈ gT := gTm (List.mem_of_getElem? (i := 1064) (by decide +kernel)) (by decide +kernel)
theorem lL_69 : Cond.methodLink RL 69 yX6_drop ∈ gT := gTm (List.mem_of_getElem? (i := 542) (by decide +kernel)) (by decide +kernel)
theorem lL_72 : Cond.methodLink RL 72 yX7_drop ∈ gT := gTm (List.mem_of_getElem? (i := 1072) (by decide +kernel)) (by decide +kernel)
theorem lL_73 : Cond.methodLink RL 73 yX6_hours ∈ gT := gTm (List.mem_of_getElem? (i := 546) (by decide +kernel)) (by decide +kernel)
theorem lL_76 : Cond.methodLink RL 76 yX7_hours ∈ gT := gTm (List.mem_of_getElem? (i := 1076) (by decide +kernel)) (by decide +kernel)
theorem lL_77 : Cond.methodLink RL 77 yX6_runs ∈ gT := gTm (List.mem_of_getElem? (i := 586) (by decide +kernel)) (by decide +kernel)
theorem lL_80 : Cond.methodLink RL 80 yX7_runs ∈ gT := gTm (List.mem_of_getElem? (i := 1100) (by decide +kernel)) (by decide +kernel)
theorem lL_81 : Cond.methodLink RL 81 yX6_ahead ∈ gT := gTm (List.mem_of_getElem? (i := 607) (by decide +kernel)) (by decide +kernel)
theorem lL_84 : Cond.methodLink RL 84 yX7_ahead ∈ gT := gTm (List.mem_of_getElem? (i := 1120) (by decide +kernel)) (by decide +kernel)
theorem lL_85 : Cond.methodLink RL 85 yX6_ups ∈ gT := gTm (List.mem_of_getElem? (i := 618) (by decide +kernel)) (by decide +kernel)
theorem lL_88 : Cond.methodLink RL 88 yX7_ups ∈ gT := gTm (List.mem_of_getElem? (i := 1129) (by decide +kernel)) (by decide +kernel)
theorem lL_89 : Cond.methodLink RL 89 yX6_when ∈ gT := gTm (List.mem_of_getElem? (i := 623) (by decide +kernel)) (by decide +kernel)
theorem lL_92 : Cond.methodLink RL 92 yX7_when ∈ gT := gTm (List.mem_of_getElem? (i := 1133) (by decide +kernel)) (by decide +kernel)
theorem lL_93 : Cond.methodLink RL 93 yX6_again ∈ gT := gTm (List.mem_of_getElem? (i := 628) (by decide +kernel)) (by decide +kernel)
theorem lL_96 : Cond.methodLink RL 96 yX7_again ∈ gT := gTm (List.mem_of_getElem? (i := 1137) (by decide +kernel)) (by decide +kernel)
theorem lL_97 : Cond.methodLink RL 97 yX6_whom ∈ gT := gTm (List.mem_of_getElem? (i := 636) (by decide +kernel)) (by decide +kernel)
theorem lL_100 : Cond.methodLink RL 100 yX7_whom ∈ gT := gTm (List.mem_of_getElem? (i := 1141) (by decide +kernel)) (by decide +kernel)
theorem lL_101 : Cond.methodLink RL 101 yX6_route ∈ gT := gTm (List.mem_of_getElem? (i := 644) (by decide +kernel)) (by decide +kernel)
theorem lL_104 : Cond.methodLink RL 104 yX7_route ∈ gT := gTm (List.mem_of_getElem? (i := 1149) (by decide +kernel)) (by decide +kernel)
theorem lL_105 : Cond.methodLink RL 105 yX6_swap ∈ gT := gTm (List.mem_of_getElem? (i := 659) (by decide +kernel)) (by decide +kernel)
theorem lL_108 : Cond.methodLink RL 108 yX7_swap ∈ gT := gTm (List.mem_of_getElem? (i := 1153) (by decide +kernel)) (by decide +kernel)
theorem lL_109 : Cond.methodLink RL 109 yX6_bears ∈ gT := gTm (List.mem_of_getElem? (i := 667) (by decide +kernel)) (by decide +kernel)
theorem lL_112 : Cond.methodLink RL 112 yX7_bears ∈ gT := gTm (List.mem_of_getElem? (i := 1157) (by decide +kernel)) (by decide +kernel)
theorem lL_113 : Cond.methodLink RL 113 yX6_flow ∈ gT := gTm (List.mem_of_getElem? (i := 675) (by decide +kernel)) (by decide +kernel)
theorem lL_116 : Cond.methodLink RL 116 yX7_flow ∈ gT := gTm (List.mem_of_getElem? (i := 1161) (by decide +kernel)) (by decide +kernel)
theorem lL_117 : Cond.methodLink RL 117 yX6_kind ∈ gT := gTm (List.mem_of_getElem? (i := 679) (by decide +kernel)) (by decide +kernel)
theorem lL_120 : Cond.methodLink RL 120 yX7_kind ∈ gT := gTm (List.mem_of_getElem? (i := 1165) (by decide +kernel)) (by decide +kernel)
theorem lL_121 : Cond.methodLink RL 121 yX6_play ∈ gT := gTm (List.mem_of_getElem? (i := 683) (by decide +kernel)) (by decide +kernel)
theorem lL_124 : Cond.methodLink RL 124 yX7_play ∈ gT := gTm (List.mem_of_getElem? (i := 1169) (by decide +kernel)) (by decide +kernel)
theorem lL_125 : Cond.methodLink RL 125 yX6_luck ∈ gT := gTm (List.mem_of_getElem? (i := 701) (by decide +kernel)) (by decide +kernel)
theorem lL_129 : Cond.methodLink RL 129 yX7_luck ∈ gT := gTm (List.mem_of_getElem? (i := 1182) (by decide +kernel)) (by decide +kernel)
theorem lL_130 : Cond.methodLink RL 130 yX6_mean ∈ gT := gTm (List.mem_of_getElem? (i := 722) (by decide +kernel)) (by decide +kernel)
theorem lL_134 : Cond.methodLink RL 134 yX7_mean ∈ gT := gTm (List.mem_of_getElem? (i := 1196) (by decide +kernel)) (by decide +kernel)
theorem lL_135 : Cond.methodLink RL 135 yX6_see ∈ gT := gTm (List.mem_of_getElem? (i := 726) (by decide +kernel)) (by decide +kernel)
theorem lL_138 : Cond.methodLink RL 138 yX7_see ∈ gT := gTm (List.mem_of_getElem? (i := 1200) (by decide +kernel)) (by decide +kernel)
theorem lL_139 : Cond.methodLink RL 139 yX6_forget ∈ gT := gTm (List.mem_of_getElem? (i := 734) (by decide +kernel)) (by decide +kernel)
theorem lL_142 : Cond.methodLink RL 142 yX7_forget ∈ gT := gTm (List.mem_of_getElem? (i := 1204) (by decide +kernel)) (by decide +kernel)
theorem lL_143 : Cond.methodLink RL 143 yX6_kinds ∈ gT := gTm (List.mem_of_getElem? (i := 738) (by decide +kernel)) (by decide +kernel)
theorem lL_146 : Cond.methodLink RL 146 yX7_kinds ∈ gT := gTm (List.mem_of_getElem? (i := 1208) (by decide +kernel)) (by decide +kernel)
theorem lL_147 : Cond.methodLink RL 147 yX6_nerves ∈ gT := gTm (List.mem_of_getElem? (i := 751) (by decide +kernel)) (by decide +kernel)
theorem lL_150 : Cond.methodLink RL 150 yX7_nerves ∈ gT := gTm (List.mem_of_getElem? (i := 1220) (by decide +kernel)) (by decide +kernel)
theorem lL_151 : Cond.methodLink RL 151 yX6_ask ∈ gT := gTm (List.mem_of_getElem? (i := 759) (by decide +kernel)) (by decide +kernel)
theorem lL_154 : Cond.methodLink RL 154 yX7_ask ∈ gT := gTm (List.mem_of_getElem? (i := 1224) (by decide +kernel)) (by decide +kernel)
theorem lL_155 : Cond.methodLink RL 155 yX6_season ∈ gT := gTm (List.mem_of_getElem? (i := 771) (by decide +kernel)) (by decide +kernel)
theorem lL_158 : Cond.methodLink RL 158 yX7_season ∈ gT := gTm (List.mem_of_getElem? (i := 1228) (by decide +kernel)) (by decide +kernel)
theorem lL_159 : Cond.methodLink RL 159 yX6_keep ∈ gT := gTm (List.mem_of_getElem? (i := 776) (by decide +kernel)) (by decide +kernel)
theorem lL_162 : Cond.methodLink RL 162 yX7_keep ∈ gT := gTm (List.mem_of_getElem? (i := 1233) (by decide +kernel)) (by decide +kernel)
theorem lL_163 : Cond.methodLink RL 163 yX6_back ∈ gT := gTm (List.mem_of_getElem? (i := 780) (by decide +kernel)) (by decide +kernel)
theorem lL_166 : Cond.methodLink RL 166 yX7_back ∈ gT := gTm (List.mem_of_getElem? (i := 1237) (by decide +kernel)) (by decide +kernel)
theorem lL_167 : Cond.methodLink RL 167 yX6_sheet ∈ gT := gTm (List.mem_of_getElem? (i := 784) (by decide +kernel)) (by decide +kernel)
theorem lL_170 : Cond.methodLink RL 170 yX7_sheet ∈ gT := gTm (List.mem_of_getElem? (i := 1241) (by decide +kernel)) (by decide +kernel)
theorem lL_171 : Cond.methodLink RL 171 yX6_lay ∈ gT := gTm (List.mem_of_getElem? (i := 797) (by decide +kernel)) (by decide +kernel)
theorem lL_174 : Cond.methodLink RL 174 yX7_lay ∈ gT := gTm (List.mem_of_getElem? (i := 1245) (by decide +kernel)) (by decide +kernel)
theorem lL_175 : Cond.methodLink RL 175 yX6_read ∈ gT := gTm (List.mem_of_getElem? (i := 809) (by decide +kernel)) (by decide +kernel)
theorem lL_179 : Cond.methodLink RL 179 yX7_read ∈ gT := gTm (List.mem_of_getElem? (i := 1249) (by decide +kernel)) (by decide +kernel)
theorem lL_180 : Cond.methodLink RL 180 yX6_torn ∈ gT := gTm (List.mem_of_getElem? (i := 823) (by decide +kernel)) (by decide +kernel)
theorem lL_183 : Cond.methodLink RL 183 yX7_torn ∈ gT := gTm (List.mem_of_getElem? (i := 1253) (by decide +kernel)) (by decide +kernel)
theorem lL_184 : Cond.methodLink RL 184 yX6_count ∈ gT := gTm (List.mem_of_getElem? (i := 827) (by decide +kernel)) (by decide +kernel)
theorem lL_187 : Cond.methodLink RL 187 yX7_count ∈ gT := gTm (List.mem_of_getElem? (i := 1257) (by decide +kernel)) (by decide +kernel)
theorem lX0_3 : Cond.methodLink RX0 3 objectInit ∈ gT := gTm (List.mem_of_getElem? (i := 82) (by decide +kernel)) (by decide +kernel)
theorem lX0_41 : Cond.methodLink RX0 41 yX5_become ∈ gT := gTm (List.mem_of_getElem? (i := 444) (by decide +kernel)) (by decide +kernel)
theorem lX0_45 : Cond.methodLink RX0 45 yX5_takeMood ∈ gT := gTm (List.mem_of_getElem? (i := 695) (by decide +kernel)) (by decide +kernel)
theorem lX0_48 : Cond.methodLink RX0 48 yX5_begin ∈ gT := gTm (List.mem_of_getElem? (i := 436) (by decide +kernel)) (by decide +kernel)
theorem lX0_52 : Cond.methodLink RX0 52 yX0_hasRow ∈ gT := gTm (List.mem_of_getElem? (i := 476) (by decide +kernel)) (by decide +kernel)
theorem lX0_56 : Cond.methodLink RX0 56 yX0_turn ∈ gT := gTm (List.mem_of_getElem? (i := 472) (by decide +kernel)) (by decide +kernel)
theorem lX0_60 : Cond.methodLink RX0 60 yX0_shareOf ∈ gT := gTm (List.mem_of_getElem? (i := 564) (by decide +kernel)) (by decide +kernel)
theorem lX0_64 : Cond.methodLink RX0 64 yX5_pass ∈ gT := gTm (List.mem_of_getElem? (i := 565) (by decide +kernel)) (by decide +kernel)
theorem lX0_68 : Cond.methodLink RX0 68 yX0_watchersNow ∈ gT := gTm (List.mem_of_getElem? (i := 558) (by decide +kernel)) (by decide +kernel)
theorem lX0_71 : Cond.methodLink RX0 71 yX0_companyNow ∈ gT := gTm (List.mem_of_getElem? (i := 559) (by decide +kernel)) (by decide +kernel)
theorem lX0_74 : Cond.methodLink RX0 74 yX0_pass ∈ gT := gTm (List.mem_of_getElem? (i := 560) (by decide +kernel)) (by decide +kernel)
theorem lX0_77 : Cond.methodLink RX0 77 yX0_passByPlan ∈ gT := gTm (List.mem_of_getElem? (i := 554) (by decide +kernel)) (by decide +kernel)
theorem lX0_80 : Cond.methodLink RX0 80 yJ6_bitCount_0f7a4 ∈ gT := gTm (List.mem_of_getElem? (i := 580) (by decide +kernel)) (by decide +kernel)
theorem lX0_88 : Cond.methodLink RX0 88 yX0_greatestHeat ∈ gT := gTm (List.mem_of_getElem? (i := 601) (by decide +kernel)) (by decide +kernel)
theorem lX0_91 : Cond.methodLink RX0 91 Lib.Math.max.name ∈ gT := gTm (List.mem_of_getElem? (i := 605) (by decide +kernel)) (by decide +kernel)
theorem lX0_96 : Cond.methodLink RX0 96 yX0_sumOf ∈ gT := gTm (List.mem_of_getElem? (i := 606) (by decide +kernel)) (by decide +kernel)
theorem lX0_105 : Cond.methodLink RX0 105 yX5_part ∈ gT := gTm (List.mem_of_getElem? (i := 464) (by decide +kernel)) (by decide +kernel)
theorem lX1_3 : Cond.methodLink RX1 3 objectInit ∈ gT := gTm (List.mem_of_getElem? (i := 159) (by decide +kernel)) (by decide +kernel)
theorem lX1_35 : Cond.methodLink RX1 35 yX0_clear ∈ gT := gTm (List.mem_of_getElem? (i := 310) (by decide +kernel)) (by decide +kernel)
theorem lX1_40 : Cond.methodLink RX1 40 yX1_advance ∈ gT := gTm (List.mem_of_getElem? (i := 314) (by decide +kernel)) (by decide +kernel)
theorem lX1_46 : Cond.methodLink RX1 46 yX1_takeLine ∈ gT := gTm (List.mem_of_getElem? (i := 332) (by decide +kernel)) (by decide +kernel)
theorem lX1_50 : Cond.methodLink RX1 50 yX1_lineOfName ∈ gT := gTm (List.mem_of_getElem? (i := 336) (by decide +kernel)) (by decide +kernel)
theorem lX1_57 : Cond.methodLink RX1 57 yX1_fail ∈ gT := gTm (List.mem_of_getElem? (i := 328) (by decide +kernel)) (by decide +kernel)
theorem lX1_61 : Cond.methodLink RX1 61 yX1_takeFlow ∈ gT := gTm (List.mem_of_getElem? (i := 399) (by decide +kernel)) (by decide +kernel)
theorem lX1_64 : Cond.methodLink RX1 64 yX1_takeCalm ∈ gT := gTm (List.mem_of_getElem? (i := 416) (by decide +kernel)) (by decide +kernel)
theorem lX1_67 : Cond.methodLink RX1 67 yX1_takeHour ∈ gT := gTm (List.mem_of_getElem? (i := 420) (by decide +kernel)) (by decide +kernel)
theorem lX1_70 : Cond.methodLink RX1 70 yX1_takeVent ∈ gT := gTm (List.mem_of_getElem? (i := 428) (by decide +kernel)) (by decide +kernel)
theorem lX1_74 : Cond.methodLink RX1 74 yX1_passName ∈ gT := gTm (List.mem_of_getElem? (i := 403) (by decide +kernel)) (by decide +kernel)
theorem lX1_77 : Cond.methodLink RX1 77 yX1_takeNumber ∈ gT := gTm (List.mem_of_getElem? (i := 407) (by decide +kernel)) (by decide +kernel)
theorem lX1_84 : Cond.methodLink RX1 84 yX1_takeStop ∈ gT := gTm (List.mem_of_getElem? (i := 412) (by decide +kernel)) (by decide +kernel)
theorem lX1_93 : Cond.methodLink RX1 93 yX0_moreRows ∈ gT := gTm (List.mem_of_getElem? (i := 424) (by decide +kernel)) (by decide +kernel)
theorem lX1_100 : Cond.methodLink RX1 100 yX0_moreVents ∈ gT := gTm (List.mem_of_getElem? (i := 432) (by decide +kernel)) (by decide +kernel)
theorem lX1_110 : Cond.methodLink RX1 110 yX4_byteAt ∈ gT := gTm (List.mem_of_getElem? (i := 318) (by decide +kernel)) (by decide +kernel)
theorem lX1_114 : Cond.methodLink RX1 114 yX1_isLetter ∈ gT := gTm (List.mem_of_getElem? (i := 322) (by decide +kernel)) (by decide +kernel)
theorem lX1_118 : Cond.methodLink RX1 118 yX1_isFigure ∈ gT := gTm (List.mem_of_getElem? (i := 325) (by decide +kernel)) (by decide +kernel)
theorem lX1_123 : Cond.methodLink RX1 123 yX1_nameIs ∈ gT := gTm (List.mem_of_getElem? (i := 341) (by decide +kernel)) (by decide +kernel)
theorem lX1_137 : Cond.methodLink RX1 137 yJ0_length_8abf5 ∈ gT := gTm (List.mem_of_getElem? (i := 345) (by decide +kernel)) (by decide +kernel)
theorem lX1_142 : Cond.methodLink RX1 142 yJ0_charAt_5068e ∈ gT := gTm (List.mem_of_getElem? (i := 355) (by decide +kernel)) (by decide +kernel)
theorem lX2_3 : Cond.methodLink RX2 3 objectInit ∈ gT := gTm (List.mem_of_getElem? (i := 212) (by decide +kernel)) (by decide +kernel)
theorem lX3_3 : Cond.methodLink RX3 3 objectInit ∈ gT := gTm (List.mem_of_getElem? (i := 233) (by decide +kernel)) (by decide +kernel)
theorem lX3_22 : Cond.methodLink RX3 22 Lib.Math.min.name ∈ gT := gTm (List.mem_of_getElem? (i := 795) (by decide +kernel)) (by decide +kernel)
theorem lX3_28 : Cond.methodLink RX3 28 Lib.Math.max.name ∈ gT := gTm (List.mem_of_getElem? (i := 796) (by decide +kernel)) (by decide +kernel)
theorem lX3_31 : Cond.methodLink RX3 31 yX3_faultAt ∈ gT := gTm (List.mem_of_getElem? (i := 818) (by decide +kernel)) (by decide +kernel)
theorem lX4_3 : Cond.methodLink RX4 3 objectInit ∈ gT := gTm (List.mem_of_getElem? (i := 165) (by decide +kernel)) (by decide +kernel)
theorem lX5_3 : Cond.methodLink RX5 3 objectInit ∈ gT := gTm (List.mem_of_getElem? (i := 89) (by decide +kernel)) (by decide +kernel)
theorem lX5_30 : Cond.methodLink RX5 30 yX5_takeMood ∈ gT := gTm (List.mem_of_getElem? (i := 448) (by decide +kernel)) (by decide +kernel)
theorem lX5_34 : Cond.methodLink RX5 34 Lib.Math.min.name ∈ gT := gTm (List.mem_of_getElem? (i := 569) (by decide +kernel)) (by decide +kernel)
theorem lX5_40 : Cond.methodLink RX5 40 yX5_minds ∈ gT := gTm (List.mem_of_getElem? (i := 572) (by decide +kernel)) (by decide +kernel)
theorem lX5_44 : Cond.methodLink RX5 44 Lib.Math.max.name ∈ gT := gTm (List.mem_of_getElem? (i := 573) (by decide +kernel)) (by decide +kernel)
theorem lX5_47 : Cond.methodLink RX5 47 yX5_fades ∈ gT := gTm (List.mem_of_getElem? (i := 576) (by decide +kernel)) (by decide +kernel)
theorem lX6_1 : Cond.methodLink RX6 1 objectInit ∈ gT := gTm (List.mem_of_getElem? (i := 74) (by decide +kernel)) (by decide +kernel)
theorem lX6_9 : Cond.methodLink RX6 9 yX0_init ∈ gT := gTm (List.mem_of_getElem? (i := 79) (by decide +kernel)) (by decide +kernel)
theorem lX6_66 : Cond.methodLink RX6 66 yX6_within ∈ gT := gTm (List.mem_of_getElem? (i := 291) (by decide +kernel)) (by decide +kernel)
theorem lX6_70 : Cond.methodLink RX6 70 yX4_take ∈ gT := gTm (List.mem_of_getElem? (i := 294) (by decide +kernel)) (by decide +kernel)
theorem lX6_80 : Cond.methodLink RX6 80 yX1_takeAll ∈ gT := gTm (List.mem_of_getElem? (i := 306) (by decide +kernel)) (by decide +kernel)
theorem lX6_93 : Cond.methodLink RX6 93 yX0_become ∈ gT := gTm (List.mem_of_getElem? (i := 440) (by decide +kernel)) (by decide +kernel)
theorem lX6_115 : Cond.methodLink RX6 115 yX0_sumOf ∈ gT := gTm (List.mem_of_getElem? (i := 460) (by decide +kernel)) (by decide +kernel)
theorem lX6_119 : Cond.methodLink RX6 119 yX0_watchersNow ∈ gT := gTm (List.mem_of_getElem? (i := 468) (by decide +kernel)) (by decide +kernel)
theorem lX6_123 : Cond.methodLink RX6 123 yX0_companyNow ∈ gT := gTm (List.mem_of_getElem? (i := 480) (by decide +kernel)) (by decide +kernel)
theorem lX6_126 : Cond.methodLink RX6 126 yX0_hasVent ∈ gT := gTm (List.mem_of_getElem? (i := 488) (by decide +kernel)) (by decide +kernel)
theorem lX6_129 : Cond.methodLink RX6 129 yX0_shareOf ∈ gT := gTm (List.mem_of_getElem? (i := 492) (by decide +kernel)) (by decide +kernel)
theorem lX6_136 : Cond.methodLink RX6 136 yX5_minds ∈ gT := gTm (List.mem_of_getElem? (i := 496) (by decide +kernel)) (by decide +kernel)
theorem lX6_141 : Cond.methodLink RX6 141 yX5_part ∈ gT := gTm (List.mem_of_getElem? (i := 500) (by decide +kernel)) (by decide +kernel)
theorem lX6_144 : Cond.methodLink RX6 144 yX0_hasRow ∈ gT := gTm (List.mem_of_getElem? (i := 505) (by decide +kernel)) (by decide +kernel)
theorem lX6_153 : Cond.methodLink RX6 153 yX6_fitsVent ∈ gT := gTm (List.mem_of_getElem? (i := 510) (by decide +kernel)) (by decide +kernel)
theorem lX6_157 : Cond.methodLink RX6 157 yX5_change ∈ gT := gTm (List.mem_of_getElem? (i := 513) (by decide +kernel)) (by decide +kernel)
theorem lX6_161 : Cond.methodLink RX6 161 yX0_moreVents ∈ gT := gTm (List.mem_of_getElem? (i := 529) (by decide +kernel)) (by decide +kernel)
theorem lX6_164 : Cond.methodLink RX6 164 yX6_addTo ∈ gT := gTm (List.mem_of_getElem? (i := 538) (by decide +kernel)) (by decide +kernel)
theorem lX6_168 : Cond.methodLink RX6 168 yX0_moreRows ∈ gT := gTm (List.mem_of_getElem? (i := 541) (by decide +kernel)) (by decide +kernel)
theorem lX6_171 : Cond.methodLink RX6 171 yX0_upsOfAll ∈ gT := gTm (List.mem_of_getElem? (i := 550) (by decide +kernel)) (by decide +kernel)
theorem lX6_174 : Cond.methodLink RX6 174 yX6_isAhead ∈ gT := gTm (List.mem_of_getElem? (i := 590) (by decide +kernel)) (by decide +kernel)
theorem lX6_177 : Cond.methodLink RX6 177 yX6_afresh ∈ gT := gTm (List.mem_of_getElem? (i := 593) (by decide +kernel)) (by decide +kernel)
theorem lX6_181 : Cond.methodLink RX6 181 yX0_tally ∈ gT := gTm (List.mem_of_getElem? (i := 597) (by decide +kernel)) (by decide +kernel)
theorem lX6_185 : Cond.methodLink RX6 185 yX0_upsOf ∈ gT := gTm (List.mem_of_getElem? (i := 611) (by decide +kernel)) (by decide +kernel)
theorem lX6_194 : Cond.methodLink RX6 194 yX0_passByPlan ∈ gT := gTm (List.mem_of_getElem? (i := 622) (by decide +kernel)) (by decide +kernel)
theorem lX6_197 : Cond.methodLink RX6 197 yX6_bit ∈ gT := gTm (List.mem_of_getElem? (i := 627) (by decide +kernel)) (by decide +kernel)
theorem lX6_200 : Cond.methodLink RX6 200 yX0_standsAs ∈ gT := gTm (List.mem_of_getElem? (i := 632) (by decide +kernel)) (by decide +kernel)
theorem lX6_204 : Cond.methodLink RX6 204 yX0_choice ∈ gT := gTm (List.mem_of_getElem? (i := 640) (by decide +kernel)) (by decide +kernel)
theorem lX6_207 : Cond.methodLink RX6 207 yX6_upsByRoute ∈ gT := gTm (List.mem_of_getElem? (i := 648) (by decide +kernel)) (by decide +kernel)
theorem lX6_210 : Cond.methodLink RX6 210 yX6_companyOnRoute ∈ gT := gTm (List.mem_of_getElem? (i := 652) (by decide +kernel)) (by decide +kernel)
theorem lX6_214 : Cond.methodLink RX6 214 yX0_pass ∈ gT := gTm (List.mem_of_getElem? (i := 657) (by decide +kernel)) (by decide +kernel)
theorem lX6_217 : Cond.methodLink RX6 217 yJ6_bitCount_0f7a4 ∈ gT := gTm (List.mem_of_getElem? (i := 658) (by decide +kernel)) (by decide +kernel)
theorem lX6_222 : Cond.methodLink RX6 222 Lib.Math.max.name ∈ gT := gTm (List.mem_of_getElem? (i := 656) (by decide +kernel)) (by decide +kernel)
theorem lX6_227 : Cond.methodLink RX6 227 yX0_exchange ∈ gT := gTm (List.mem_of_getElem? (i := 663) (by decide +kernel)) (by decide +kernel)
theorem lX6_230 : Cond.methodLink RX6 230 yX6_upsWithWatchers ∈ gT := gTm (List.mem_of_getElem? (i := 671) (by decide +kernel)) (by decide +kernel)
theorem lX6_236 : Cond.methodLink RX6 236 yX6_leastFor ∈ gT := gTm (List.mem_of_getElem? (i := 687) (by decide +kernel)) (by decide +kernel)
theorem lX6_240 : Cond.methodLink RX6 240 yX0_takeMoods ∈ gT := gTm (List.mem_of_getElem? (i := 691) (by decide +kernel)) (by decide +kernel)
theorem lX6_243 : Cond.methodLink RX6 243 yX6_mostFrom ∈ gT := gTm (List.mem_of_getElem? (i := 696) (by decide +kernel)) (by decide +kernel)
theorem lX6_246 : Cond.methodLink RX6 246 Lib.Math.min.name ∈ gT := gTm (List.mem_of_getElem? (i := 700) (by decide +kernel)) (by decide +kernel)
theorem lX6_249 : Cond.methodLink RX6 249 yX6_areOdds ∈ gT := gTm (List.mem_of_getElem? (i := 705) (by decide +kernel)) (by decide +kernel)
theorem lX6_254 : Cond.methodLink RX6 254 yX6_upsByOdds ∈ gT := gTm (List.mem_of_getElem? (i := 709) (by decide +kernel)) (by decide +kernel)
theorem lX6_257 : Cond.methodLink RX6 257 yX6_weight ∈ gT := gTm (List.mem_of_getElem? (i := 713) (by decide +kernel)) (by decide +kernel)
theorem lX6_261 : Cond.methodLink RX6 261 yX6_power ∈ gT := gTm (List.mem_of_getElem? (i := 716) (by decide +kernel)) (by decide +kernel)
theorem lX6_265 : Cond.methodLink RX6 265 yX6_lowest ∈ gT := gTm (List.mem_of_getElem? (i := 719) (by decide +kernel)) (by decide +kernel)
theorem lX6_269 : Cond.methodLink RX6 269 yX2_take ∈ gT := gTm (List.mem_of_getElem? (i := 730) (by decide +kernel)) (by decide +kernel)
theorem lX6_271 : Cond.methodLink RX6 271 yX6_goesAsSeen ∈ gT := gTm (List.mem_of_getElem? (i := 742) (by decide +kernel)) (by decide +kernel)
theorem lX6_274 : Cond.methodLink RX6 274 yX6_goesAsSeenByNerve ∈ gT := gTm (List.mem_of_getElem? (i := 755) (by decide +kernel)) (by decide +kernel)
theorem lX6_280 : Cond.methodLink RX6 280 yX2_agrees ∈ gT := gTm (List.mem_of_getElem? (i := 746) (by decide +kernel)) (by decide +kernel)
theorem lX6_284 : Cond.methodLink RX6 284 yX6_hoursOf ∈ gT := gTm (List.mem_of_getElem? (i := 763) (by decide +kernel)) (by decide +kernel)
theorem lX6_288 : Cond.methodLink RX6 288 yX6_leftAtWorst ∈ gT := gTm (List.mem_of_getElem? (i := 767) (by decide +kernel)) (by decide +kernel)
theorem lX6_292 : Cond.methodLink RX6 292 yX6_isLane ∈ gT := gTm (List.mem_of_getElem? (i := 788) (by decide +kernel)) (by decide +kernel)
theorem lX6_295 : Cond.methodLink RX6 295 yX3_renew ∈ gT := gTm (List.mem_of_getElem? (i := 791) (by decide +kernel)) (by decide +kernel)
theorem lX6_301 : Cond.methodLink RX6 301 yX3_faultAt ∈ gT := gTm (List.mem_of_getElem? (i := 801) (by decide +kernel)) (by decide +kernel)
theorem lX6_305 : Cond.methodLink RX6 305 yX3_put ∈ gT := gTm (List.mem_of_getElem? (i := 805) (by decide +kernel)) (by decide +kernel)
theorem lX6_310 : Cond.methodLink RX6 310 yX3_faultOfTwo ∈ gT := gTm (List.mem_of_getElem? (i := 814) (by decide +kernel)) (by decide +kernel)
theorem lX6_313 : Cond.methodLink RX6 313 yX3_cellAt ∈ gT := gTm (List.mem_of_getElem? (i := 819) (by decide +kernel)) (by decide +kernel)
theorem lX6_323 : Cond.methodLink RX6 323 yX0_sumOfWatchers ∈ gT := gTm (List.mem_of_getElem? (i := 831) (by decide +kernel)) (by decide +kernel)
theorem lX7_1 : Cond.methodLink RX7 1 objectInit ∈ gT := gTm (List.mem_of_getElem? (i := 840) (by decide +kernel)) (by decide +kernel)
theorem lX7_55 : Cond.methodLink RX7 55 yX7_in ∈ gT := gTm (List.mem_of_getElem? (i := 937) (by decide +kernel)) (by decide +kernel)
theorem lX7_78 : Cond.methodLink RX7 78 yX7_byteAt ∈ gT := gTm (List.mem_of_getElem? (i := 952) (by decide +kernel)) (by decide +kernel)
theorem lX7_93 : Cond.methodLink RX7 93 yX7_fails ∈ gT := gTm (List.mem_of_getElem? (i := 960) (by decide +kernel)) (by decide +kernel)
theorem lX7_97 : Cond.methodLink RX7 97 yX7_readsOn ∈ gT := gTm (List.mem_of_getElem? (i := 948) (by decide +kernel)) (by decide +kernel)
theorem lX7_100 : Cond.methodLink RX7 100 yX7_number ∈ gT := gTm (List.mem_of_getElem? (i := 977) (by decide +kernel)) (by decide +kernel)
theorem lX7_104 : Cond.methodLink RX7 104 yX7_nameHere ∈ gT := gTm (List.mem_of_getElem? (i := 968) (by decide +kernel)) (by decide +kernel)
theorem lX7_117 : Cond.methodLink RX7 117 yX7_readMore ∈ gT := gTm (List.mem_of_getElem? (i := 973) (by decide +kernel)) (by decide +kernel)
theorem lX7_120 : Cond.methodLink RX7 120 yX7_readLine ∈ gT := gTm (List.mem_of_getElem? (i := 964) (by decide +kernel)) (by decide +kernel)
theorem lX7_131 : Cond.methodLink RX7 131 yX7_rowOn ∈ gT := gTm (List.mem_of_getElem? (i := 997) (by decide +kernel)) (by decide +kernel)
theorem lX7_134 : Cond.methodLink RX7 134 yX7_shareOn ∈ gT := gTm (List.mem_of_getElem? (i := 1014) (by decide +kernel)) (by decide +kernel)
theorem lX7_137 : Cond.methodLink RX7 137 yX7_mindsOn ∈ gT := gTm (List.mem_of_getElem? (i := 1018) (by decide +kernel)) (by decide +kernel)
theorem lX7_141 : Cond.methodLink RX7 141 yX7_fadesOn ∈ gT := gTm (List.mem_of_getElem? (i := 1093) (by decide +kernel)) (by decide +kernel)
theorem lX7_144 : Cond.methodLink RX7 144 yX7_goesUp ∈ gT := gTm (List.mem_of_getElem? (i := 1089) (by decide +kernel)) (by decide +kernel)
theorem lX7_148 : Cond.methodLink RX7 148 yX7_watchersOn ∈ gT := gTm (List.mem_of_getElem? (i := 993) (by decide +kernel)) (by decide +kernel)
theorem lX7_151 : Cond.methodLink RX7 151 yX7_whomOn ∈ gT := gTm (List.mem_of_getElem? (i := 1001) (by decide +kernel)) (by decide +kernel)
theorem lX7_154 : Cond.methodLink RX7 154 yX7_hourOn ∈ gT := gTm (List.mem_of_getElem? (i := 1085) (by decide +kernel)) (by decide +kernel)
theorem lX7_157 : Cond.methodLink RX7 157 yX7_sumOn ∈ gT := gTm (List.mem_of_getElem? (i := 989) (by decide +kernel)) (by decide +kernel)
theorem lX7_160 : Cond.methodLink RX7 160 yX7_isGeyser ∈ gT := gTm (List.mem_of_getElem? (i := 1009) (by decide +kernel)) (by decide +kernel)
theorem lX7_166 : Cond.methodLink RX7 166 yX7_isRow ∈ gT := gTm (List.mem_of_getElem? (i := 1026) (by decide +kernel)) (by decide +kernel)
theorem lX7_179 : Cond.methodLink RX7 179 yX7_isGood ∈ gT := gTm (List.mem_of_getElem? (i := 1034) (by decide +kernel)) (by decide +kernel)
theorem lX7_183 : Cond.methodLink RX7 183 yX7_puts ∈ gT := gTm (List.mem_of_getElem? (i := 1042) (by decide +kernel)) (by decide +kernel)
theorem lX7_191 : Cond.methodLink RX7 191 yX7_adds ∈ gT := gTm (List.mem_of_getElem? (i := 1068) (by decide +kernel)) (by decide +kernel)
theorem lX7_196 : Cond.methodLink RX7 196 yX7_planOn ∈ gT := gTm (List.mem_of_getElem? (i := 1081) (by decide +kernel)) (by decide +kernel)
theorem lX7_199 : Cond.methodLink RX7 199 yX7_bitsOf ∈ gT := gTm (List.mem_of_getElem? (i := 1097) (by decide +kernel)) (by decide +kernel)
theorem lX7_205 : Cond.methodLink RX7 205 yX7_copies ∈ gT := gTm (List.mem_of_getElem? (i := 1112) (by decide +kernel)) (by decide +kernel)
theorem lX7_215 : Cond.methodLink RX7 215 yX7_feels ∈ gT := gTm (List.mem_of_getElem? (i := 1116) (by decide +kernel)) (by decide +kernel)
theorem lX7_218 : Cond.methodLink RX7 218 yX7_isLong ∈ gT := gTm (List.mem_of_getElem? (i := 1104) (by decide +kernel)) (by decide +kernel)
theorem lX7_221 : Cond.methodLink RX7 221 yX7_hoursGo ∈ gT := gTm (List.mem_of_getElem? (i := 1108) (by decide +kernel)) (by decide +kernel)
theorem lX7_226 : Cond.methodLink RX7 226 yX7_wentThen ∈ gT := gTm (List.mem_of_getElem? (i := 1125) (by decide +kernel)) (by decide +kernel)
theorem lX7_229 : Cond.methodLink RX7 229 yX7_whomBy ∈ gT := gTm (List.mem_of_getElem? (i := 1145) (by decide +kernel)) (by decide +kernel)
theorem lX7_236 : Cond.methodLink RX7 236 yX7_figuresOf ∈ gT := gTm (List.mem_of_getElem? (i := 1174) (by decide +kernel)) (by decide +kernel)
theorem lX7_240 : Cond.methodLink RX7 240 yX7_goesBack ∈ gT := gTm (List.mem_of_getElem? (i := 1178) (by decide +kernel)) (by decide +kernel)
theorem lX7_245 : Cond.methodLink RX7 245 yX7_lowest ∈ gT := gTm (List.mem_of_getElem? (i := 1192) (by decide +kernel)) (by decide +kernel)
theorem lX7_251 : Cond.methodLink RX7 251 yX7_byNobody ∈ gT := gTm (List.mem_of_getElem? (i := 1188) (by decide +kernel)) (by decide +kernel)
theorem lX7_257 : Cond.methodLink RX7 257 yX7_isAsSeen ∈ gT := gTm (List.mem_of_getElem? (i := 1216) (by decide +kernel)) (by decide +kernel)
theorem lX7_260 : Cond.methodLink RX7 260 yX7_numbersAt ∈ gT := gTm (List.mem_of_getElem? (i := 1212) (by decide +kernel)) (by decide +kernel)
theorem kJ6_265 : Cond.constant RJ6 265 (1431655765) ∈ gT := gTm (List.mem_of_getElem? (i := 583) (by decide +kernel)) (by decide +kernel)
theorem kJ6_266 : Cond.constant RJ6 266 (858993459) ∈ gT := gTm (List.mem_of_getElem? (i := 584) (by decide +kernel)) (by decide +kernel)
theorem kJ6_267 : Cond.constant RJ6 267 (252645135) ∈ gT := gTm (List.mem_of_getElem? (i := 585) (by decide +kernel)) (by decide +kernel)
theorem kX6_252 : Cond.constantLong RX6 252 (-1) ∈ gT := gTm (List.mem_of_getElem? (i := 708) (by decide +kernel)) (by decide +kernel)
theorem kX6_291 : Cond.constant RX6 291 (1103515245) ∈ gT := gTm (List.mem_of_getElem? (i := 775) (by decide +kernel)) (by decide +kernel)
theorem kX6_308 : Cond.constantLong RX6 308 (2) ∈ gT := gTm (List.mem_of_getElem? (i := 813) (by decide +kernel)) (by decide +kernel)
theorem kX7_53 : Cond.constantLong RX7 53 (127) ∈ gT := gTm (List.mem_of_getElem? (i := 936) (by decide +kernel)) (by decide +kernel)
theorem kX7_85 : Cond.constantLong RX7 85 (97) ∈ gT := gTm (List.mem_of_getElem? (i := 956) (by decide +kernel)) (by decide +kernel)
theorem kX7_87 : Cond.constantLong RX7 87 (122) ∈ gT := gTm (List.mem_of_getElem? (i := 957) (by decide +kernel)) (by decide +kernel)
theorem kX7_89 : Cond.constantLong RX7 89 (48) ∈ gT := gTm (List.mem_of_getElem? (i := 958) (by decide +kernel)) (by decide +kernel)
theorem kX7_91 : Cond.constantLong RX7 91 (57) ∈ gT := gTm (List.mem_of_getElem? (i := 959) (by decide +kernel)) (by decide +kernel)
theorem kX7_108 : Cond.constantLong RX7 108 (6) ∈ gT := gTm (List.mem_of_getElem? (i := 972) (by decide +kernel)) (by decide +kernel)
theorem kX7_129 : Cond.constantLong RX7 129 (200) ∈ gT := gTm (List.mem_of_getElem? (i := 1107) (by decide +kernel)) (by decide +kernel)
theorem kX7_164 : Cond.constantLong RX7 164 (7) ∈ gT := gTm (List.mem_of_getElem? (i := 1013) (by decide +kernel)) (by decide +kernel)
theorem kX7_169 : Cond.constantLong RX7 169 (3) ∈ gT := gTm (List.mem_of_getElem? (i := 1037) (by decide +kernel)) (by decide +kernel)
theorem kX7_171 : Cond.constantLong RX7 171 (60) ∈ gT := gTm (List.mem_of_getElem? (i := 1038) (by decide +kernel)) (by decide +kernel)
theorem kX7_173 : Cond.constantLong RX7 173 (9) ∈ gT := gTm (List.mem_of_getElem? (i := 1039) (by decide +kernel)) (by decide +kernel)
theorem kX7_175 : Cond.constantLong RX7 175 (199) ∈ gT := gTm (List.mem_of_getElem? (i := 1040) (by decide +kernel)) (by decide +kernel)
theorem kX7_177 : Cond.constantLong RX7 177 (20) ∈ gT := gTm (List.mem_of_getElem? (i := 1041) (by decide +kernel)) (by decide +kernel)
theorem kX7_187 : Cond.constantLong RX7 187 (40) ∈ gT := gTm (List.mem_of_getElem? (i := 1050) (by decide +kernel)) (by decide +kernel)
theorem kX7_189 : Cond.constantLong RX7 189 (4) ∈ gT := gTm (List.mem_of_getElem? (i := 1055) (by decide +kernel)) (by decide +kernel)
theorem kX7_194 : Cond.constantLong RX7 194 (100) ∈ gT := gTm (List.mem_of_getElem? (i := 1080) (by decide +kernel)) (by decide +kernel)
theorem kX7_224 : Cond.constantLong RX7 224 (2) ∈ gT := gTm (List.mem_of_getElem? (i := 1124) (by decide +kernel)) (by decide +kernel)
theorem kX7_232 : Cond.constant RX7 232 (1000000) ∈ gT := gTm (List.mem_of_getElem? (i := 1173) (by decide +kernel)) (by decide +kernel)
theorem kX7_243 : Cond.constantLong RX7 243 (10) ∈ gT := gTm (List.mem_of_getElem? (i := 1186) (by decide +kernel)) (by decide +kernel)
theorem kX7_249 : Cond.constantLong RX7 249 (8) ∈ gT := gTm (List.mem_of_getElem? (i := 1187) (by decide +kernel)) (by decide +kernel)
theorem kX7_255 : Cond.constantLong RX7 255 (-1) ∈ gT := gTm (List.mem_of_getElem? (i := 1195) (by decide +kernel)) (by decide +kernel)
theorem kX7_263 : Cond.constant RX7 263 (1103515245) ∈ gT := gTm (List.mem_of_getElem? (i := 1232) (by decide +kernel)) (by decide +kernel)
theorem qL_7 : Cond.classLink RL 7 RX6 ∈ gT := gTm (List.mem_of_getElem? (i := 69) (by decide +kernel)) (by decide +kernel)
theorem qL_10 : Cond.classLink RL 10 RX7 ∈ gT := gTm (List.mem_of_getElem? (i := 835) (by decide +kernel)) (by decide +kernel)
theorem qX0_9 : Cond.classLink RX0 9 RX5 ∈ gT := gTm (List.mem_of_getElem? (i := 83) (by decide +kernel)) (by decide +kernel)
theorem qX1_9 : Cond.classLink RX1 9 RX4 ∈ gT := gTm (List.mem_of_getElem? (i := 160) (by decide +kernel)) (by decide +kernel)
theorem qX6_7 : Cond.classLink RX6 7 RX0 ∈ gT := gTm (List.mem_of_getElem? (i := 77) (by decide +kernel)) (by decide +kernel)
theorem qX6_30 : Cond.classLink RX6 30 RX1 ∈ gT := gTm (List.mem_of_getElem? (i := 154) (by decide +kernel)) (by decide +kernel)
theorem qX6_44 : Cond.classLink RX6 44 RX2 ∈ gT := gTm (List.mem_of_getElem? (i := 207) (by decide +kernel)) (by decide +kernel)
theorem qX6_59 : Cond.classLink RX6 59 RX3 ∈ gT := gTm (List.mem_of_getElem? (i := 227) (by decide +kernel)) (by decide +kernel)
theorem nX0 : Cond.instantiable RX0 8 ∈ gT ∧ Cond.initialized RX0 ∈ gT := ⟨gTm (List.mem_of_getElem? (i := 78) (by decide +kernel)) (by decide +kernel), gTm (List.mem_of_getElem? (i := 56) (by decide +kernel)) (by decide +kernel)⟩
theorem nX1 : Cond.instantiable RX1 9 ∈ gT ∧ Cond.initialized RX1 ∈ gT := ⟨gTm (List.mem_of_getElem? (i := 155) (by decide +kernel)) (by decide +kernel), gTm (List.mem_of_getElem? (i := 58) (by decide +kernel)) (by decide +kernel)⟩
theorem nX2 : Cond.instantiable RX2 4 ∈ gT ∧ Cond.initialized RX2 ∈ gT := ⟨gTm (List.mem_of_getElem? (i := 208) (by decide +kernel)) (by decide +kernel), gTm (List.mem_of_getElem? (i := 60) (by decide +kernel)) (by decide +kernel)⟩
theorem nX3 : Cond.instantiable RX3 3 ∈ gT ∧ Cond.initialized RX3 ∈ gT := ⟨gTm (List.mem_of_getElem? (i := 229) (by decide +kernel)) (by decide +kernel), gTm (List.mem_of_getElem? (i := 61) (by decide +kernel)) (by decide +kernel)⟩
theorem nX4 : Cond.instantiable RX4 2 ∈ gT ∧ Cond.initialized RX4 ∈ gT := ⟨gTm (List.mem_of_getElem? (i := 161) (by decide +kernel)) (by decide +kernel), gTm (List.mem_of_getElem? (i := 59) (by decide +kernel)) (by decide +kernel)⟩
theorem nX5 : Cond.instantiable RX5 6 ∈ gT ∧ Cond.initialized RX5 ∈ gT := ⟨gTm (List.mem_of_getElem? (i := 85) (by decide +kernel)) (by decide +kernel), gTm (List.mem_of_getElem? (i := 57) (by decide +kernel)) (by decide +kernel)⟩
theorem nX6 : Cond.instantiable RX6 13 ∈ gT ∧ Cond.initialized RX6 ∈ gT := ⟨gTm (List.mem_of_getElem? (i := 70) (by decide +kernel)) (by decide +kernel), gTm (List.mem_of_getElem? (i := 55) (by decide +kernel)) (by decide +kernel)⟩
theorem nX7 : Cond.instantiable RX7 30 ∈ gT ∧ Cond.initialized RX7 ∈ gT := ⟨gTm (List.mem_of_getElem? (i := 836) (by decide +kernel)) (by decide +kernel), gTm (List.mem_of_getElem? (i := 62) (by decide +kernel)) (by decide +kernel)⟩
theorem a_int : Cond.arrayClass .int ∈ gT := gTm (List.mem_of_getElem? (i := 115) (by decide +kernel)) (by decide +kernel)
theorem a_boolean : Cond.arrayClass .boolean ∈ gT := gTm (List.mem_of_getElem? (i := 174) (by decide +kernel)) (by decide +kernel)
theorem a_byte : Cond.arrayClass .byte ∈ gT := gTm (List.mem_of_getElem? (i := 175) (by decide +kernel)) (by decide +kernel)
theorem a_long : Cond.arrayClass .long ∈ gT := gTm (List.mem_of_getElem? (i := 246) (by decide +kernel)) (by decide +kernel)
theorem w_objI : Cond.instanceMethod objectInit ∈ gT := gTm (List.mem_of_getElem? (i := 75) (by decide +kernel)) (by decide +kernel)
theorem w_objC : Cond.code objectInit ⟨#[0xb1]⟩ 1 none ∈ gT := gTm (List.mem_of_getElem? (i := 76) (by decide +kernel)) (by decide +kernel)
theorem w_min : Cond.static Lib.Math.min.name ∈ gT ∧ Cond.code Lib.Math.min.name Lib.Math.min.code 2 (some .int) ∈ gT := ⟨gTm (List.mem_of_getElem? (i := 570) (by decide +kernel)) (by decide +kernel), gTm (List.mem_of_getElem? (i := 571) (by decide +kernel)) (by decide +kernel)⟩
theorem w_max : Cond.static Lib.Math.max.name ∈ gT ∧ Cond.code Lib.Math.max.name Lib.Math.max.code 2 (some .int) ∈ gT := ⟨gTm (List.mem_of_getElem? (i := 574) (by decide +kernel)) (by decide +kernel), gTm (List.mem_of_getElem? (i := 575) (by decide +kernel)) (by decide +kernel)⟩
theorem w_mathI : Cond.initialized "java/lang/Math" ∈ gT := gTm (List.mem_of_getElem? (i := 67) (by decide +kernel)) (by decide +kernel)
