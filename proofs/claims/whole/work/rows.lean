section
-- ===== PART A: goes FIRST, ahead of the names: the tables' words, and 'selects' of the private methods out of them =====
/-- a private method of a class that the tables say can be made, by its rows of tables_1 -/
def lw_okq (q : MethodName × Nat) : Prop := (q.1.cls ≠ "java/lang/invoke/MethodHandle" ∧ q.1.cls ≠ "java/lang/invoke/VarHandle") ∧ Cond.instantiable q.1.cls q.2 ∈ tables_1 ∧ Cond.privateMethod q.1 ∈ tables_1 ∧ Cond.instanceMethod q.1 ∈ tables_1
theorem lw_p0 : lw_okq (⟨"GeyserNerves$Reader", "advance", "()V"⟩, 9) := ⟨⟨by decide +kernel, by decide +kernel⟩, List.mem_of_getElem? (i := 101) (by decide +kernel), List.mem_of_getElem? (i := 261) (by decide +kernel), List.mem_of_getElem? (i := 262) (by decide +kernel)⟩
theorem lw_p1 : lw_okq (⟨"GeyserNerves$Reader", "fail", "(II)V"⟩, 9) := ⟨⟨by decide +kernel, by decide +kernel⟩, List.mem_of_getElem? (i := 101) (by decide +kernel), List.mem_of_getElem? (i := 275) (by decide +kernel), List.mem_of_getElem? (i := 276) (by decide +kernel)⟩
theorem lw_p2 : lw_okq (⟨"GeyserNerves$Reader", "takeLine", "(LGeyserNerves$Ground;)V"⟩, 9) := ⟨⟨by decide +kernel, by decide +kernel⟩, List.mem_of_getElem? (i := 101) (by decide +kernel), List.mem_of_getElem? (i := 279) (by decide +kernel), List.mem_of_getElem? (i := 280) (by decide +kernel)⟩
theorem lw_p3 : lw_okq (⟨"GeyserNerves$Reader", "lineOfName", "()I"⟩, 9) := ⟨⟨by decide +kernel, by decide +kernel⟩, List.mem_of_getElem? (i := 101) (by decide +kernel), List.mem_of_getElem? (i := 283) (by decide +kernel), List.mem_of_getElem? (i := 284) (by decide +kernel)⟩
theorem lw_p4 : lw_okq (⟨"GeyserNerves$Reader", "nameIs", "(Ljava/lang/String;)Z"⟩, 9) := ⟨⟨by decide +kernel, by decide +kernel⟩, List.mem_of_getElem? (i := 101) (by decide +kernel), List.mem_of_getElem? (i := 288) (by decide +kernel), List.mem_of_getElem? (i := 289) (by decide +kernel)⟩
theorem lw_p5 : lw_okq (⟨"GeyserNerves$Reader", "takeFlow", "(LGeyserNerves$Ground;)V"⟩, 9) := ⟨⟨by decide +kernel, by decide +kernel⟩, List.mem_of_getElem? (i := 101) (by decide +kernel), List.mem_of_getElem? (i := 346) (by decide +kernel), List.mem_of_getElem? (i := 347) (by decide +kernel)⟩
theorem lw_p6 : lw_okq (⟨"GeyserNerves$Reader", "passName", "()V"⟩, 9) := ⟨⟨by decide +kernel, by decide +kernel⟩, List.mem_of_getElem? (i := 101) (by decide +kernel), List.mem_of_getElem? (i := 350) (by decide +kernel), List.mem_of_getElem? (i := 351) (by decide +kernel)⟩
theorem lw_p7 : lw_okq (⟨"GeyserNerves$Reader", "takeNumber", "(II)I"⟩, 9) := ⟨⟨by decide +kernel, by decide +kernel⟩, List.mem_of_getElem? (i := 101) (by decide +kernel), List.mem_of_getElem? (i := 354) (by decide +kernel), List.mem_of_getElem? (i := 355) (by decide +kernel)⟩
theorem lw_p8 : lw_okq (⟨"GeyserNerves$Reader", "takeStop", "()V"⟩, 9) := ⟨⟨by decide +kernel, by decide +kernel⟩, List.mem_of_getElem? (i := 101) (by decide +kernel), List.mem_of_getElem? (i := 359) (by decide +kernel), List.mem_of_getElem? (i := 360) (by decide +kernel)⟩
theorem lw_p9 : lw_okq (⟨"GeyserNerves$Reader", "takeCalm", "(LGeyserNerves$Ground;)V"⟩, 9) := ⟨⟨by decide +kernel, by decide +kernel⟩, List.mem_of_getElem? (i := 101) (by decide +kernel), List.mem_of_getElem? (i := 363) (by decide +kernel), List.mem_of_getElem? (i := 364) (by decide +kernel)⟩
theorem lw_p10 : lw_okq (⟨"GeyserNerves$Reader", "takeHour", "(LGeyserNerves$Ground;)V"⟩, 9) := ⟨⟨by decide +kernel, by decide +kernel⟩, List.mem_of_getElem? (i := 101) (by decide +kernel), List.mem_of_getElem? (i := 367) (by decide +kernel), List.mem_of_getElem? (i := 368) (by decide +kernel)⟩
theorem lw_p11 : lw_okq (⟨"GeyserNerves$Reader", "takeVent", "(LGeyserNerves$Ground;I)V"⟩, 9) := ⟨⟨by decide +kernel, by decide +kernel⟩, List.mem_of_getElem? (i := 101) (by decide +kernel), List.mem_of_getElem? (i := 375) (by decide +kernel), List.mem_of_getElem? (i := 376) (by decide +kernel)⟩
theorem lw_p12 : lw_okq (⟨"GeyserNerves", "afresh", "()LGeyserNerves$Ground;"⟩, 13) := ⟨⟨by decide +kernel, by decide +kernel⟩, List.mem_of_getElem? (i := 16) (by decide +kernel), List.mem_of_getElem? (i := 540) (by decide +kernel), List.mem_of_getElem? (i := 541) (by decide +kernel)⟩
theorem lw_p13 : lw_okq (⟨"GeyserNerves", "upsByRoute", "(II)I"⟩, 13) := ⟨⟨by decide +kernel, by decide +kernel⟩, List.mem_of_getElem? (i := 16) (by decide +kernel), List.mem_of_getElem? (i := 595) (by decide +kernel), List.mem_of_getElem? (i := 596) (by decide +kernel)⟩
theorem lw_p14 : lw_okq (⟨"GeyserNerves", "companyOnRoute", "(III)I"⟩, 13) := ⟨⟨by decide +kernel, by decide +kernel⟩, List.mem_of_getElem? (i := 16) (by decide +kernel), List.mem_of_getElem? (i := 599) (by decide +kernel), List.mem_of_getElem? (i := 600) (by decide +kernel)⟩
theorem lw_p15 : lw_okq (⟨"GeyserNerves", "upsWithWatchers", "(III)I"⟩, 13) := ⟨⟨by decide +kernel, by decide +kernel⟩, List.mem_of_getElem? (i := 16) (by decide +kernel), List.mem_of_getElem? (i := 618) (by decide +kernel), List.mem_of_getElem? (i := 619) (by decide +kernel)⟩
def lw_privs_1 : List (MethodName × Nat) := [(⟨"GeyserNerves$Reader", "advance", "()V"⟩, 9), (⟨"GeyserNerves$Reader", "fail", "(II)V"⟩, 9), (⟨"GeyserNerves$Reader", "takeLine", "(LGeyserNerves$Ground;)V"⟩, 9), (⟨"GeyserNerves$Reader", "lineOfName", "()I"⟩, 9), (⟨"GeyserNerves$Reader", "nameIs", "(Ljava/lang/String;)Z"⟩, 9), (⟨"GeyserNerves$Reader", "takeFlow", "(LGeyserNerves$Ground;)V"⟩, 9), (⟨"GeyserNerves$Reader", "passName", "()V"⟩, 9), (⟨"GeyserNerves$Reader", "takeNumber", "(II)I"⟩, 9), (⟨"GeyserNerves$Reader", "takeStop", "()V"⟩, 9), (⟨"GeyserNerves$Reader", "takeCalm", "(LGeyserNerves$Ground;)V"⟩, 9), (⟨"GeyserNerves$Reader", "takeHour", "(LGeyserNerves$Ground;)V"⟩, 9), (⟨"GeyserNerves$Reader", "takeVent", "(LGeyserNerves$Ground;I)V"⟩, 9), (⟨"GeyserNerves", "afresh", "()LGeyserNerves$Ground;"⟩, 13), (⟨"GeyserNerves", "upsByRoute", "(II)I"⟩, 13), (⟨"GeyserNerves", "companyOnRoute", "(III)I"⟩, 13), (⟨"GeyserNerves", "upsWithWatchers", "(III)I"⟩, 13)]
theorem lw_r1 : ∀ q ∈ lw_privs_1, lw_okq q := List.forall_mem_cons.mpr ⟨lw_p0, List.forall_mem_cons.mpr ⟨lw_p1, List.forall_mem_cons.mpr ⟨lw_p2, List.forall_mem_cons.mpr ⟨lw_p3, List.forall_mem_cons.mpr ⟨lw_p4, List.forall_mem_cons.mpr ⟨lw_p5, List.forall_mem_cons.mpr ⟨lw_p6, List.forall_mem_cons.mpr ⟨lw_p7, List.forall_mem_cons.mpr ⟨lw_p8, List.forall_mem_cons.mpr ⟨lw_p9, List.forall_mem_cons.mpr ⟨lw_p10, List.forall_mem_cons.mpr ⟨lw_p11, List.forall_mem_cons.mpr ⟨lw_p12, List.forall_mem_cons.mpr ⟨lw_p13, List.forall_mem_cons.mpr ⟨lw_p14, List.forall_mem_cons.mpr ⟨lw_p15, fun _ h => absurd h List.not_mem_nil⟩⟩⟩⟩⟩⟩⟩⟩⟩⟩⟩⟩⟩⟩⟩⟩
theorem lw_p16 : lw_okq (⟨"GeyserNerves", "leastFor", "(IIII)I"⟩, 13) := ⟨⟨by decide +kernel, by decide +kernel⟩, List.mem_of_getElem? (i := 16) (by decide +kernel), List.mem_of_getElem? (i := 634) (by decide +kernel), List.mem_of_getElem? (i := 635) (by decide +kernel)⟩
theorem lw_p17 : lw_okq (⟨"GeyserNerves", "mostFrom", "(II)I"⟩, 13) := ⟨⟨by decide +kernel, by decide +kernel⟩, List.mem_of_getElem? (i := 16) (by decide +kernel), List.mem_of_getElem? (i := 643) (by decide +kernel), List.mem_of_getElem? (i := 644) (by decide +kernel)⟩
theorem lw_p18 : lw_okq (⟨"GeyserNerves", "upsByOdds", "(III)I"⟩, 13) := ⟨⟨by decide +kernel, by decide +kernel⟩, List.mem_of_getElem? (i := 16) (by decide +kernel), List.mem_of_getElem? (i := 656) (by decide +kernel), List.mem_of_getElem? (i := 657) (by decide +kernel)⟩
theorem lw_p19 : lw_okq (⟨"GeyserNerves", "goesAsSeen", "(LGeyserNerves$Ground;)Z"⟩, 13) := ⟨⟨by decide +kernel, by decide +kernel⟩, List.mem_of_getElem? (i := 16) (by decide +kernel), List.mem_of_getElem? (i := 689) (by decide +kernel), List.mem_of_getElem? (i := 690) (by decide +kernel)⟩
theorem lw_p20 : lw_okq (⟨"GeyserNerves", "goesAsSeenByNerve", "(II)Z"⟩, 13) := ⟨⟨by decide +kernel, by decide +kernel⟩, List.mem_of_getElem? (i := 16) (by decide +kernel), List.mem_of_getElem? (i := 702) (by decide +kernel), List.mem_of_getElem? (i := 703) (by decide +kernel)⟩
theorem lw_p21 : lw_okq (⟨"GeyserNerves", "hoursOf", "(I)J"⟩, 13) := ⟨⟨by decide +kernel, by decide +kernel⟩, List.mem_of_getElem? (i := 16) (by decide +kernel), List.mem_of_getElem? (i := 710) (by decide +kernel), List.mem_of_getElem? (i := 711) (by decide +kernel)⟩
theorem lw_p22 : lw_okq (⟨"GeyserNerves", "leftAtWorst", "(II)I"⟩, 13) := ⟨⟨by decide +kernel, by decide +kernel⟩, List.mem_of_getElem? (i := 16) (by decide +kernel), List.mem_of_getElem? (i := 714) (by decide +kernel), List.mem_of_getElem? (i := 715) (by decide +kernel)⟩
theorem lw_p23 : lw_okq (⟨"GeyserNervesModel", "readsOn", "()V"⟩, 30) := ⟨⟨by decide +kernel, by decide +kernel⟩, List.mem_of_getElem? (i := 782) (by decide +kernel), List.mem_of_getElem? (i := 895) (by decide +kernel), List.mem_of_getElem? (i := 896) (by decide +kernel)⟩
theorem lw_p24 : lw_okq (⟨"GeyserNervesModel", "byteAt", "(I)I"⟩, 30) := ⟨⟨by decide +kernel, by decide +kernel⟩, List.mem_of_getElem? (i := 782) (by decide +kernel), List.mem_of_getElem? (i := 899) (by decide +kernel), List.mem_of_getElem? (i := 900) (by decide +kernel)⟩
theorem lw_p25 : lw_okq (⟨"GeyserNervesModel", "fails", "(I)V"⟩, 30) := ⟨⟨by decide +kernel, by decide +kernel⟩, List.mem_of_getElem? (i := 782) (by decide +kernel), List.mem_of_getElem? (i := 907) (by decide +kernel), List.mem_of_getElem? (i := 908) (by decide +kernel)⟩
theorem lw_p26 : lw_okq (⟨"GeyserNervesModel", "readLine", "()V"⟩, 30) := ⟨⟨by decide +kernel, by decide +kernel⟩, List.mem_of_getElem? (i := 782) (by decide +kernel), List.mem_of_getElem? (i := 911) (by decide +kernel), List.mem_of_getElem? (i := 912) (by decide +kernel)⟩
theorem lw_p27 : lw_okq (⟨"GeyserNervesModel", "nameHere", "()I"⟩, 30) := ⟨⟨by decide +kernel, by decide +kernel⟩, List.mem_of_getElem? (i := 782) (by decide +kernel), List.mem_of_getElem? (i := 915) (by decide +kernel), List.mem_of_getElem? (i := 916) (by decide +kernel)⟩
theorem lw_p28 : lw_okq (⟨"GeyserNervesModel", "readMore", "(I)V"⟩, 30) := ⟨⟨by decide +kernel, by decide +kernel⟩, List.mem_of_getElem? (i := 782) (by decide +kernel), List.mem_of_getElem? (i := 920) (by decide +kernel), List.mem_of_getElem? (i := 921) (by decide +kernel)⟩
theorem lw_p29 : lw_okq (⟨"GeyserNervesModel", "number", "(II)I"⟩, 30) := ⟨⟨by decide +kernel, by decide +kernel⟩, List.mem_of_getElem? (i := 782) (by decide +kernel), List.mem_of_getElem? (i := 924) (by decide +kernel), List.mem_of_getElem? (i := 925) (by decide +kernel)⟩
theorem lw_p30 : lw_okq (⟨"GeyserNervesModel", "sumOn", "(II)I"⟩, 30) := ⟨⟨by decide +kernel, by decide +kernel⟩, List.mem_of_getElem? (i := 782) (by decide +kernel), List.mem_of_getElem? (i := 936) (by decide +kernel), List.mem_of_getElem? (i := 937) (by decide +kernel)⟩
theorem lw_p31 : lw_okq (⟨"GeyserNervesModel", "watchersOn", "(I)I"⟩, 30) := ⟨⟨by decide +kernel, by decide +kernel⟩, List.mem_of_getElem? (i := 782) (by decide +kernel), List.mem_of_getElem? (i := 940) (by decide +kernel), List.mem_of_getElem? (i := 941) (by decide +kernel)⟩
def lw_privs_2 : List (MethodName × Nat) := [(⟨"GeyserNerves", "leastFor", "(IIII)I"⟩, 13), (⟨"GeyserNerves", "mostFrom", "(II)I"⟩, 13), (⟨"GeyserNerves", "upsByOdds", "(III)I"⟩, 13), (⟨"GeyserNerves", "goesAsSeen", "(LGeyserNerves$Ground;)Z"⟩, 13), (⟨"GeyserNerves", "goesAsSeenByNerve", "(II)Z"⟩, 13), (⟨"GeyserNerves", "hoursOf", "(I)J"⟩, 13), (⟨"GeyserNerves", "leftAtWorst", "(II)I"⟩, 13), (⟨"GeyserNervesModel", "readsOn", "()V"⟩, 30), (⟨"GeyserNervesModel", "byteAt", "(I)I"⟩, 30), (⟨"GeyserNervesModel", "fails", "(I)V"⟩, 30), (⟨"GeyserNervesModel", "readLine", "()V"⟩, 30), (⟨"GeyserNervesModel", "nameHere", "()I"⟩, 30), (⟨"GeyserNervesModel", "readMore", "(I)V"⟩, 30), (⟨"GeyserNervesModel", "number", "(II)I"⟩, 30), (⟨"GeyserNervesModel", "sumOn", "(II)I"⟩, 30), (⟨"GeyserNervesModel", "watchersOn", "(I)I"⟩, 30)]
theorem lw_r2 : ∀ q ∈ lw_privs_2, lw_okq q := List.forall_mem_cons.mpr ⟨lw_p16, List.forall_mem_cons.mpr ⟨lw_p17, List.forall_mem_cons.mpr ⟨lw_p18, List.forall_mem_cons.mpr ⟨lw_p19, List.forall_mem_cons.mpr ⟨lw_p20, List.forall_mem_cons.mpr ⟨lw_p21, List.forall_mem_cons.mpr ⟨lw_p22, List.forall_mem_cons.mpr ⟨lw_p23, List.forall_mem_cons.mpr ⟨lw_p24, List.forall_mem_cons.mpr ⟨lw_p25, List.forall_mem_cons.mpr ⟨lw_p26, List.forall_mem_cons.mpr ⟨lw_p27, List.forall_mem_cons.mpr ⟨lw_p28, List.forall_mem_cons.mpr ⟨lw_p29, List.forall_mem_cons.mpr ⟨lw_p30, List.forall_mem_cons.mpr ⟨lw_p31, fun _ h => absurd h List.not_mem_nil⟩⟩⟩⟩⟩⟩⟩⟩⟩⟩⟩⟩⟩⟩⟩⟩
theorem lw_p32 : lw_okq (⟨"GeyserNervesModel", "rowOn", "(I)I"⟩, 30) := ⟨⟨by decide +kernel, by decide +kernel⟩, List.mem_of_getElem? (i := 782) (by decide +kernel), List.mem_of_getElem? (i := 944) (by decide +kernel), List.mem_of_getElem? (i := 945) (by decide +kernel)⟩
theorem lw_p33 : lw_okq (⟨"GeyserNervesModel", "whomOn", "(I)I"⟩, 30) := ⟨⟨by decide +kernel, by decide +kernel⟩, List.mem_of_getElem? (i := 782) (by decide +kernel), List.mem_of_getElem? (i := 948) (by decide +kernel), List.mem_of_getElem? (i := 949) (by decide +kernel)⟩
theorem lw_p34 : lw_okq (⟨"GeyserNervesModel", "isGeyser", "(I)Z"⟩, 30) := ⟨⟨by decide +kernel, by decide +kernel⟩, List.mem_of_getElem? (i := 782) (by decide +kernel), List.mem_of_getElem? (i := 956) (by decide +kernel), List.mem_of_getElem? (i := 957) (by decide +kernel)⟩
theorem lw_p35 : lw_okq (⟨"GeyserNervesModel", "shareOn", "(II)I"⟩, 30) := ⟨⟨by decide +kernel, by decide +kernel⟩, List.mem_of_getElem? (i := 782) (by decide +kernel), List.mem_of_getElem? (i := 961) (by decide +kernel), List.mem_of_getElem? (i := 962) (by decide +kernel)⟩
theorem lw_p36 : lw_okq (⟨"GeyserNervesModel", "mindsOn", "(III)I"⟩, 30) := ⟨⟨by decide +kernel, by decide +kernel⟩, List.mem_of_getElem? (i := 782) (by decide +kernel), List.mem_of_getElem? (i := 965) (by decide +kernel), List.mem_of_getElem? (i := 966) (by decide +kernel)⟩
theorem lw_p37 : lw_okq (⟨"GeyserNervesModel", "isRow", "(I)Z"⟩, 30) := ⟨⟨by decide +kernel, by decide +kernel⟩, List.mem_of_getElem? (i := 782) (by decide +kernel), List.mem_of_getElem? (i := 973) (by decide +kernel), List.mem_of_getElem? (i := 974) (by decide +kernel)⟩
theorem lw_p38 : lw_okq (⟨"GeyserNervesModel", "puts", "(ZIII)I"⟩, 30) := ⟨⟨by decide +kernel, by decide +kernel⟩, List.mem_of_getElem? (i := 782) (by decide +kernel), List.mem_of_getElem? (i := 989) (by decide +kernel), List.mem_of_getElem? (i := 990) (by decide +kernel)⟩
theorem lw_p39 : lw_okq (⟨"GeyserNervesModel", "adds", "(II)I"⟩, 30) := ⟨⟨by decide +kernel, by decide +kernel⟩, List.mem_of_getElem? (i := 782) (by decide +kernel), List.mem_of_getElem? (i := 1015) (by decide +kernel), List.mem_of_getElem? (i := 1016) (by decide +kernel)⟩
theorem lw_p40 : lw_okq (⟨"GeyserNervesModel", "planOn", "(I)I"⟩, 30) := ⟨⟨by decide +kernel, by decide +kernel⟩, List.mem_of_getElem? (i := 782) (by decide +kernel), List.mem_of_getElem? (i := 1028) (by decide +kernel), List.mem_of_getElem? (i := 1029) (by decide +kernel)⟩
theorem lw_p41 : lw_okq (⟨"GeyserNervesModel", "hourOn", "(III)I"⟩, 30) := ⟨⟨by decide +kernel, by decide +kernel⟩, List.mem_of_getElem? (i := 782) (by decide +kernel), List.mem_of_getElem? (i := 1032) (by decide +kernel), List.mem_of_getElem? (i := 1033) (by decide +kernel)⟩
theorem lw_p42 : lw_okq (⟨"GeyserNervesModel", "goesUp", "(IIII)Z"⟩, 30) := ⟨⟨by decide +kernel, by decide +kernel⟩, List.mem_of_getElem? (i := 782) (by decide +kernel), List.mem_of_getElem? (i := 1036) (by decide +kernel), List.mem_of_getElem? (i := 1037) (by decide +kernel)⟩
theorem lw_p43 : lw_okq (⟨"GeyserNervesModel", "fadesOn", "(II)I"⟩, 30) := ⟨⟨by decide +kernel, by decide +kernel⟩, List.mem_of_getElem? (i := 782) (by decide +kernel), List.mem_of_getElem? (i := 1040) (by decide +kernel), List.mem_of_getElem? (i := 1041) (by decide +kernel)⟩
theorem lw_p44 : lw_okq (⟨"GeyserNervesModel", "hoursGo", "(II)I"⟩, 30) := ⟨⟨by decide +kernel, by decide +kernel⟩, List.mem_of_getElem? (i := 782) (by decide +kernel), List.mem_of_getElem? (i := 1055) (by decide +kernel), List.mem_of_getElem? (i := 1056) (by decide +kernel)⟩
theorem lw_p45 : lw_okq (⟨"GeyserNervesModel", "copies", "(II)V"⟩, 30) := ⟨⟨by decide +kernel, by decide +kernel⟩, List.mem_of_getElem? (i := 782) (by decide +kernel), List.mem_of_getElem? (i := 1059) (by decide +kernel), List.mem_of_getElem? (i := 1060) (by decide +kernel)⟩
theorem lw_p46 : lw_okq (⟨"GeyserNervesModel", "feels", "(I)V"⟩, 30) := ⟨⟨by decide +kernel, by decide +kernel⟩, List.mem_of_getElem? (i := 782) (by decide +kernel), List.mem_of_getElem? (i := 1063) (by decide +kernel), List.mem_of_getElem? (i := 1064) (by decide +kernel)⟩
theorem lw_p47 : lw_okq (⟨"GeyserNervesModel", "wentThen", "(I)I"⟩, 30) := ⟨⟨by decide +kernel, by decide +kernel⟩, List.mem_of_getElem? (i := 782) (by decide +kernel), List.mem_of_getElem? (i := 1072) (by decide +kernel), List.mem_of_getElem? (i := 1073) (by decide +kernel)⟩
def lw_privs_3 : List (MethodName × Nat) := [(⟨"GeyserNervesModel", "rowOn", "(I)I"⟩, 30), (⟨"GeyserNervesModel", "whomOn", "(I)I"⟩, 30), (⟨"GeyserNervesModel", "isGeyser", "(I)Z"⟩, 30), (⟨"GeyserNervesModel", "shareOn", "(II)I"⟩, 30), (⟨"GeyserNervesModel", "mindsOn", "(III)I"⟩, 30), (⟨"GeyserNervesModel", "isRow", "(I)Z"⟩, 30), (⟨"GeyserNervesModel", "puts", "(ZIII)I"⟩, 30), (⟨"GeyserNervesModel", "adds", "(II)I"⟩, 30), (⟨"GeyserNervesModel", "planOn", "(I)I"⟩, 30), (⟨"GeyserNervesModel", "hourOn", "(III)I"⟩, 30), (⟨"GeyserNervesModel", "goesUp", "(IIII)Z"⟩, 30), (⟨"GeyserNervesModel", "fadesOn", "(II)I"⟩, 30), (⟨"GeyserNervesModel", "hoursGo", "(II)I"⟩, 30), (⟨"GeyserNervesModel", "copies", "(II)V"⟩, 30), (⟨"GeyserNervesModel", "feels", "(I)V"⟩, 30), (⟨"GeyserNervesModel", "wentThen", "(I)I"⟩, 30)]
theorem lw_r3 : ∀ q ∈ lw_privs_3, lw_okq q := List.forall_mem_cons.mpr ⟨lw_p32, List.forall_mem_cons.mpr ⟨lw_p33, List.forall_mem_cons.mpr ⟨lw_p34, List.forall_mem_cons.mpr ⟨lw_p35, List.forall_mem_cons.mpr ⟨lw_p36, List.forall_mem_cons.mpr ⟨lw_p37, List.forall_mem_cons.mpr ⟨lw_p38, List.forall_mem_cons.mpr ⟨lw_p39, List.forall_mem_cons.mpr ⟨lw_p40, List.forall_mem_cons.mpr ⟨lw_p41, List.forall_mem_cons.mpr ⟨lw_p42, List.forall_mem_cons.mpr ⟨lw_p43, List.forall_mem_cons.mpr ⟨lw_p44, List.forall_mem_cons.mpr ⟨lw_p45, List.forall_mem_cons.mpr ⟨lw_p46, List.forall_mem_cons.mpr ⟨lw_p47, fun _ h => absurd h List.not_mem_nil⟩⟩⟩⟩⟩⟩⟩⟩⟩⟩⟩⟩⟩⟩⟩⟩
theorem lw_p48 : lw_okq (⟨"GeyserNervesModel", "whomBy", "(I)I"⟩, 30) := ⟨⟨by decide +kernel, by decide +kernel⟩, List.mem_of_getElem? (i := 782) (by decide +kernel), List.mem_of_getElem? (i := 1092) (by decide +kernel), List.mem_of_getElem? (i := 1093) (by decide +kernel)⟩
theorem lw_p49 : lw_okq (⟨"GeyserNervesModel", "figuresOf", "(III)V"⟩, 30) := ⟨⟨by decide +kernel, by decide +kernel⟩, List.mem_of_getElem? (i := 782) (by decide +kernel), List.mem_of_getElem? (i := 1121) (by decide +kernel), List.mem_of_getElem? (i := 1122) (by decide +kernel)⟩
theorem lw_p50 : lw_okq (⟨"GeyserNervesModel", "goesBack", "(III)V"⟩, 30) := ⟨⟨by decide +kernel, by decide +kernel⟩, List.mem_of_getElem? (i := 782) (by decide +kernel), List.mem_of_getElem? (i := 1125) (by decide +kernel), List.mem_of_getElem? (i := 1126) (by decide +kernel)⟩
theorem lw_p51 : lw_okq (⟨"GeyserNervesModel", "byNobody", "(IIII)J"⟩, 30) := ⟨⟨by decide +kernel, by decide +kernel⟩, List.mem_of_getElem? (i := 782) (by decide +kernel), List.mem_of_getElem? (i := 1135) (by decide +kernel), List.mem_of_getElem? (i := 1136) (by decide +kernel)⟩
theorem lw_p52 : lw_okq (⟨"GeyserNervesModel", "numbersAt", "(II)I"⟩, 30) := ⟨⟨by decide +kernel, by decide +kernel⟩, List.mem_of_getElem? (i := 782) (by decide +kernel), List.mem_of_getElem? (i := 1159) (by decide +kernel), List.mem_of_getElem? (i := 1160) (by decide +kernel)⟩
theorem lw_p53 : lw_okq (⟨"GeyserNervesModel", "isAsSeen", "(I)Z"⟩, 30) := ⟨⟨by decide +kernel, by decide +kernel⟩, List.mem_of_getElem? (i := 782) (by decide +kernel), List.mem_of_getElem? (i := 1163) (by decide +kernel), List.mem_of_getElem? (i := 1164) (by decide +kernel)⟩
def lw_privs_4 : List (MethodName × Nat) := [(⟨"GeyserNervesModel", "whomBy", "(I)I"⟩, 30), (⟨"GeyserNervesModel", "figuresOf", "(III)V"⟩, 30), (⟨"GeyserNervesModel", "goesBack", "(III)V"⟩, 30), (⟨"GeyserNervesModel", "byNobody", "(IIII)J"⟩, 30), (⟨"GeyserNervesModel", "numbersAt", "(II)I"⟩, 30), (⟨"GeyserNervesModel", "isAsSeen", "(I)Z"⟩, 30)]
theorem lw_r4 : ∀ q ∈ lw_privs_4, lw_okq q := List.forall_mem_cons.mpr ⟨lw_p48, List.forall_mem_cons.mpr ⟨lw_p49, List.forall_mem_cons.mpr ⟨lw_p50, List.forall_mem_cons.mpr ⟨lw_p51, List.forall_mem_cons.mpr ⟨lw_p52, List.forall_mem_cons.mpr ⟨lw_p53, fun _ h => absurd h List.not_mem_nil⟩⟩⟩⟩⟩⟩
def lw_privs : List (MethodName × Nat) := lw_privs_1 ++ (lw_privs_2 ++ (lw_privs_3 ++ (lw_privs_4)))
def lw_tbl : List Cond := k2_sels lw_privs ++ tables_1
theorem lw_privs_ok : ∀ q ∈ lw_privs, lw_okq q := by
  show ∀ q ∈ lw_privs_1 ++ (lw_privs_2 ++ (lw_privs_3 ++ (lw_privs_4))), lw_okq q
  exact List.forall_mem_append.mpr ⟨lw_r1, List.forall_mem_append.mpr ⟨lw_r2, List.forall_mem_append.mpr ⟨lw_r3, lw_r4⟩⟩⟩

def RX0 : String := "GeyserNerves$Ground"
def TX0 : u_T := fun k => match k with
  | 0 => ("GeyserNerves$Ground", "vents", "[LGeyserNerves$Vent;", true)
  | 1 => ("GeyserNerves$Ground", "watchers", "[I", true)
  | 2 => ("GeyserNerves$Ground", "company", "[I", true)
  | 3 => ("GeyserNerves$Ground", "ventCount", "I", false)
  | 4 => ("GeyserNerves$Ground", "rowCount", "I", false)
  | 5 => ("GeyserNerves$Ground", "hour", "I", false)
  | 6 => ("GeyserNerves$Ground", "flow", "I", false)
  | _ => ("GeyserNerves$Ground", "calm", "I", false)
def tyX0 : Nat → FieldType := fun k => match k with
  | 0 => .array (.object "GeyserNerves$Vent")
  | 1 => .array .int
  | 2 => .array .int
  | 3 => .int
  | 4 => .int
  | 5 => .int
  | 6 => .int
  | _ => .int
abbrev wsX00 : List Cond := u_ws RX0 TX0 8
theorem nmX0 : ∀ a, a < 8 → ∀ b, b < 8 → a ≠ b → (TX0 a).2.1 ≠ (TX0 b).2.1 := by decide +kernel
theorem tyX0_ok : ∀ k, k < 8 → parseFieldDescriptor (TX0 k).2.2.1 = some (tyX0 k) := by decide +kernel
abbrev cX0_init : ByteArray := prog_2_method_1_code
def yX0_init : MethodName := ⟨RX0, "<init>", "()V"⟩
abbrev cX0_clear : ByteArray := prog_2_method_2_code
def yX0_clear : MethodName := ⟨RX0, "clear", "()V"⟩
abbrev cX0_become : ByteArray := prog_2_method_3_code
def yX0_become : MethodName := ⟨RX0, "become", "(LGeyserNerves$Ground;)V"⟩
abbrev cX0_takeMoods : ByteArray := prog_2_method_4_code
def yX0_takeMoods : MethodName := ⟨RX0, "takeMoods", "(LGeyserNerves$Ground;)V"⟩
abbrev cX0_hasVent : ByteArray := prog_2_method_5_code
def yX0_hasVent : MethodName := ⟨RX0, "hasVent", "(I)Z"⟩
abbrev cX0_hasRow : ByteArray := prog_2_method_6_code
def yX0_hasRow : MethodName := ⟨RX0, "hasRow", "(I)Z"⟩
abbrev cX0_moreVents : ByteArray := prog_2_method_7_code
def yX0_moreVents : MethodName := ⟨RX0, "moreVents", "(III)Z"⟩
abbrev cX0_moreRows : ByteArray := prog_2_method_8_code
def yX0_moreRows : MethodName := ⟨RX0, "moreRows", "(II)Z"⟩
abbrev cX0_exchange : ByteArray := prog_2_method_9_code
def yX0_exchange : MethodName := ⟨RX0, "exchange", "(II)V"⟩
abbrev cX0_choice : ByteArray := prog_2_method_10_code
def yX0_choice : MethodName := ⟨RX0, "choice", "(I)I"⟩
abbrev cX0_shareOf : ByteArray := prog_2_method_11_code
def yX0_shareOf : MethodName := ⟨RX0, "shareOf", "(I)I"⟩
abbrev cX0_turn : ByteArray := prog_2_method_12_code
def yX0_turn : MethodName := ⟨RX0, "turn", "()I"⟩
abbrev cX0_watchersNow : ByteArray := prog_2_method_13_code
def yX0_watchersNow : MethodName := ⟨RX0, "watchersNow", "()I"⟩
abbrev cX0_companyNow : ByteArray := prog_2_method_14_code
def yX0_companyNow : MethodName := ⟨RX0, "companyNow", "()I"⟩
abbrev cX0_pass : ByteArray := prog_2_method_15_code
def yX0_pass : MethodName := ⟨RX0, "pass", "(II)I"⟩
abbrev cX0_passByPlan : ByteArray := prog_2_method_16_code
def yX0_passByPlan : MethodName := ⟨RX0, "passByPlan", "()I"⟩
abbrev cX0_upsOfAll : ByteArray := prog_2_method_17_code
def yX0_upsOfAll : MethodName := ⟨RX0, "upsOfAll", "(I)I"⟩
abbrev cX0_upsOf : ByteArray := prog_2_method_18_code
def yX0_upsOf : MethodName := ⟨RX0, "upsOf", "(II)I"⟩
abbrev cX0_tally : ByteArray := prog_2_method_19_code
def yX0_tally : MethodName := ⟨RX0, "tally", "(II)I"⟩
abbrev cX0_standsAs : ByteArray := prog_2_method_20_code
def yX0_standsAs : MethodName := ⟨RX0, "standsAs", "(LGeyserNerves$Ground;)Z"⟩
abbrev cX0_greatestHeat : ByteArray := prog_2_method_21_code
def yX0_greatestHeat : MethodName := ⟨RX0, "greatestHeat", "()I"⟩
abbrev cX0_sumOf : ByteArray := prog_2_method_22_code
def yX0_sumOf : MethodName := ⟨RX0, "sumOf", "(I)I"⟩
abbrev cX0_sumOfWatchers : ByteArray := prog_2_method_23_code
def yX0_sumOfWatchers : MethodName := ⟨RX0, "sumOfWatchers", "()I"⟩
def RX1 : String := "GeyserNerves$Reader"
def TX1 : u_T := fun k => match k with
  | 0 => ("GeyserNerves$Reader", "from", "LGeyserNerves$Tape;", true)
  | 1 => ("GeyserNerves$Reader", "at", "I", false)
  | 2 => ("GeyserNerves$Reader", "token", "I", false)
  | 3 => ("GeyserNerves$Reader", "start", "I", false)
  | 4 => ("GeyserNerves$Reader", "value", "I", false)
  | 5 => ("GeyserNerves$Reader", "fault", "I", false)
  | 6 => ("GeyserNerves$Reader", "place", "I", false)
  | 7 => ("GeyserNerves$Reader", "flowTold", "Z", false)
  | _ => ("GeyserNerves$Reader", "calmTold", "Z", false)
def tyX1 : Nat → FieldType := fun k => match k with
  | 0 => .object "GeyserNerves$Tape"
  | 1 => .int
  | 2 => .int
  | 3 => .int
  | 4 => .int
  | 5 => .int
  | 6 => .int
  | 7 => .boolean
  | _ => .boolean
abbrev wsX10 : List Cond := u_ws RX1 TX1 9
theorem nmX1 : ∀ a, a < 9 → ∀ b, b < 9 → a ≠ b → (TX1 a).2.1 ≠ (TX1 b).2.1 := by decide +kernel
theorem tyX1_ok : ∀ k, k < 9 → parseFieldDescriptor (TX1 k).2.2.1 = some (tyX1 k) := by decide +kernel
abbrev cX1_init : ByteArray := prog_3_method_1_code
def yX1_init : MethodName := ⟨RX1, "<init>", "()V"⟩
abbrev cX1_takeAll : ByteArray := prog_3_method_2_code
def yX1_takeAll : MethodName := ⟨RX1, "takeAll", "(LGeyserNerves$Ground;)I"⟩
abbrev cX1_takeLine : ByteArray := prog_3_method_3_code
def yX1_takeLine : MethodName := ⟨RX1, "takeLine", "(LGeyserNerves$Ground;)V"⟩
abbrev cX1_takeFlow : ByteArray := prog_3_method_4_code
def yX1_takeFlow : MethodName := ⟨RX1, "takeFlow", "(LGeyserNerves$Ground;)V"⟩
abbrev cX1_takeCalm : ByteArray := prog_3_method_5_code
def yX1_takeCalm : MethodName := ⟨RX1, "takeCalm", "(LGeyserNerves$Ground;)V"⟩
abbrev cX1_takeHour : ByteArray := prog_3_method_6_code
def yX1_takeHour : MethodName := ⟨RX1, "takeHour", "(LGeyserNerves$Ground;)V"⟩
abbrev cX1_takeVent : ByteArray := prog_3_method_7_code
def yX1_takeVent : MethodName := ⟨RX1, "takeVent", "(LGeyserNerves$Ground;I)V"⟩
abbrev cX1_passName : ByteArray := prog_3_method_8_code
def yX1_passName : MethodName := ⟨RX1, "passName", "()V"⟩
abbrev cX1_takeNumber : ByteArray := prog_3_method_9_code
def yX1_takeNumber : MethodName := ⟨RX1, "takeNumber", "(II)I"⟩
abbrev cX1_takeStop : ByteArray := prog_3_method_10_code
def yX1_takeStop : MethodName := ⟨RX1, "takeStop", "()V"⟩
abbrev cX1_fail : ByteArray := prog_3_method_11_code
def yX1_fail : MethodName := ⟨RX1, "fail", "(II)V"⟩
abbrev cX1_advance : ByteArray := prog_3_method_12_code
def yX1_advance : MethodName := ⟨RX1, "advance", "()V"⟩
abbrev cX1_isLetter : ByteArray := prog_3_method_13_code
def yX1_isLetter : MethodName := ⟨RX1, "isLetter", "(I)Z"⟩
abbrev cX1_isFigure : ByteArray := prog_3_method_14_code
def yX1_isFigure : MethodName := ⟨RX1, "isFigure", "(I)Z"⟩
abbrev cX1_lineOfName : ByteArray := prog_3_method_15_code
def yX1_lineOfName : MethodName := ⟨RX1, "lineOfName", "()I"⟩
abbrev cX1_nameIs : ByteArray := prog_3_method_16_code
def yX1_nameIs : MethodName := ⟨RX1, "nameIs", "(Ljava/lang/String;)Z"⟩
def RX2 : String := "GeyserNerves$Seen"
def TX2 : u_T := fun k => match k with
  | 0 => ("GeyserNerves$Seen", "hour", "[I", true)
  | 1 => ("GeyserNerves$Seen", "vent", "[I", true)
  | 2 => ("GeyserNerves$Seen", "went", "[I", true)
  | _ => ("GeyserNerves$Seen", "many", "I", false)
def tyX2 : Nat → FieldType := fun k => match k with
  | 0 => .array .int
  | 1 => .array .int
  | 2 => .array .int
  | _ => .int
abbrev wsX20 : List Cond := u_ws RX2 TX2 4
theorem nmX2 : ∀ a, a < 4 → ∀ b, b < 4 → a ≠ b → (TX2 a).2.1 ≠ (TX2 b).2.1 := by decide +kernel
theorem tyX2_ok : ∀ k, k < 4 → parseFieldDescriptor (TX2 k).2.2.1 = some (tyX2 k) := by decide +kernel
abbrev cX2_init : ByteArray := prog_4_method_1_code
def yX2_init : MethodName := ⟨RX2, "<init>", "()V"⟩
abbrev cX2_take : ByteArray := prog_4_method_2_code
def yX2_take : MethodName := ⟨RX2, "take", "(III)Z"⟩
abbrev cX2_agrees : ByteArray := prog_4_method_3_code
def yX2_agrees : MethodName := ⟨RX2, "agrees", "([I)Z"⟩
def RX3 : String := "GeyserNerves$Sheet"
def TX3 : u_T := fun k => match k with
  | 0 => ("GeyserNerves$Sheet", "cells", "[I", true)
  | 1 => ("GeyserNerves$Sheet", "lane", "I", false)
  | _ => ("GeyserNerves$Sheet", "size", "I", false)
def tyX3 : Nat → FieldType := fun k => match k with
  | 0 => .array .int
  | 1 => .int
  | _ => .int
abbrev wsX30 : List Cond := u_ws RX3 TX3 3
theorem nmX3 : ∀ a, a < 3 → ∀ b, b < 3 → a ≠ b → (TX3 a).2.1 ≠ (TX3 b).2.1 := by decide +kernel
theorem tyX3_ok : ∀ k, k < 3 → parseFieldDescriptor (TX3 k).2.2.1 = some (tyX3 k) := by decide +kernel
abbrev cX3_init : ByteArray := prog_5_method_1_code
def yX3_init : MethodName := ⟨RX3, "<init>", "()V"⟩
abbrev cX3_renew : ByteArray := prog_5_method_2_code
def yX3_renew : MethodName := ⟨RX3, "renew", "(II)V"⟩
abbrev cX3_faultAt : ByteArray := prog_5_method_3_code
def yX3_faultAt : MethodName := ⟨RX3, "faultAt", "(IJ)I"⟩
abbrev cX3_faultOfTwo : ByteArray := prog_5_method_4_code
def yX3_faultOfTwo : MethodName := ⟨RX3, "faultOfTwo", "(IJ)I"⟩
abbrev cX3_put : ByteArray := prog_5_method_5_code
def yX3_put : MethodName := ⟨RX3, "put", "(II)V"⟩
abbrev cX3_cellAt : ByteArray := prog_5_method_6_code
def yX3_cellAt : MethodName := ⟨RX3, "cellAt", "(J)I"⟩
def RX4 : String := "GeyserNerves$Tape"
def TX4 : u_T := fun k => match k with
  | 0 => ("GeyserNerves$Tape", "bytes", "[B", true)
  | _ => ("GeyserNerves$Tape", "length", "I", false)
def tyX4 : Nat → FieldType := fun k => match k with
  | 0 => .array .byte
  | _ => .int
abbrev wsX40 : List Cond := u_ws RX4 TX4 2
theorem nmX4 : ∀ a, a < 2 → ∀ b, b < 2 → a ≠ b → (TX4 a).2.1 ≠ (TX4 b).2.1 := by decide +kernel
theorem tyX4_ok : ∀ k, k < 2 → parseFieldDescriptor (TX4 k).2.2.1 = some (tyX4 k) := by decide +kernel
abbrev cX4_init : ByteArray := prog_6_method_1_code
def yX4_init : MethodName := ⟨RX4, "<init>", "()V"⟩
abbrev cX4_take : ByteArray := prog_6_method_2_code
def yX4_take : MethodName := ⟨RX4, "take", "(I)Z"⟩
abbrev cX4_byteAt : ByteArray := prog_6_method_3_code
def yX4_byteAt : MethodName := ⟨RX4, "byteAt", "(I)I"⟩
def RX5 : String := "GeyserNerves$Vent"
def TX5 : u_T := fun k => match k with
  | 0 => ("GeyserNerves$Vent", "kind", "I", false)
  | 1 => ("GeyserNerves$Vent", "need", "I", false)
  | 2 => ("GeyserNerves$Vent", "nerve", "I", false)
  | 3 => ("GeyserNerves$Vent", "heat", "I", false)
  | 4 => ("GeyserNerves$Vent", "fret", "I", false)
  | _ => ("GeyserNerves$Vent", "went", "I", false)
def tyX5 : Nat → FieldType := fun k => match k with
  | 0 => .int
  | 1 => .int
  | 2 => .int
  | 3 => .int
  | 4 => .int
  | _ => .int
abbrev wsX50 : List Cond := u_ws RX5 TX5 6
theorem nmX5 : ∀ a, a < 6 → ∀ b, b < 6 → a ≠ b → (TX5 a).2.1 ≠ (TX5 b).2.1 := by decide +kernel
theorem tyX5_ok : ∀ k, k < 6 → parseFieldDescriptor (TX5 k).2.2.1 = some (tyX5 k) := by decide +kernel
abbrev cX5_init : ByteArray := prog_7_method_1_code
def yX5_init : MethodName := ⟨RX5, "<init>", "()V"⟩
abbrev cX5_begin : ByteArray := prog_7_method_2_code
def yX5_begin : MethodName := ⟨RX5, "begin", "(III)V"⟩
abbrev cX5_become : ByteArray := prog_7_method_3_code
def yX5_become : MethodName := ⟨RX5, "become", "(LGeyserNerves$Vent;)V"⟩
abbrev cX5_takeMood : ByteArray := prog_7_method_4_code
def yX5_takeMood : MethodName := ⟨RX5, "takeMood", "(LGeyserNerves$Vent;)V"⟩
abbrev cX5_part : ByteArray := prog_7_method_5_code
def yX5_part : MethodName := ⟨RX5, "part", "(I)I"⟩
abbrev cX5_change : ByteArray := prog_7_method_6_code
def yX5_change : MethodName := ⟨RX5, "change", "(II)V"⟩
abbrev cX5_minds : ByteArray := prog_7_method_7_code
def yX5_minds : MethodName := ⟨RX5, "minds", "(I)I"⟩
abbrev cX5_fades : ByteArray := prog_7_method_8_code
def yX5_fades : MethodName := ⟨RX5, "fades", "()I"⟩
abbrev cX5_pass : ByteArray := prog_7_method_9_code
def yX5_pass : MethodName := ⟨RX5, "pass", "(III)Z"⟩
def RX6 : String := "GeyserNerves"
def TX6 : u_T := fun k => match k with
  | 0 => ("GeyserNerves", "now", "LGeyserNerves$Ground;", true)
  | 1 => ("GeyserNerves", "trial", "LGeyserNerves$Ground;", true)
  | 2 => ("GeyserNerves", "levels", "[LGeyserNerves$Ground;", true)
  | 3 => ("GeyserNerves", "images", "[LGeyserNerves$Ground;", true)
  | 4 => ("GeyserNerves", "kept", "[Z", true)
  | 5 => ("GeyserNerves", "reader", "LGeyserNerves$Reader;", true)
  | 6 => ("GeyserNerves", "tape", "LGeyserNerves$Tape;", true)
  | 7 => ("GeyserNerves", "seen", "LGeyserNerves$Seen;", true)
  | 8 => ("GeyserNerves", "upsByHour", "[I", true)
  | 9 => ("GeyserNerves", "hoursByNerve", "[J", true)
  | 10 => ("GeyserNerves", "sheets", "[LGeyserNerves$Sheet;", true)
  | 11 => ("GeyserNerves", "latestFault", "I", false)
  | _ => ("GeyserNerves", "latestTorn", "I", false)
def tyX6 : Nat → FieldType := fun k => match k with
  | 0 => .object "GeyserNerves$Ground"
  | 1 => .object "GeyserNerves$Ground"
  | 2 => .array (.object "GeyserNerves$Ground")
  | 3 => .array (.object "GeyserNerves$Ground")
  | 4 => .array .boolean
  | 5 => .object "GeyserNerves$Reader"
  | 6 => .object "GeyserNerves$Tape"
  | 7 => .object "GeyserNerves$Seen"
  | 8 => .array .int
  | 9 => .array .long
  | 10 => .array (.object "GeyserNerves$Sheet")
  | 11 => .int
  | _ => .int
abbrev wsX60 : List Cond := u_ws RX6 TX6 13
theorem nmX6 : ∀ a, a < 13 → ∀ b, b < 13 → a ≠ b → (TX6 a).2.1 ≠ (TX6 b).2.1 := by decide +kernel
theorem tyX6_ok : ∀ k, k < 13 → parseFieldDescriptor (TX6 k).2.2.1 = some (tyX6 k) := by decide +kernel
abbrev cX6_init : ByteArray := prog_1_method_1_code
def yX6_init : MethodName := ⟨RX6, "<init>", "()V"⟩
abbrev cX6_feed : ByteArray := prog_1_method_2_code
def yX6_feed : MethodName := ⟨RX6, "feed", "(I)I"⟩
abbrev cX6_end : ByteArray := prog_1_method_3_code
def yX6_end : MethodName := ⟨RX6, "end", "(I)I"⟩
abbrev cX6_text : ByteArray := prog_1_method_4_code
def yX6_text : MethodName := ⟨RX6, "text", "()I"⟩
abbrev cX6_fault : ByteArray := prog_1_method_5_code
def yX6_fault : MethodName := ⟨RX6, "fault", "()I"⟩
abbrev cX6_rule : ByteArray := prog_1_method_6_code
def yX6_rule : MethodName := ⟨RX6, "rule", "(I)I"⟩
abbrev cX6_geyser : ByteArray := prog_1_method_7_code
def yX6_geyser : MethodName := ⟨RX6, "geyser", "(II)I"⟩
abbrev cX6_row : ByteArray := prog_1_method_8_code
def yX6_row : MethodName := ⟨RX6, "row", "(II)I"⟩
abbrev cX6_alter : ByteArray := prog_1_method_9_code
def yX6_alter : MethodName := ⟨RX6, "alter", "(III)I"⟩
abbrev cX6_fitsVent : ByteArray := prog_1_method_10_code
def yX6_fitsVent : MethodName := ⟨RX6, "fitsVent", "(II)Z"⟩
abbrev cX6_tell : ByteArray := prog_1_method_11_code
def yX6_tell : MethodName := ⟨RX6, "tell", "(II)I"⟩
abbrev cX6_set : ByteArray := prog_1_method_12_code
def yX6_set : MethodName := ⟨RX6, "set", "(III)I"⟩
abbrev cX6_open : ByteArray := prog_1_method_13_code
def yX6_open : MethodName := ⟨RX6, "open", "(III)I"⟩
abbrev cX6_cut : ByteArray := prog_1_method_14_code
def yX6_cut : MethodName := ⟨RX6, "cut", "(I)I"⟩
abbrev cX6_add : ByteArray := prog_1_method_15_code
def yX6_add : MethodName := ⟨RX6, "add", "(II)I"⟩
abbrev cX6_addTo : ByteArray := prog_1_method_16_code
def yX6_addTo : MethodName := ⟨RX6, "addTo", "(LGeyserNerves$Ground;II)I"⟩
abbrev cX6_drop : ByteArray := prog_1_method_17_code
def yX6_drop : MethodName := ⟨RX6, "drop", "(I)I"⟩
abbrev cX6_hours : ByteArray := prog_1_method_18_code
def yX6_hours : MethodName := ⟨RX6, "hours", "(I)I"⟩
abbrev cX6_runs : ByteArray := prog_1_method_19_code
def yX6_runs : MethodName := ⟨RX6, "runs", "(II)I"⟩
abbrev cX6_ahead : ByteArray := prog_1_method_20_code
def yX6_ahead : MethodName := ⟨RX6, "ahead", "(III)I"⟩
abbrev cX6_ups : ByteArray := prog_1_method_21_code
def yX6_ups : MethodName := ⟨RX6, "ups", "(I)I"⟩
abbrev cX6_when : ByteArray := prog_1_method_22_code
def yX6_when : MethodName := ⟨RX6, "when", "(I)I"⟩
abbrev cX6_again : ByteArray := prog_1_method_23_code
def yX6_again : MethodName := ⟨RX6, "again", "()I"⟩
abbrev cX6_whom : ByteArray := prog_1_method_24_code
def yX6_whom : MethodName := ⟨RX6, "whom", "(III)I"⟩
abbrev cX6_route : ByteArray := prog_1_method_25_code
def yX6_route : MethodName := ⟨RX6, "route", "(II)I"⟩
abbrev cX6_upsByRoute : ByteArray := prog_1_method_26_code
def yX6_upsByRoute : MethodName := ⟨RX6, "upsByRoute", "(II)I"⟩
abbrev cX6_companyOnRoute : ByteArray := prog_1_method_27_code
def yX6_companyOnRoute : MethodName := ⟨RX6, "companyOnRoute", "(III)I"⟩
abbrev cX6_swap : ByteArray := prog_1_method_28_code
def yX6_swap : MethodName := ⟨RX6, "swap", "(II)I"⟩
abbrev cX6_bears : ByteArray := prog_1_method_29_code
def yX6_bears : MethodName := ⟨RX6, "bears", "(II)I"⟩
abbrev cX6_upsWithWatchers : ByteArray := prog_1_method_30_code
def yX6_upsWithWatchers : MethodName := ⟨RX6, "upsWithWatchers", "(III)I"⟩
abbrev cX6_flow : ByteArray := prog_1_method_31_code
def yX6_flow : MethodName := ⟨RX6, "flow", "(III)I"⟩
abbrev cX6_kind : ByteArray := prog_1_method_32_code
def yX6_kind : MethodName := ⟨RX6, "kind", "(III)I"⟩
abbrev cX6_play : ByteArray := prog_1_method_33_code
def yX6_play : MethodName := ⟨RX6, "play", "(II)I"⟩
abbrev cX6_mostFrom : ByteArray := prog_1_method_34_code
def yX6_mostFrom : MethodName := ⟨RX6, "mostFrom", "(II)I"⟩
abbrev cX6_leastFor : ByteArray := prog_1_method_35_code
def yX6_leastFor : MethodName := ⟨RX6, "leastFor", "(IIII)I"⟩
abbrev cX6_luck : ByteArray := prog_1_method_36_code
def yX6_luck : MethodName := ⟨RX6, "luck", "(IIII)J"⟩
abbrev cX6_mean : ByteArray := prog_1_method_37_code
def yX6_mean : MethodName := ⟨RX6, "mean", "(III)J"⟩
abbrev cX6_areOdds : ByteArray := prog_1_method_38_code
def yX6_areOdds : MethodName := ⟨RX6, "areOdds", "(III)Z"⟩
abbrev cX6_upsByOdds : ByteArray := prog_1_method_39_code
def yX6_upsByOdds : MethodName := ⟨RX6, "upsByOdds", "(III)I"⟩
abbrev cX6_weight : ByteArray := prog_1_method_40_code
def yX6_weight : MethodName := ⟨RX6, "weight", "(III)J"⟩
abbrev cX6_power : ByteArray := prog_1_method_41_code
def yX6_power : MethodName := ⟨RX6, "power", "(II)J"⟩
abbrev cX6_lowest : ByteArray := prog_1_method_42_code
def yX6_lowest : MethodName := ⟨RX6, "lowest", "(JJI)J"⟩
abbrev cX6_see : ByteArray := prog_1_method_43_code
def yX6_see : MethodName := ⟨RX6, "see", "(III)I"⟩
abbrev cX6_forget : ByteArray := prog_1_method_44_code
def yX6_forget : MethodName := ⟨RX6, "forget", "(I)I"⟩
abbrev cX6_kinds : ByteArray := prog_1_method_45_code
def yX6_kinds : MethodName := ⟨RX6, "kinds", "(I)I"⟩
abbrev cX6_nerves : ByteArray := prog_1_method_46_code
def yX6_nerves : MethodName := ⟨RX6, "nerves", "(I)I"⟩
abbrev cX6_goesAsSeenByNerve : ByteArray := prog_1_method_47_code
def yX6_goesAsSeenByNerve : MethodName := ⟨RX6, "goesAsSeenByNerve", "(II)Z"⟩
abbrev cX6_goesAsSeen : ByteArray := prog_1_method_48_code
def yX6_goesAsSeen : MethodName := ⟨RX6, "goesAsSeen", "(LGeyserNerves$Ground;)Z"⟩
abbrev cX6_ask : ByteArray := prog_1_method_49_code
def yX6_ask : MethodName := ⟨RX6, "ask", "(II)I"⟩
abbrev cX6_hoursOf : ByteArray := prog_1_method_50_code
def yX6_hoursOf : MethodName := ⟨RX6, "hoursOf", "(I)J"⟩
abbrev cX6_leftAtWorst : ByteArray := prog_1_method_51_code
def yX6_leftAtWorst : MethodName := ⟨RX6, "leftAtWorst", "(II)I"⟩
abbrev cX6_season : ByteArray := prog_1_method_52_code
def yX6_season : MethodName := ⟨RX6, "season", "(III)I"⟩
abbrev cX6_keep : ByteArray := prog_1_method_53_code
def yX6_keep : MethodName := ⟨RX6, "keep", "(I)I"⟩
abbrev cX6_back : ByteArray := prog_1_method_54_code
def yX6_back : MethodName := ⟨RX6, "back", "(I)I"⟩
abbrev cX6_sheet : ByteArray := prog_1_method_55_code
def yX6_sheet : MethodName := ⟨RX6, "sheet", "(III)I"⟩
abbrev cX6_lay : ByteArray := prog_1_method_56_code
def yX6_lay : MethodName := ⟨RX6, "lay", "(III)I"⟩
abbrev cX6_read : ByteArray := prog_1_method_57_code
def yX6_read : MethodName := ⟨RX6, "read", "(IIII)I"⟩
abbrev cX6_isLane : ByteArray := prog_1_method_58_code
def yX6_isLane : MethodName := ⟨RX6, "isLane", "(I)Z"⟩
abbrev cX6_torn : ByteArray := prog_1_method_59_code
def yX6_torn : MethodName := ⟨RX6, "torn", "()I"⟩
abbrev cX6_count : ByteArray := prog_1_method_60_code
def yX6_count : MethodName := ⟨RX6, "count", "(I)I"⟩
abbrev cX6_afresh : ByteArray := prog_1_method_61_code
def yX6_afresh : MethodName := ⟨RX6, "afresh", "()LGeyserNerves$Ground;"⟩
abbrev cX6_within : ByteArray := prog_1_method_62_code
def yX6_within : MethodName := ⟨RX6, "within", "(III)Z"⟩
abbrev cX6_isAhead : ByteArray := prog_1_method_63_code
def yX6_isAhead : MethodName := ⟨RX6, "isAhead", "(I)Z"⟩
abbrev cX6_bit : ByteArray := prog_1_method_64_code
def yX6_bit : MethodName := ⟨RX6, "bit", "(II)I"⟩
def RX7 : String := "GeyserNervesModel"
def TX7 : u_T := fun k => match k with
  | 0 => ("GeyserNervesModel", "state", "[I", true)
  | 1 => ("GeyserNervesModel", "readPage", "[I", true)
  | 2 => ("GeyserNervesModel", "isFlowTold", "Z", false)
  | 3 => ("GeyserNervesModel", "isCalmTold", "Z", false)
  | 4 => ("GeyserNervesModel", "tape", "[I", true)
  | 5 => ("GeyserNervesModel", "taped", "I", false)
  | 6 => ("GeyserNervesModel", "fault", "I", false)
  | 7 => ("GeyserNervesModel", "broken", "I", false)
  | 8 => ("GeyserNervesModel", "brokenAt", "I", false)
  | 9 => ("GeyserNervesModel", "spot", "I", false)
  | 10 => ("GeyserNervesModel", "here", "I", false)
  | 11 => ("GeyserNervesModel", "token", "I", false)
  | 12 => ("GeyserNervesModel", "value", "I", false)
  | 13 => ("GeyserNervesModel", "ends", "[I", true)
  | 14 => ("GeyserNervesModel", "letters", "[I", true)
  | 15 => ("GeyserNervesModel", "pleased", "I", false)
  | 16 => ("GeyserNervesModel", "vain", "I", false)
  | 17 => ("GeyserNervesModel", "hottest", "I", false)
  | 18 => ("GeyserNervesModel", "low", "[I", true)
  | 19 => ("GeyserNervesModel", "high", "[I", true)
  | 20 => ("GeyserNervesModel", "figures", "[I", true)
  | 21 => ("GeyserNervesModel", "firstWhom", "I", false)
  | 22 => ("GeyserNervesModel", "seen", "[I", true)
  | 23 => ("GeyserNervesModel", "seenMany", "I", false)
  | 24 => ("GeyserNervesModel", "upBy", "[I", true)
  | 25 => ("GeyserNervesModel", "isKept", "[Z", true)
  | 26 => ("GeyserNervesModel", "lanes", "[I", true)
  | 27 => ("GeyserNervesModel", "lengths", "[I", true)
  | 28 => ("GeyserNervesModel", "cells", "[I", true)
  | _ => ("GeyserNervesModel", "torn", "I", false)
def tyX7 : Nat → FieldType := fun k => match k with
  | 0 => .array .int
  | 1 => .array .int
  | 2 => .boolean
  | 3 => .boolean
  | 4 => .array .int
  | 5 => .int
  | 6 => .int
  | 7 => .int
  | 8 => .int
  | 9 => .int
  | 10 => .int
  | 11 => .int
  | 12 => .int
  | 13 => .array .int
  | 14 => .array .int
  | 15 => .int
  | 16 => .int
  | 17 => .int
  | 18 => .array .int
  | 19 => .array .int
  | 20 => .array .int
  | 21 => .int
  | 22 => .array .int
  | 23 => .int
  | 24 => .array .int
  | 25 => .array .boolean
  | 26 => .array .int
  | 27 => .array .int
  | 28 => .array .int
  | _ => .int
abbrev wsX70 : List Cond := u_ws RX7 TX7 30
theorem nmX7 : ∀ a, a < 30 → ∀ b, b < 30 → a ≠ b → (TX7 a).2.1 ≠ (TX7 b).2.1 := by decide +kernel
theorem tyX7_ok : ∀ k, k < 30 → parseFieldDescriptor (TX7 k).2.2.1 = some (tyX7 k) := by decide +kernel
abbrev cX7_init : ByteArray := prog_9_method_1_code
def yX7_init : MethodName := ⟨RX7, "<init>", "()V"⟩
abbrev cX7_in : ByteArray := prog_9_method_3_code
def yX7_in : MethodName := ⟨RX7, "in", "(JJJ)Z"⟩
abbrev cX7_feed : ByteArray := prog_9_method_4_code
def yX7_feed : MethodName := ⟨RX7, "feed", "(I)I"⟩
abbrev cX7_end : ByteArray := prog_9_method_5_code
def yX7_end : MethodName := ⟨RX7, "end", "(I)I"⟩
abbrev cX7_byteAt : ByteArray := prog_9_method_6_code
def yX7_byteAt : MethodName := ⟨RX7, "byteAt", "(I)I"⟩
abbrev cX7_fails : ByteArray := prog_9_method_7_code
def yX7_fails : MethodName := ⟨RX7, "fails", "(I)V"⟩
abbrev cX7_nameHere : ByteArray := prog_9_method_8_code
def yX7_nameHere : MethodName := ⟨RX7, "nameHere", "()I"⟩
abbrev cX7_readsOn : ByteArray := prog_9_method_9_code
def yX7_readsOn : MethodName := ⟨RX7, "readsOn", "()V"⟩
abbrev cX7_number : ByteArray := prog_9_method_10_code
def yX7_number : MethodName := ⟨RX7, "number", "(II)I"⟩
abbrev cX7_readMore : ByteArray := prog_9_method_11_code
def yX7_readMore : MethodName := ⟨RX7, "readMore", "(I)V"⟩
abbrev cX7_readLine : ByteArray := prog_9_method_12_code
def yX7_readLine : MethodName := ⟨RX7, "readLine", "()V"⟩
abbrev cX7_text : ByteArray := prog_9_method_13_code
def yX7_text : MethodName := ⟨RX7, "text", "()I"⟩
abbrev cX7_fault : ByteArray := prog_9_method_14_code
def yX7_fault : MethodName := ⟨RX7, "fault", "()I"⟩
abbrev cX7_isGeyser : ByteArray := prog_9_method_15_code
def yX7_isGeyser : MethodName := ⟨RX7, "isGeyser", "(I)Z"⟩
abbrev cX7_isRow : ByteArray := prog_9_method_16_code
def yX7_isRow : MethodName := ⟨RX7, "isRow", "(I)Z"⟩
abbrev cX7_isLong : ByteArray := prog_9_method_17_code
def yX7_isLong : MethodName := ⟨RX7, "isLong", "(I)Z"⟩
abbrev cX7_shareOn : ByteArray := prog_9_method_18_code
def yX7_shareOn : MethodName := ⟨RX7, "shareOn", "(II)I"⟩
abbrev cX7_mindsOn : ByteArray := prog_9_method_19_code
def yX7_mindsOn : MethodName := ⟨RX7, "mindsOn", "(III)I"⟩
abbrev cX7_fadesOn : ByteArray := prog_9_method_20_code
def yX7_fadesOn : MethodName := ⟨RX7, "fadesOn", "(II)I"⟩
abbrev cX7_rowOn : ByteArray := prog_9_method_21_code
def yX7_rowOn : MethodName := ⟨RX7, "rowOn", "(I)I"⟩
abbrev cX7_watchersOn : ByteArray := prog_9_method_22_code
def yX7_watchersOn : MethodName := ⟨RX7, "watchersOn", "(I)I"⟩
abbrev cX7_whomOn : ByteArray := prog_9_method_23_code
def yX7_whomOn : MethodName := ⟨RX7, "whomOn", "(I)I"⟩
abbrev cX7_goesUp : ByteArray := prog_9_method_24_code
def yX7_goesUp : MethodName := ⟨RX7, "goesUp", "(IIII)Z"⟩
abbrev cX7_hourOn : ByteArray := prog_9_method_25_code
def yX7_hourOn : MethodName := ⟨RX7, "hourOn", "(III)I"⟩
abbrev cX7_planOn : ByteArray := prog_9_method_26_code
def yX7_planOn : MethodName := ⟨RX7, "planOn", "(I)I"⟩
abbrev cX7_sumOn : ByteArray := prog_9_method_27_code
def yX7_sumOn : MethodName := ⟨RX7, "sumOn", "(II)I"⟩
abbrev cX7_rule : ByteArray := prog_9_method_28_code
def yX7_rule : MethodName := ⟨RX7, "rule", "(I)I"⟩
abbrev cX7_geyser : ByteArray := prog_9_method_29_code
def yX7_geyser : MethodName := ⟨RX7, "geyser", "(II)I"⟩
abbrev cX7_row : ByteArray := prog_9_method_30_code
def yX7_row : MethodName := ⟨RX7, "row", "(II)I"⟩
abbrev cX7_puts : ByteArray := prog_9_method_31_code
def yX7_puts : MethodName := ⟨RX7, "puts", "(ZIII)I"⟩
abbrev cX7_isGood : ByteArray := prog_9_method_32_code
def yX7_isGood : MethodName := ⟨RX7, "isGood", "(II)Z"⟩
abbrev cX7_alter : ByteArray := prog_9_method_33_code
def yX7_alter : MethodName := ⟨RX7, "alter", "(III)I"⟩
abbrev cX7_tell : ByteArray := prog_9_method_34_code
def yX7_tell : MethodName := ⟨RX7, "tell", "(II)I"⟩
abbrev cX7_set : ByteArray := prog_9_method_35_code
def yX7_set : MethodName := ⟨RX7, "set", "(III)I"⟩
abbrev cX7_open : ByteArray := prog_9_method_36_code
def yX7_open : MethodName := ⟨RX7, "open", "(III)I"⟩
abbrev cX7_cut : ByteArray := prog_9_method_37_code
def yX7_cut : MethodName := ⟨RX7, "cut", "(I)I"⟩
abbrev cX7_adds : ByteArray := prog_9_method_38_code
def yX7_adds : MethodName := ⟨RX7, "adds", "(II)I"⟩
abbrev cX7_add : ByteArray := prog_9_method_39_code
def yX7_add : MethodName := ⟨RX7, "add", "(II)I"⟩
abbrev cX7_drop : ByteArray := prog_9_method_40_code
def yX7_drop : MethodName := ⟨RX7, "drop", "(I)I"⟩
abbrev cX7_hours : ByteArray := prog_9_method_41_code
def yX7_hours : MethodName := ⟨RX7, "hours", "(I)I"⟩
abbrev cX7_bitsOf : ByteArray := prog_9_method_42_code
def yX7_bitsOf : MethodName := ⟨RX7, "bitsOf", "(I)I"⟩
abbrev cX7_copies : ByteArray := prog_9_method_43_code
def yX7_copies : MethodName := ⟨RX7, "copies", "(II)V"⟩
abbrev cX7_feels : ByteArray := prog_9_method_44_code
def yX7_feels : MethodName := ⟨RX7, "feels", "(I)V"⟩
abbrev cX7_hoursGo : ByteArray := prog_9_method_45_code
def yX7_hoursGo : MethodName := ⟨RX7, "hoursGo", "(II)I"⟩
abbrev cX7_wentThen : ByteArray := prog_9_method_46_code
def yX7_wentThen : MethodName := ⟨RX7, "wentThen", "(I)I"⟩
abbrev cX7_runs : ByteArray := prog_9_method_47_code
def yX7_runs : MethodName := ⟨RX7, "runs", "(II)I"⟩
abbrev cX7_ahead : ByteArray := prog_9_method_48_code
def yX7_ahead : MethodName := ⟨RX7, "ahead", "(III)I"⟩
abbrev cX7_ups : ByteArray := prog_9_method_49_code
def yX7_ups : MethodName := ⟨RX7, "ups", "(I)I"⟩
abbrev cX7_when : ByteArray := prog_9_method_50_code
def yX7_when : MethodName := ⟨RX7, "when", "(I)I"⟩
abbrev cX7_again : ByteArray := prog_9_method_51_code
def yX7_again : MethodName := ⟨RX7, "again", "()I"⟩
abbrev cX7_whomBy : ByteArray := prog_9_method_52_code
def yX7_whomBy : MethodName := ⟨RX7, "whomBy", "(I)I"⟩
abbrev cX7_whom : ByteArray := prog_9_method_53_code
def yX7_whom : MethodName := ⟨RX7, "whom", "(III)I"⟩
abbrev cX7_route : ByteArray := prog_9_method_54_code
def yX7_route : MethodName := ⟨RX7, "route", "(II)I"⟩
abbrev cX7_swap : ByteArray := prog_9_method_55_code
def yX7_swap : MethodName := ⟨RX7, "swap", "(II)I"⟩
abbrev cX7_bears : ByteArray := prog_9_method_56_code
def yX7_bears : MethodName := ⟨RX7, "bears", "(II)I"⟩
abbrev cX7_flow : ByteArray := prog_9_method_57_code
def yX7_flow : MethodName := ⟨RX7, "flow", "(III)I"⟩
abbrev cX7_kind : ByteArray := prog_9_method_58_code
def yX7_kind : MethodName := ⟨RX7, "kind", "(III)I"⟩
abbrev cX7_figuresOf : ByteArray := prog_9_method_59_code
def yX7_figuresOf : MethodName := ⟨RX7, "figuresOf", "(III)V"⟩
abbrev cX7_goesBack : ByteArray := prog_9_method_60_code
def yX7_goesBack : MethodName := ⟨RX7, "goesBack", "(III)V"⟩
abbrev cX7_play : ByteArray := prog_9_method_61_code
def yX7_play : MethodName := ⟨RX7, "play", "(II)I"⟩
abbrev cX7_lowest : ByteArray := prog_9_method_62_code
def yX7_lowest : MethodName := ⟨RX7, "lowest", "(JJI)J"⟩
abbrev cX7_byNobody : ByteArray := prog_9_method_63_code
def yX7_byNobody : MethodName := ⟨RX7, "byNobody", "(IIII)J"⟩
abbrev cX7_luck : ByteArray := prog_9_method_64_code
def yX7_luck : MethodName := ⟨RX7, "luck", "(IIII)J"⟩
abbrev cX7_mean : ByteArray := prog_9_method_65_code
def yX7_mean : MethodName := ⟨RX7, "mean", "(III)J"⟩
abbrev cX7_see : ByteArray := prog_9_method_66_code
def yX7_see : MethodName := ⟨RX7, "see", "(III)I"⟩
abbrev cX7_forget : ByteArray := prog_9_method_67_code
def yX7_forget : MethodName := ⟨RX7, "forget", "(I)I"⟩
abbrev cX7_isAsSeen : ByteArray := prog_9_method_68_code
def yX7_isAsSeen : MethodName := ⟨RX7, "isAsSeen", "(I)Z"⟩
abbrev cX7_numbersAt : ByteArray := prog_9_method_69_code
def yX7_numbersAt : MethodName := ⟨RX7, "numbersAt", "(II)I"⟩
abbrev cX7_kinds : ByteArray := prog_9_method_70_code
def yX7_kinds : MethodName := ⟨RX7, "kinds", "(I)I"⟩
abbrev cX7_nerves : ByteArray := prog_9_method_71_code
def yX7_nerves : MethodName := ⟨RX7, "nerves", "(I)I"⟩
abbrev cX7_ask : ByteArray := prog_9_method_72_code
def yX7_ask : MethodName := ⟨RX7, "ask", "(II)I"⟩
abbrev cX7_season : ByteArray := prog_9_method_73_code
def yX7_season : MethodName := ⟨RX7, "season", "(III)I"⟩
abbrev cX7_keep : ByteArray := prog_9_method_74_code
def yX7_keep : MethodName := ⟨RX7, "keep", "(I)I"⟩
abbrev cX7_back : ByteArray := prog_9_method_75_code
def yX7_back : MethodName := ⟨RX7, "back", "(I)I"⟩
abbrev cX7_sheet : ByteArray := prog_9_method_76_code
def yX7_sheet : MethodName := ⟨RX7, "sheet", "(III)I"⟩
abbrev cX7_lay : ByteArray := prog_9_method_77_code
def yX7_lay : MethodName := ⟨RX7, "lay", "(III)I"⟩
abbrev cX7_read : ByteArray := prog_9_method_78_code
def yX7_read : MethodName := ⟨RX7, "read", "(IIII)I"⟩
abbrev cX7_torn : ByteArray := prog_9_method_79_code
def yX7_torn : MethodName := ⟨RX7, "torn", "()I"⟩
abbrev cX7_count : ByteArray := prog_9_method_80_code
def yX7_count : MethodName := ⟨RX7, "count", "(I)I"⟩
def RJ6 : String := "java/lang/Integer"
def TJ6 : u_T := fun k => match k with
  | _ => ("", "", "", false)
def tyJ6 : Nat → FieldType := fun k => match k with
  | _ => .int
theorem nmJ6 : ∀ a, a < 0 → ∀ b, b < 0 → a ≠ b → (TJ6 a).2.1 ≠ (TJ6 b).2.1 := by decide +kernel
theorem tyJ6_ok : ∀ k, k < 0 → parseFieldDescriptor (TJ6 k).2.2.1 = some (tyJ6 k) := by decide +kernel
abbrev cJ6_bitCount_0f7a4 : ByteArray := prog_10_method_49_code
def yJ6_bitCount_0f7a4 : MethodName := ⟨RJ6, "bitCount", "(I)I"⟩
def RJ9 : String := "java/lang/Math"
def TJ9 : u_T := fun k => match k with
  | _ => ("", "", "", false)
def tyJ9 : Nat → FieldType := fun k => match k with
  | _ => .int
theorem nmJ9 : ∀ a, a < 0 → ∀ b, b < 0 → a ≠ b → (TJ9 a).2.1 ≠ (TJ9 b).2.1 := by decide +kernel
theorem tyJ9_ok : ∀ k, k < 0 → parseFieldDescriptor (TJ9 k).2.2.1 = some (tyJ9 k) := by decide +kernel
abbrev cJ9_max_7cf53 : ByteArray := prog_11_method_65_code
def yJ9_max_7cf53 : MethodName := ⟨RJ9, "max", "(II)I"⟩
abbrev cJ9_min_7cf53 : ByteArray := prog_11_method_69_code
def yJ9_min_7cf53 : MethodName := ⟨RJ9, "min", "(II)I"⟩
def RJ0 : String := "java/lang/String"
def TJ0 : u_T := fun k => match k with
  | _ => ("", "", "", false)
def tyJ0 : Nat → FieldType := fun k => match k with
  | _ => .int
theorem nmJ0 : ∀ a, a < 0 → ∀ b, b < 0 → a ≠ b → (TJ0 a).2.1 ≠ (TJ0 b).2.1 := by decide +kernel
theorem tyJ0_ok : ∀ k, k < 0 → parseFieldDescriptor (TJ0 k).2.2.1 = some (tyJ0 k) := by decide +kernel
abbrev cJ0_length_8abf5 : ByteArray := prog_12_method_54_code
def yJ0_length_8abf5 : MethodName := ⟨RJ0, "length", "()I"⟩
abbrev cJ0_charAt_5068e : ByteArray := prog_12_method_56_code
def yJ0_charAt_5068e : MethodName := ⟨RJ0, "charAt", "(I)C"⟩
abbrev cJ0_coder_7d493 : ByteArray := prog_12_method_152_code
def yJ0_coder_7d493 : MethodName := ⟨RJ0, "coder", "()B"⟩
abbrev cJ0_isLatin1_aae02 : ByteArray := prog_12_method_154_code
def yJ0_isLatin1_aae02 : MethodName := ⟨RJ0, "isLatin1", "()Z"⟩
abbrev cJ0_checkIndex_df160 : ByteArray := prog_12_method_155_code
def yJ0_checkIndex_df160 : MethodName := ⟨RJ0, "checkIndex", "(II)V"⟩
def RJ1 : String := "java/lang/StringLatin1"
def TJ1 : u_T := fun k => match k with
  | _ => ("", "", "", false)
def tyJ1 : Nat → FieldType := fun k => match k with
  | _ => .int
theorem nmJ1 : ∀ a, a < 0 → ∀ b, b < 0 → a ≠ b → (TJ1 a).2.1 ≠ (TJ1 b).2.1 := by decide +kernel
theorem tyJ1_ok : ∀ k, k < 0 → parseFieldDescriptor (TJ1 k).2.2.1 = some (tyJ1 k) := by decide +kernel
abbrev cJ1_charAt_3b067 : ByteArray := prog_13_method_2_code
def yJ1_charAt_3b067 : MethodName := ⟨RJ1, "charAt", "([BI)C"⟩
def RJ2 : String := "java/lang/StringUTF16"
def TJ2 : u_T := fun k => match k with
  | _ => ("", "", "", false)
def tyJ2 : Nat → FieldType := fun k => match k with
  | _ => .int
theorem nmJ2 : ∀ a, a < 0 → ∀ b, b < 0 → a ≠ b → (TJ2 a).2.1 ≠ (TJ2 b).2.1 := by decide +kernel
theorem tyJ2_ok : ∀ k, k < 0 → parseFieldDescriptor (TJ2 k).2.2.1 = some (tyJ2 k) := by decide +kernel
abbrev cJ2_getChar_3b067 : ByteArray := prog_14_method_5_code
def yJ2_getChar_3b067 : MethodName := ⟨RJ2, "getChar", "([BI)C"⟩
abbrev cJ2_length_9d52b : ByteArray := prog_14_method_6_code
def yJ2_length_9d52b : MethodName := ⟨RJ2, "length", "([B)I"⟩
abbrev cJ2_charAt_3b067 : ByteArray := prog_14_method_83_code
def yJ2_charAt_3b067 : MethodName := ⟨RJ2, "charAt", "([BI)C"⟩
abbrev cJ2_checkIndex_2214a : ByteArray := prog_14_method_91_code
def yJ2_checkIndex_2214a : MethodName := ⟨RJ2, "checkIndex", "(I[B)V"⟩
def RJ3 : String := "jdk/internal/util/Preconditions"
def TJ3 : u_T := fun k => match k with
  | _ => ("", "", "", false)
def tyJ3 : Nat → FieldType := fun k => match k with
  | _ => .int
theorem nmJ3 : ∀ a, a < 0 → ∀ b, b < 0 → a ≠ b → (TJ3 a).2.1 ≠ (TJ3 b).2.1 := by decide +kernel
theorem tyJ3_ok : ∀ k, k < 0 → parseFieldDescriptor (TJ3 k).2.2.1 = some (tyJ3 k) := by decide +kernel
abbrev cJ3_checkIndex_8e157 : ByteArray := prog_15_method_11_code
def yJ3_checkIndex_8e157 : MethodName := ⟨RJ3, "checkIndex", "(IILjava/util/function/BiFunction;)I"⟩
def RL : String := "GeyserNervesLaw"
abbrev cL_law : ByteArray := code
def yL_law : MethodName := ⟨RL, "law", "([I)Z"⟩
end
section
theorem dX0_init_0 : decode cX0_init 0 = .ok (.aload_n 0, 1) := by decide +kernel
theorem dX0_init_1 : decode cX0_init 1 = .ok (.invokespecial 3, 3) := by decide +kernel
theorem dX0_init_4 : decode cX0_init 4 = .ok (.aload_n 0, 1) := by decide +kernel
theorem dX0_init_5 : decode cX0_init 5 = .ok (.iconst 4, 1) := by decide +kernel
theorem dX0_init_6 : decode cX0_init 6 = .ok (.anewarray 9, 3) := by decide +kernel
theorem dX0_init_9 : decode cX0_init 9 = .ok (.putfield 11, 3) := by decide +kernel
theorem dX0_init_12 : decode cX0_init 12 = .ok (.aload_n 0, 1) := by decide +kernel
theorem dX0_init_13 : decode cX0_init 13 = .ok (.bipush 12, 2) := by decide +kernel
theorem dX0_init_15 : decode cX0_init 15 = .ok (.newarray .int, 2) := by decide +kernel
theorem dX0_init_17 : decode cX0_init 17 = .ok (.putfield 17, 3) := by decide +kernel
theorem dX0_init_20 : decode cX0_init 20 = .ok (.aload_n 0, 1) := by decide +kernel
theorem dX0_init_21 : decode cX0_init 21 = .ok (.bipush 12, 2) := by decide +kernel
theorem dX0_init_23 : decode cX0_init 23 = .ok (.newarray .int, 2) := by decide +kernel
theorem dX0_init_25 : decode cX0_init 25 = .ok (.putfield 21, 3) := by decide +kernel
theorem dX0_init_28 : decode cX0_init 28 = .ok (.aload_n 0, 1) := by decide +kernel
theorem dX0_init_29 : decode cX0_init 29 = .ok (.bipush 8, 2) := by decide +kernel
theorem dX0_init_31 : decode cX0_init 31 = .ok (.putfield 24, 3) := by decide +kernel
theorem dX0_init_34 : decode cX0_init 34 = .ok (.aload_n 0, 1) := by decide +kernel
theorem dX0_init_35 : decode cX0_init 35 = .ok (.iconst 4, 1) := by decide +kernel
theorem dX0_init_36 : decode cX0_init 36 = .ok (.putfield 28, 3) := by decide +kernel
theorem dX0_init_39 : decode cX0_init 39 = .ok (.iconst 0, 1) := by decide +kernel
theorem dX0_init_40 : decode cX0_init 40 = .ok (.istore_n 1, 1) := by decide +kernel
theorem dX0_init_41 : decode cX0_init 41 = .ok (.iload_n 1, 1) := by decide +kernel
theorem dX0_init_42 : decode cX0_init 42 = .ok (.aload_n 0, 1) := by decide +kernel
theorem dX0_init_43 : decode cX0_init 43 = .ok (.getfield 11, 3) := by decide +kernel
theorem dX0_init_46 : decode cX0_init 46 = .ok (.arraylength, 1) := by decide +kernel
theorem dX0_init_47 : decode cX0_init 47 = .ok (.if_icmp .ge 22, 3) := by decide +kernel
theorem dX0_init_50 : decode cX0_init 50 = .ok (.aload_n 0, 1) := by decide +kernel
theorem dX0_init_51 : decode cX0_init 51 = .ok (.getfield 11, 3) := by decide +kernel
theorem dX0_init_54 : decode cX0_init 54 = .ok (.iload_n 1, 1) := by decide +kernel
theorem dX0_init_55 : decode cX0_init 55 = .ok (.new 9, 3) := by decide +kernel
theorem dX0_init_58 : decode cX0_init 58 = .ok (.dup, 1) := by decide +kernel
theorem dX0_init_59 : decode cX0_init 59 = .ok (.invokespecial 31, 3) := by decide +kernel
theorem dX0_init_62 : decode cX0_init 62 = .ok (.aastore, 1) := by decide +kernel
theorem dX0_init_63 : decode cX0_init 63 = .ok (.iinc 1 1, 3) := by decide +kernel
theorem dX0_init_66 : decode cX0_init 66 = .ok (.goto (-25), 3) := by decide +kernel
theorem dX0_init_69 : decode cX0_init 69 = .ok (.return_, 1) := by decide +kernel
theorem dX0_clear_0 : decode cX0_clear 0 = .ok (.aload_n 0, 1) := by decide +kernel
theorem dX0_clear_1 : decode cX0_clear 1 = .ok (.iconst 0, 1) := by decide +kernel
theorem dX0_clear_2 : decode cX0_clear 2 = .ok (.putfield 32, 3) := by decide +kernel
theorem dX0_clear_5 : decode cX0_clear 5 = .ok (.aload_n 0, 1) := by decide +kernel
theorem dX0_clear_6 : decode cX0_clear 6 = .ok (.iconst 0, 1) := by decide +kernel
theorem dX0_clear_7 : decode cX0_clear 7 = .ok (.putfield 35, 3) := by decide +kernel
theorem dX0_clear_10 : decode cX0_clear 10 = .ok (.aload_n 0, 1) := by decide +kernel
theorem dX0_clear_11 : decode cX0_clear 11 = .ok (.iconst 0, 1) := by decide +kernel
theorem dX0_clear_12 : decode cX0_clear 12 = .ok (.putfield 38, 3) := by decide +kernel
theorem dX0_clear_15 : decode cX0_clear 15 = .ok (.aload_n 0, 1) := by decide +kernel
theorem dX0_clear_16 : decode cX0_clear 16 = .ok (.bipush 8, 2) := by decide +kernel
theorem dX0_clear_18 : decode cX0_clear 18 = .ok (.putfield 24, 3) := by decide +kernel
theorem dX0_clear_21 : decode cX0_clear 21 = .ok (.aload_n 0, 1) := by decide +kernel
theorem dX0_clear_22 : decode cX0_clear 22 = .ok (.iconst 4, 1) := by decide +kernel
theorem dX0_clear_23 : decode cX0_clear 23 = .ok (.putfield 28, 3) := by decide +kernel
theorem dX0_clear_26 : decode cX0_clear 26 = .ok (.return_, 1) := by decide +kernel
theorem dX0_become_0 : decode cX0_become 0 = .ok (.aload_n 0, 1) := by decide +kernel
theorem dX0_become_1 : decode cX0_become 1 = .ok (.aload_n 1, 1) := by decide +kernel
theorem dX0_become_2 : decode cX0_become 2 = .ok (.getfield 32, 3) := by decide +kernel
theorem dX0_become_5 : decode cX0_become 5 = .ok (.putfield 32, 3) := by decide +kernel
theorem dX0_become_8 : decode cX0_become 8 = .ok (.aload_n 0, 1) := by decide +kernel
theorem dX0_become_9 : decode cX0_become 9 = .ok (.aload_n 1, 1) := by decide +kernel
theorem dX0_become_10 : decode cX0_become 10 = .ok (.getfield 35, 3) := by decide +kernel
theorem dX0_become_13 : decode cX0_become 13 = .ok (.putfield 35, 3) := by decide +kernel
theorem dX0_become_16 : decode cX0_become 16 = .ok (.aload_n 0, 1) := by decide +kernel
theorem dX0_become_17 : decode cX0_become 17 = .ok (.aload_n 1, 1) := by decide +kernel
theorem dX0_become_18 : decode cX0_become 18 = .ok (.getfield 38, 3) := by decide +kernel
theorem dX0_become_21 : decode cX0_become 21 = .ok (.putfield 38, 3) := by decide +kernel
theorem dX0_become_24 : decode cX0_become 24 = .ok (.aload_n 0, 1) := by decide +kernel
theorem dX0_become_25 : decode cX0_become 25 = .ok (.aload_n 1, 1) := by decide +kernel
theorem dX0_become_26 : decode cX0_become 26 = .ok (.getfield 24, 3) := by decide +kernel
theorem dX0_become_29 : decode cX0_become 29 = .ok (.putfield 24, 3) := by decide +kernel
theorem dX0_become_32 : decode cX0_become 32 = .ok (.aload_n 0, 1) := by decide +kernel
theorem dX0_become_33 : decode cX0_become 33 = .ok (.aload_n 1, 1) := by decide +kernel
theorem dX0_become_34 : decode cX0_become 34 = .ok (.getfield 28, 3) := by decide +kernel
theorem dX0_become_37 : decode cX0_become 37 = .ok (.putfield 28, 3) := by decide +kernel
theorem dX0_become_40 : decode cX0_become 40 = .ok (.iconst 0, 1) := by decide +kernel
theorem dX0_become_41 : decode cX0_become 41 = .ok (.istore_n 2, 1) := by decide +kernel
theorem dX0_become_42 : decode cX0_become 42 = .ok (.iload_n 2, 1) := by decide +kernel
theorem dX0_become_43 : decode cX0_become 43 = .ok (.aload_n 0, 1) := by decide +kernel
theorem dX0_become_44 : decode cX0_become 44 = .ok (.getfield 32, 3) := by decide +kernel
theorem dX0_become_47 : decode cX0_become 47 = .ok (.if_icmp .ge 24, 3) := by decide +kernel
theorem dX0_become_50 : decode cX0_become 50 = .ok (.aload_n 0, 1) := by decide +kernel
theorem dX0_become_51 : decode cX0_become 51 = .ok (.getfield 11, 3) := by decide +kernel
theorem dX0_become_54 : decode cX0_become 54 = .ok (.iload_n 2, 1) := by decide +kernel
theorem dX0_become_55 : decode cX0_become 55 = .ok (.aaload, 1) := by decide +kernel
theorem dX0_become_56 : decode cX0_become 56 = .ok (.aload_n 1, 1) := by decide +kernel
theorem dX0_become_57 : decode cX0_become 57 = .ok (.getfield 11, 3) := by decide +kernel
theorem dX0_become_60 : decode cX0_become 60 = .ok (.iload_n 2, 1) := by decide +kernel
theorem dX0_become_61 : decode cX0_become 61 = .ok (.aaload, 1) := by decide +kernel
theorem dX0_become_62 : decode cX0_become 62 = .ok (.invokevirtual 41, 3) := by decide +kernel
theorem dX0_become_65 : decode cX0_become 65 = .ok (.iinc 2 1, 3) := by decide +kernel
theorem dX0_become_68 : decode cX0_become 68 = .ok (.goto (-26), 3) := by decide +kernel
theorem dX0_become_71 : decode cX0_become 71 = .ok (.iconst 0, 1) := by decide +kernel
theorem dX0_become_72 : decode cX0_become 72 = .ok (.istore_n 2, 1) := by decide +kernel
theorem dX0_become_73 : decode cX0_become 73 = .ok (.iload_n 2, 1) := by decide +kernel
theorem dX0_become_74 : decode cX0_become 74 = .ok (.aload_n 0, 1) := by decide +kernel
theorem dX0_become_75 : decode cX0_become 75 = .ok (.getfield 35, 3) := by decide +kernel
theorem dX0_become_78 : decode cX0_become 78 = .ok (.if_icmp .ge 33, 3) := by decide +kernel
theorem dX0_become_81 : decode cX0_become 81 = .ok (.aload_n 0, 1) := by decide +kernel
theorem dX0_become_82 : decode cX0_become 82 = .ok (.getfield 17, 3) := by decide +kernel
theorem dX0_become_85 : decode cX0_become 85 = .ok (.iload_n 2, 1) := by decide +kernel
theorem dX0_become_86 : decode cX0_become 86 = .ok (.aload_n 1, 1) := by decide +kernel
theorem dX0_become_87 : decode cX0_become 87 = .ok (.getfield 17, 3) := by decide +kernel
theorem dX0_become_90 : decode cX0_become 90 = .ok (.iload_n 2, 1) := by decide +kernel
theorem dX0_become_91 : decode cX0_become 91 = .ok (.iaload, 1) := by decide +kernel
theorem dX0_become_92 : decode cX0_become 92 = .ok (.iastore, 1) := by decide +kernel
theorem dX0_become_93 : decode cX0_become 93 = .ok (.aload_n 0, 1) := by decide +kernel
theorem dX0_become_94 : decode cX0_become 94 = .ok (.getfield 21, 3) := by decide +kernel
theorem dX0_become_97 : decode cX0_become 97 = .ok (.iload_n 2, 1) := by decide +kernel
theorem dX0_become_98 : decode cX0_become 98 = .ok (.aload_n 1, 1) := by decide +kernel
theorem dX0_become_99 : decode cX0_become 99 = .ok (.getfield 21, 3) := by decide +kernel
theorem dX0_become_102 : decode cX0_become 102 = .ok (.iload_n 2, 1) := by decide +kernel
theorem dX0_become_103 : decode cX0_become 103 = .ok (.iaload, 1) := by decide +kernel
theorem dX0_become_104 : decode cX0_become 104 = .ok (.iastore, 1) := by decide +kernel
theorem dX0_become_105 : decode cX0_become 105 = .ok (.iinc 2 1, 3) := by decide +kernel
theorem dX0_become_108 : decode cX0_become 108 = .ok (.goto (-35), 3) := by decide +kernel
theorem dX0_become_111 : decode cX0_become 111 = .ok (.return_, 1) := by decide +kernel
theorem dX0_takeMoods_0 : decode cX0_takeMoods 0 = .ok (.iconst 0, 1) := by decide +kernel
theorem dX0_takeMoods_1 : decode cX0_takeMoods 1 = .ok (.istore_n 2, 1) := by decide +kernel
theorem dX0_takeMoods_2 : decode cX0_takeMoods 2 = .ok (.iload_n 2, 1) := by decide +kernel
theorem dX0_takeMoods_3 : decode cX0_takeMoods 3 = .ok (.aload_n 0, 1) := by decide +kernel
theorem dX0_takeMoods_4 : decode cX0_takeMoods 4 = .ok (.getfield 32, 3) := by decide +kernel
theorem dX0_takeMoods_7 : decode cX0_takeMoods 7 = .ok (.if_icmp .ge 24, 3) := by decide +kernel
theorem dX0_takeMoods_10 : decode cX0_takeMoods 10 = .ok (.aload_n 0, 1) := by decide +kernel
theorem dX0_takeMoods_11 : decode cX0_takeMoods 11 = .ok (.getfield 11, 3) := by decide +kernel
theorem dX0_takeMoods_14 : decode cX0_takeMoods 14 = .ok (.iload_n 2, 1) := by decide +kernel
theorem dX0_takeMoods_15 : decode cX0_takeMoods 15 = .ok (.aaload, 1) := by decide +kernel
theorem dX0_takeMoods_16 : decode cX0_takeMoods 16 = .ok (.aload_n 1, 1) := by decide +kernel
theorem dX0_takeMoods_17 : decode cX0_takeMoods 17 = .ok (.getfield 11, 3) := by decide +kernel
theorem dX0_takeMoods_20 : decode cX0_takeMoods 20 = .ok (.iload_n 2, 1) := by decide +kernel
theorem dX0_takeMoods_21 : decode cX0_takeMoods 21 = .ok (.aaload, 1) := by decide +kernel
theorem dX0_takeMoods_22 : decode cX0_takeMoods 22 = .ok (.invokevirtual 45, 3) := by decide +kernel
theorem dX0_takeMoods_25 : decode cX0_takeMoods 25 = .ok (.iinc 2 1, 3) := by decide +kernel
theorem dX0_takeMoods_28 : decode cX0_takeMoods 28 = .ok (.goto (-26), 3) := by decide +kernel
theorem dX0_takeMoods_31 : decode cX0_takeMoods 31 = .ok (.return_, 1) := by decide +kernel
theorem dX0_hasVent_0 : decode cX0_hasVent 0 = .ok (.iload_n 1, 1) := by decide +kernel
theorem dX0_hasVent_1 : decode cX0_hasVent 1 = .ok (.ifCond .lt 15, 3) := by decide +kernel
theorem dX0_hasVent_4 : decode cX0_hasVent 4 = .ok (.iload_n 1, 1) := by decide +kernel
theorem dX0_hasVent_5 : decode cX0_hasVent 5 = .ok (.aload_n 0, 1) := by decide +kernel
theorem dX0_hasVent_6 : decode cX0_hasVent 6 = .ok (.getfield 32, 3) := by decide +kernel
theorem dX0_hasVent_9 : decode cX0_hasVent 9 = .ok (.if_icmp .ge 7, 3) := by decide +kernel
theorem dX0_hasVent_12 : decode cX0_hasVent 12 = .ok (.iconst 1, 1) := by decide +kernel
theorem dX0_hasVent_13 : decode cX0_hasVent 13 = .ok (.goto 4, 3) := by decide +kernel
theorem dX0_hasVent_16 : decode cX0_hasVent 16 = .ok (.iconst 0, 1) := by decide +kernel
theorem dX0_hasVent_17 : decode cX0_hasVent 17 = .ok (.ireturn, 1) := by decide +kernel
theorem dX0_hasRow_0 : decode cX0_hasRow 0 = .ok (.iload_n 1, 1) := by decide +kernel
theorem dX0_hasRow_1 : decode cX0_hasRow 1 = .ok (.ifCond .lt 15, 3) := by decide +kernel
theorem dX0_hasRow_4 : decode cX0_hasRow 4 = .ok (.iload_n 1, 1) := by decide +kernel
theorem dX0_hasRow_5 : decode cX0_hasRow 5 = .ok (.aload_n 0, 1) := by decide +kernel
theorem dX0_hasRow_6 : decode cX0_hasRow 6 = .ok (.getfield 35, 3) := by decide +kernel
theorem dX0_hasRow_9 : decode cX0_hasRow 9 = .ok (.if_icmp .ge 7, 3) := by decide +kernel
theorem dX0_hasRow_12 : decode cX0_hasRow 12 = .ok (.iconst 1, 1) := by decide +kernel
theorem dX0_hasRow_13 : decode cX0_hasRow 13 = .ok (.goto 4, 3) := by decide +kernel
theorem dX0_hasRow_16 : decode cX0_hasRow 16 = .ok (.iconst 0, 1) := by decide +kernel
theorem dX0_hasRow_17 : decode cX0_hasRow 17 = .ok (.ireturn, 1) := by decide +kernel
theorem dX0_moreVents_0 : decode cX0_moreVents 0 = .ok (.aload_n 0, 1) := by decide +kernel
theorem dX0_moreVents_1 : decode cX0_moreVents 1 = .ok (.getfield 32, 3) := by decide +kernel
theorem dX0_moreVents_4 : decode cX0_moreVents 4 = .ok (.iconst 4, 1) := by decide +kernel
theorem dX0_moreVents_5 : decode cX0_moreVents 5 = .ok (.if_icmp .lt 5, 3) := by decide +kernel
theorem dX0_moreVents_8 : decode cX0_moreVents 8 = .ok (.iconst 0, 1) := by decide +kernel
theorem dX0_moreVents_9 : decode cX0_moreVents 9 = .ok (.ireturn, 1) := by decide +kernel
theorem dX0_moreVents_10 : decode cX0_moreVents 10 = .ok (.aload_n 0, 1) := by decide +kernel
theorem dX0_moreVents_11 : decode cX0_moreVents 11 = .ok (.getfield 11, 3) := by decide +kernel
theorem dX0_moreVents_14 : decode cX0_moreVents 14 = .ok (.aload_n 0, 1) := by decide +kernel
theorem dX0_moreVents_15 : decode cX0_moreVents 15 = .ok (.getfield 32, 3) := by decide +kernel
theorem dX0_moreVents_18 : decode cX0_moreVents 18 = .ok (.aaload, 1) := by decide +kernel
theorem dX0_moreVents_19 : decode cX0_moreVents 19 = .ok (.iload_n 1, 1) := by decide +kernel
theorem dX0_moreVents_20 : decode cX0_moreVents 20 = .ok (.iload_n 2, 1) := by decide +kernel
theorem dX0_moreVents_21 : decode cX0_moreVents 21 = .ok (.iload_n 3, 1) := by decide +kernel
theorem dX0_moreVents_22 : decode cX0_moreVents 22 = .ok (.invokevirtual 48, 3) := by decide +kernel
theorem dX0_moreVents_25 : decode cX0_moreVents 25 = .ok (.aload_n 0, 1) := by decide +kernel
theorem dX0_moreVents_26 : decode cX0_moreVents 26 = .ok (.dup, 1) := by decide +kernel
theorem dX0_moreVents_27 : decode cX0_moreVents 27 = .ok (.getfield 32, 3) := by decide +kernel
theorem dX0_moreVents_30 : decode cX0_moreVents 30 = .ok (.iconst 1, 1) := by decide +kernel
theorem dX0_moreVents_31 : decode cX0_moreVents 31 = .ok (.iadd, 1) := by decide +kernel
theorem dX0_moreVents_32 : decode cX0_moreVents 32 = .ok (.putfield 32, 3) := by decide +kernel
theorem dX0_moreVents_35 : decode cX0_moreVents 35 = .ok (.iconst 1, 1) := by decide +kernel
theorem dX0_moreVents_36 : decode cX0_moreVents 36 = .ok (.ireturn, 1) := by decide +kernel
theorem dX0_moreRows_0 : decode cX0_moreRows 0 = .ok (.aload_n 0, 1) := by decide +kernel
theorem dX0_moreRows_1 : decode cX0_moreRows 1 = .ok (.getfield 35, 3) := by decide +kernel
theorem dX0_moreRows_4 : decode cX0_moreRows 4 = .ok (.bipush 12, 2) := by decide +kernel
theorem dX0_moreRows_6 : decode cX0_moreRows 6 = .ok (.if_icmp .lt 5, 3) := by decide +kernel
theorem dX0_moreRows_9 : decode cX0_moreRows 9 = .ok (.iconst 0, 1) := by decide +kernel
theorem dX0_moreRows_10 : decode cX0_moreRows 10 = .ok (.ireturn, 1) := by decide +kernel
theorem dX0_moreRows_11 : decode cX0_moreRows 11 = .ok (.aload_n 0, 1) := by decide +kernel
theorem dX0_moreRows_12 : decode cX0_moreRows 12 = .ok (.getfield 17, 3) := by decide +kernel
theorem dX0_moreRows_15 : decode cX0_moreRows 15 = .ok (.aload_n 0, 1) := by decide +kernel
theorem dX0_moreRows_16 : decode cX0_moreRows 16 = .ok (.getfield 35, 3) := by decide +kernel
theorem dX0_moreRows_19 : decode cX0_moreRows 19 = .ok (.iload_n 1, 1) := by decide +kernel
theorem dX0_moreRows_20 : decode cX0_moreRows 20 = .ok (.iastore, 1) := by decide +kernel
theorem dX0_moreRows_21 : decode cX0_moreRows 21 = .ok (.aload_n 0, 1) := by decide +kernel
theorem dX0_moreRows_22 : decode cX0_moreRows 22 = .ok (.getfield 21, 3) := by decide +kernel
theorem dX0_moreRows_25 : decode cX0_moreRows 25 = .ok (.aload_n 0, 1) := by decide +kernel
theorem dX0_moreRows_26 : decode cX0_moreRows 26 = .ok (.getfield 35, 3) := by decide +kernel
theorem dX0_moreRows_29 : decode cX0_moreRows 29 = .ok (.iload_n 2, 1) := by decide +kernel
theorem dX0_moreRows_30 : decode cX0_moreRows 30 = .ok (.iastore, 1) := by decide +kernel
theorem dX0_moreRows_31 : decode cX0_moreRows 31 = .ok (.aload_n 0, 1) := by decide +kernel
theorem dX0_moreRows_32 : decode cX0_moreRows 32 = .ok (.dup, 1) := by decide +kernel
theorem dX0_moreRows_33 : decode cX0_moreRows 33 = .ok (.getfield 35, 3) := by decide +kernel
theorem dX0_moreRows_36 : decode cX0_moreRows 36 = .ok (.iconst 1, 1) := by decide +kernel
theorem dX0_moreRows_37 : decode cX0_moreRows 37 = .ok (.iadd, 1) := by decide +kernel
theorem dX0_moreRows_38 : decode cX0_moreRows 38 = .ok (.putfield 35, 3) := by decide +kernel
theorem dX0_moreRows_41 : decode cX0_moreRows 41 = .ok (.iconst 1, 1) := by decide +kernel
theorem dX0_moreRows_42 : decode cX0_moreRows 42 = .ok (.ireturn, 1) := by decide +kernel
theorem dX0_exchange_0 : decode cX0_exchange 0 = .ok (.aload_n 0, 1) := by decide +kernel
theorem dX0_exchange_1 : decode cX0_exchange 1 = .ok (.iload_n 1, 1) := by decide +kernel
theorem dX0_exchange_2 : decode cX0_exchange 2 = .ok (.invokevirtual 52, 3) := by decide +kernel
theorem dX0_exchange_5 : decode cX0_exchange 5 = .ok (.ifCond .eq 65, 3) := by decide +kernel
theorem dX0_exchange_8 : decode cX0_exchange 8 = .ok (.aload_n 0, 1) := by decide +kernel
theorem dX0_exchange_9 : decode cX0_exchange 9 = .ok (.iload_n 2, 1) := by decide +kernel
theorem dX0_exchange_10 : decode cX0_exchange 10 = .ok (.invokevirtual 52, 3) := by decide +kernel
theorem dX0_exchange_13 : decode cX0_exchange 13 = .ok (.ifCond .eq 57, 3) := by decide +kernel
theorem dX0_exchange_16 : decode cX0_exchange 16 = .ok (.aload_n 0, 1) := by decide +kernel
theorem dX0_exchange_17 : decode cX0_exchange 17 = .ok (.getfield 17, 3) := by decide +kernel
theorem dX0_exchange_20 : decode cX0_exchange 20 = .ok (.iload_n 1, 1) := by decide +kernel
theorem dX0_exchange_21 : decode cX0_exchange 21 = .ok (.iaload, 1) := by decide +kernel
theorem dX0_exchange_22 : decode cX0_exchange 22 = .ok (.istore_n 3, 1) := by decide +kernel
theorem dX0_exchange_23 : decode cX0_exchange 23 = .ok (.aload_n 0, 1) := by decide +kernel
theorem dX0_exchange_24 : decode cX0_exchange 24 = .ok (.getfield 21, 3) := by decide +kernel
theorem dX0_exchange_27 : decode cX0_exchange 27 = .ok (.iload_n 1, 1) := by decide +kernel
theorem dX0_exchange_28 : decode cX0_exchange 28 = .ok (.iaload, 1) := by decide +kernel
theorem dX0_exchange_29 : decode cX0_exchange 29 = .ok (.istore 4, 2) := by decide +kernel
theorem dX0_exchange_31 : decode cX0_exchange 31 = .ok (.aload_n 0, 1) := by decide +kernel
theorem dX0_exchange_32 : decode cX0_exchange 32 = .ok (.getfield 17, 3) := by decide +kernel
theorem dX0_exchange_35 : decode cX0_exchange 35 = .ok (.iload_n 1, 1) := by decide +kernel
theorem dX0_exchange_36 : decode cX0_exchange 36 = .ok (.aload_n 0, 1) := by decide +kernel
theorem dX0_exchange_37 : decode cX0_exchange 37 = .ok (.getfield 17, 3) := by decide +kernel
theorem dX0_exchange_40 : decode cX0_exchange 40 = .ok (.iload_n 2, 1) := by decide +kernel
theorem dX0_exchange_41 : decode cX0_exchange 41 = .ok (.iaload, 1) := by decide +kernel
theorem dX0_exchange_42 : decode cX0_exchange 42 = .ok (.iastore, 1) := by decide +kernel
theorem dX0_exchange_43 : decode cX0_exchange 43 = .ok (.aload_n 0, 1) := by decide +kernel
theorem dX0_exchange_44 : decode cX0_exchange 44 = .ok (.getfield 21, 3) := by decide +kernel
theorem dX0_exchange_47 : decode cX0_exchange 47 = .ok (.iload_n 1, 1) := by decide +kernel
theorem dX0_exchange_48 : decode cX0_exchange 48 = .ok (.aload_n 0, 1) := by decide +kernel
theorem dX0_exchange_49 : decode cX0_exchange 49 = .ok (.getfield 21, 3) := by decide +kernel
theorem dX0_exchange_52 : decode cX0_exchange 52 = .ok (.iload_n 2, 1) := by decide +kernel
theorem dX0_exchange_53 : decode cX0_exchange 53 = .ok (.iaload, 1) := by decide +kernel
theorem dX0_exchange_54 : decode cX0_exchange 54 = .ok (.iastore, 1) := by decide +kernel
theorem dX0_exchange_55 : decode cX0_exchange 55 = .ok (.aload_n 0, 1) := by decide +kernel
theorem dX0_exchange_56 : decode cX0_exchange 56 = .ok (.getfield 17, 3) := by decide +kernel
theorem dX0_exchange_59 : decode cX0_exchange 59 = .ok (.iload_n 2, 1) := by decide +kernel
theorem dX0_exchange_60 : decode cX0_exchange 60 = .ok (.iload_n 3, 1) := by decide +kernel
theorem dX0_exchange_61 : decode cX0_exchange 61 = .ok (.iastore, 1) := by decide +kernel
theorem dX0_exchange_62 : decode cX0_exchange 62 = .ok (.aload_n 0, 1) := by decide +kernel
theorem dX0_exchange_63 : decode cX0_exchange 63 = .ok (.getfield 21, 3) := by decide +kernel
theorem dX0_exchange_66 : decode cX0_exchange 66 = .ok (.iload_n 2, 1) := by decide +kernel
theorem dX0_exchange_67 : decode cX0_exchange 67 = .ok (.iload 4, 2) := by decide +kernel
theorem dX0_exchange_69 : decode cX0_exchange 69 = .ok (.iastore, 1) := by decide +kernel
theorem dX0_exchange_70 : decode cX0_exchange 70 = .ok (.return_, 1) := by decide +kernel
theorem dX0_choice_0 : decode cX0_choice 0 = .ok (.iload_n 1, 1) := by decide +kernel
theorem dX0_choice_1 : decode cX0_choice 1 = .ok (.aload_n 0, 1) := by decide +kernel
theorem dX0_choice_2 : decode cX0_choice 2 = .ok (.getfield 32, 3) := by decide +kernel
theorem dX0_choice_5 : decode cX0_choice 5 = .ok (.if_icmp .ge 7, 3) := by decide +kernel
theorem dX0_choice_8 : decode cX0_choice 8 = .ok (.iload_n 1, 1) := by decide +kernel
theorem dX0_choice_9 : decode cX0_choice 9 = .ok (.goto 4, 3) := by decide +kernel
theorem dX0_choice_12 : decode cX0_choice 12 = .ok (.iconst 4, 1) := by decide +kernel
theorem dX0_choice_13 : decode cX0_choice 13 = .ok (.ireturn, 1) := by decide +kernel
theorem dX0_shareOf_0 : decode cX0_shareOf 0 = .ok (.aload_n 0, 1) := by decide +kernel
theorem dX0_shareOf_1 : decode cX0_shareOf 1 = .ok (.getfield 32, 3) := by decide +kernel
theorem dX0_shareOf_4 : decode cX0_shareOf 4 = .ok (.ifCond .gt 5, 3) := by decide +kernel
theorem dX0_shareOf_7 : decode cX0_shareOf 7 = .ok (.iconst 0, 1) := by decide +kernel
theorem dX0_shareOf_8 : decode cX0_shareOf 8 = .ok (.ireturn, 1) := by decide +kernel
theorem dX0_shareOf_9 : decode cX0_shareOf 9 = .ok (.aload_n 0, 1) := by decide +kernel
theorem dX0_shareOf_10 : decode cX0_shareOf 10 = .ok (.getfield 24, 3) := by decide +kernel
theorem dX0_shareOf_13 : decode cX0_shareOf 13 = .ok (.aload_n 0, 1) := by decide +kernel
theorem dX0_shareOf_14 : decode cX0_shareOf 14 = .ok (.getfield 32, 3) := by decide +kernel
theorem dX0_shareOf_17 : decode cX0_shareOf 17 = .ok (.idiv, 1) := by decide +kernel
theorem dX0_shareOf_18 : decode cX0_shareOf 18 = .ok (.iload_n 1, 1) := by decide +kernel
theorem dX0_shareOf_19 : decode cX0_shareOf 19 = .ok (.aload_n 0, 1) := by decide +kernel
theorem dX0_shareOf_20 : decode cX0_shareOf 20 = .ok (.getfield 24, 3) := by decide +kernel
theorem dX0_shareOf_23 : decode cX0_shareOf 23 = .ok (.aload_n 0, 1) := by decide +kernel
theorem dX0_shareOf_24 : decode cX0_shareOf 24 = .ok (.getfield 32, 3) := by decide +kernel
theorem dX0_shareOf_27 : decode cX0_shareOf 27 = .ok (.irem, 1) := by decide +kernel
theorem dX0_shareOf_28 : decode cX0_shareOf 28 = .ok (.if_icmp .ge 7, 3) := by decide +kernel
theorem dX0_shareOf_31 : decode cX0_shareOf 31 = .ok (.iconst 1, 1) := by decide +kernel
theorem dX0_shareOf_32 : decode cX0_shareOf 32 = .ok (.goto 4, 3) := by decide +kernel
theorem dX0_shareOf_35 : decode cX0_shareOf 35 = .ok (.iconst 0, 1) := by decide +kernel
theorem dX0_shareOf_36 : decode cX0_shareOf 36 = .ok (.iadd, 1) := by decide +kernel
theorem dX0_shareOf_37 : decode cX0_shareOf 37 = .ok (.ireturn, 1) := by decide +kernel
theorem dX0_turn_0 : decode cX0_turn 0 = .ok (.aload_n 0, 1) := by decide +kernel
theorem dX0_turn_1 : decode cX0_turn 1 = .ok (.getfield 35, 3) := by decide +kernel
theorem dX0_turn_4 : decode cX0_turn 4 = .ok (.ifCond .le 15, 3) := by decide +kernel
theorem dX0_turn_7 : decode cX0_turn 7 = .ok (.aload_n 0, 1) := by decide +kernel
theorem dX0_turn_8 : decode cX0_turn 8 = .ok (.getfield 38, 3) := by decide +kernel
theorem dX0_turn_11 : decode cX0_turn 11 = .ok (.aload_n 0, 1) := by decide +kernel
theorem dX0_turn_12 : decode cX0_turn 12 = .ok (.getfield 35, 3) := by decide +kernel
theorem dX0_turn_15 : decode cX0_turn 15 = .ok (.irem, 1) := by decide +kernel
theorem dX0_turn_16 : decode cX0_turn 16 = .ok (.goto 5, 3) := by decide +kernel
theorem dX0_turn_19 : decode cX0_turn 19 = .ok (.bipush (-4), 2) := by decide +kernel
theorem dX0_turn_21 : decode cX0_turn 21 = .ok (.ireturn, 1) := by decide +kernel
theorem dX0_watchersNow_0 : decode cX0_watchersNow 0 = .ok (.aload_n 0, 1) := by decide +kernel
theorem dX0_watchersNow_1 : decode cX0_watchersNow 1 = .ok (.invokevirtual 56, 3) := by decide +kernel
theorem dX0_watchersNow_4 : decode cX0_watchersNow 4 = .ok (.istore_n 1, 1) := by decide +kernel
theorem dX0_watchersNow_5 : decode cX0_watchersNow 5 = .ok (.aload_n 0, 1) := by decide +kernel
theorem dX0_watchersNow_6 : decode cX0_watchersNow 6 = .ok (.iload_n 1, 1) := by decide +kernel
theorem dX0_watchersNow_7 : decode cX0_watchersNow 7 = .ok (.invokevirtual 52, 3) := by decide +kernel
theorem dX0_watchersNow_10 : decode cX0_watchersNow 10 = .ok (.ifCond .eq 12, 3) := by decide +kernel
theorem dX0_watchersNow_13 : decode cX0_watchersNow 13 = .ok (.aload_n 0, 1) := by decide +kernel
theorem dX0_watchersNow_14 : decode cX0_watchersNow 14 = .ok (.getfield 17, 3) := by decide +kernel
theorem dX0_watchersNow_17 : decode cX0_watchersNow 17 = .ok (.iload_n 1, 1) := by decide +kernel
theorem dX0_watchersNow_18 : decode cX0_watchersNow 18 = .ok (.iaload, 1) := by decide +kernel
theorem dX0_watchersNow_19 : decode cX0_watchersNow 19 = .ok (.goto 4, 3) := by decide +kernel
theorem dX0_watchersNow_22 : decode cX0_watchersNow 22 = .ok (.iconst 0, 1) := by decide +kernel
theorem dX0_watchersNow_23 : decode cX0_watchersNow 23 = .ok (.ireturn, 1) := by decide +kernel
theorem dX0_companyNow_0 : decode cX0_companyNow 0 = .ok (.aload_n 0, 1) := by decide +kernel
theorem dX0_companyNow_1 : decode cX0_companyNow 1 = .ok (.invokevirtual 56, 3) := by decide +kernel
theorem dX0_companyNow_4 : decode cX0_companyNow 4 = .ok (.istore_n 1, 1) := by decide +kernel
theorem dX0_companyNow_5 : decode cX0_companyNow 5 = .ok (.aload_n 0, 1) := by decide +kernel
theorem dX0_companyNow_6 : decode cX0_companyNow 6 = .ok (.iload_n 1, 1) := by decide +kernel
theorem dX0_companyNow_7 : decode cX0_companyNow 7 = .ok (.invokevirtual 52, 3) := by decide +kernel
theorem dX0_companyNow_10 : decode cX0_companyNow 10 = .ok (.ifCond .eq 12, 3) := by decide +kernel
theorem dX0_companyNow_13 : decode cX0_companyNow 13 = .ok (.aload_n 0, 1) := by decide +kernel
theorem dX0_companyNow_14 : decode cX0_companyNow 14 = .ok (.getfield 21, 3) := by decide +kernel
theorem dX0_companyNow_17 : decode cX0_companyNow 17 = .ok (.iload_n 1, 1) := by decide +kernel
theorem dX0_companyNow_18 : decode cX0_companyNow 18 = .ok (.iaload, 1) := by decide +kernel
theorem dX0_companyNow_19 : decode cX0_companyNow 19 = .ok (.goto 4, 3) := by decide +kernel
theorem dX0_companyNow_22 : decode cX0_companyNow 22 = .ok (.iconst 4, 1) := by decide +kernel
theorem dX0_companyNow_23 : decode cX0_companyNow 23 = .ok (.ireturn, 1) := by decide +kernel
theorem dX0_pass_0 : decode cX0_pass 0 = .ok (.iconst 0, 1) := by decide +kernel
theorem dX0_pass_1 : decode cX0_pass 1 = .ok (.istore_n 3, 1) := by decide +kernel
theorem dX0_pass_2 : decode cX0_pass 2 = .ok (.iconst 0, 1) := by decide +kernel
theorem dX0_pass_3 : decode cX0_pass 3 = .ok (.istore 4, 2) := by decide +kernel
theorem dX0_pass_5 : decode cX0_pass 5 = .ok (.iload 4, 2) := by decide +kernel
theorem dX0_pass_7 : decode cX0_pass 7 = .ok (.aload_n 0, 1) := by decide +kernel
theorem dX0_pass_8 : decode cX0_pass 8 = .ok (.getfield 32, 3) := by decide +kernel
theorem dX0_pass_11 : decode cX0_pass 11 = .ok (.if_icmp .ge 50, 3) := by decide +kernel
theorem dX0_pass_14 : decode cX0_pass 14 = .ok (.aload_n 0, 1) := by decide +kernel
theorem dX0_pass_15 : decode cX0_pass 15 = .ok (.getfield 11, 3) := by decide +kernel
theorem dX0_pass_18 : decode cX0_pass 18 = .ok (.iload 4, 2) := by decide +kernel
theorem dX0_pass_20 : decode cX0_pass 20 = .ok (.aaload, 1) := by decide +kernel
theorem dX0_pass_21 : decode cX0_pass 21 = .ok (.aload_n 0, 1) := by decide +kernel
theorem dX0_pass_22 : decode cX0_pass 22 = .ok (.iload 4, 2) := by decide +kernel
theorem dX0_pass_24 : decode cX0_pass 24 = .ok (.invokevirtual 60, 3) := by decide +kernel
theorem dX0_pass_27 : decode cX0_pass 27 = .ok (.iload_n 1, 1) := by decide +kernel
theorem dX0_pass_28 : decode cX0_pass 28 = .ok (.iload 4, 2) := by decide +kernel
theorem dX0_pass_30 : decode cX0_pass 30 = .ok (.iload_n 2, 1) := by decide +kernel
theorem dX0_pass_31 : decode cX0_pass 31 = .ok (.if_icmp .ne 10, 3) := by decide +kernel
theorem dX0_pass_34 : decode cX0_pass 34 = .ok (.aload_n 0, 1) := by decide +kernel
theorem dX0_pass_35 : decode cX0_pass 35 = .ok (.getfield 28, 3) := by decide +kernel
theorem dX0_pass_38 : decode cX0_pass 38 = .ok (.goto 4, 3) := by decide +kernel
theorem dX0_pass_41 : decode cX0_pass 41 = .ok (.iconst 0, 1) := by decide +kernel
theorem dX0_pass_42 : decode cX0_pass 42 = .ok (.invokevirtual 64, 3) := by decide +kernel
theorem dX0_pass_45 : decode cX0_pass 45 = .ok (.ifCond .eq 10, 3) := by decide +kernel
theorem dX0_pass_48 : decode cX0_pass 48 = .ok (.iload_n 3, 1) := by decide +kernel
theorem dX0_pass_49 : decode cX0_pass 49 = .ok (.iconst 1, 1) := by decide +kernel
theorem dX0_pass_50 : decode cX0_pass 50 = .ok (.iload 4, 2) := by decide +kernel
theorem dX0_pass_52 : decode cX0_pass 52 = .ok (.ishl, 1) := by decide +kernel
theorem dX0_pass_53 : decode cX0_pass 53 = .ok (.ior, 1) := by decide +kernel
theorem dX0_pass_54 : decode cX0_pass 54 = .ok (.istore_n 3, 1) := by decide +kernel
theorem dX0_pass_55 : decode cX0_pass 55 = .ok (.iinc 4 1, 3) := by decide +kernel
theorem dX0_pass_58 : decode cX0_pass 58 = .ok (.goto (-53), 3) := by decide +kernel
theorem dX0_pass_61 : decode cX0_pass 61 = .ok (.aload_n 0, 1) := by decide +kernel
theorem dX0_pass_62 : decode cX0_pass 62 = .ok (.dup, 1) := by decide +kernel
theorem dX0_pass_63 : decode cX0_pass 63 = .ok (.getfield 38, 3) := by decide +kernel
theorem dX0_pass_66 : decode cX0_pass 66 = .ok (.iconst 1, 1) := by decide +kernel
theorem dX0_pass_67 : decode cX0_pass 67 = .ok (.iadd, 1) := by decide +kernel
theorem dX0_pass_68 : decode cX0_pass 68 = .ok (.putfield 38, 3) := by decide +kernel
theorem dX0_pass_71 : decode cX0_pass 71 = .ok (.iload_n 3, 1) := by decide +kernel
theorem dX0_pass_72 : decode cX0_pass 72 = .ok (.ireturn, 1) := by decide +kernel
theorem dX0_passByPlan_0 : decode cX0_passByPlan 0 = .ok (.aload_n 0, 1) := by decide +kernel
theorem dX0_passByPlan_1 : decode cX0_passByPlan 1 = .ok (.aload_n 0, 1) := by decide +kernel
theorem dX0_passByPlan_2 : decode cX0_passByPlan 2 = .ok (.invokevirtual 68, 3) := by decide +kernel
theorem dX0_passByPlan_5 : decode cX0_passByPlan 5 = .ok (.aload_n 0, 1) := by decide +kernel
theorem dX0_passByPlan_6 : decode cX0_passByPlan 6 = .ok (.invokevirtual 71, 3) := by decide +kernel
theorem dX0_passByPlan_9 : decode cX0_passByPlan 9 = .ok (.invokevirtual 74, 3) := by decide +kernel
theorem dX0_passByPlan_12 : decode cX0_passByPlan 12 = .ok (.ireturn, 1) := by decide +kernel
theorem dX0_upsOfAll_0 : decode cX0_upsOfAll 0 = .ok (.iconst 0, 1) := by decide +kernel
theorem dX0_upsOfAll_1 : decode cX0_upsOfAll 1 = .ok (.istore_n 2, 1) := by decide +kernel
theorem dX0_upsOfAll_2 : decode cX0_upsOfAll 2 = .ok (.iconst 0, 1) := by decide +kernel
theorem dX0_upsOfAll_3 : decode cX0_upsOfAll 3 = .ok (.istore_n 3, 1) := by decide +kernel
theorem dX0_upsOfAll_4 : decode cX0_upsOfAll 4 = .ok (.iload_n 3, 1) := by decide +kernel
theorem dX0_upsOfAll_5 : decode cX0_upsOfAll 5 = .ok (.iload_n 1, 1) := by decide +kernel
theorem dX0_upsOfAll_6 : decode cX0_upsOfAll 6 = .ok (.if_icmp .ge 19, 3) := by decide +kernel
theorem dX0_upsOfAll_9 : decode cX0_upsOfAll 9 = .ok (.iload_n 2, 1) := by decide +kernel
theorem dX0_upsOfAll_10 : decode cX0_upsOfAll 10 = .ok (.aload_n 0, 1) := by decide +kernel
theorem dX0_upsOfAll_11 : decode cX0_upsOfAll 11 = .ok (.invokevirtual 77, 3) := by decide +kernel
theorem dX0_upsOfAll_14 : decode cX0_upsOfAll 14 = .ok (.invokestatic 80, 3) := by decide +kernel
theorem dX0_upsOfAll_17 : decode cX0_upsOfAll 17 = .ok (.iadd, 1) := by decide +kernel
theorem dX0_upsOfAll_18 : decode cX0_upsOfAll 18 = .ok (.istore_n 2, 1) := by decide +kernel
theorem dX0_upsOfAll_19 : decode cX0_upsOfAll 19 = .ok (.iinc 3 1, 3) := by decide +kernel
theorem dX0_upsOfAll_22 : decode cX0_upsOfAll 22 = .ok (.goto (-18), 3) := by decide +kernel
theorem dX0_upsOfAll_25 : decode cX0_upsOfAll 25 = .ok (.iload_n 2, 1) := by decide +kernel
theorem dX0_upsOfAll_26 : decode cX0_upsOfAll 26 = .ok (.ireturn, 1) := by decide +kernel
theorem dX0_upsOf_0 : decode cX0_upsOf 0 = .ok (.iconst 0, 1) := by decide +kernel
theorem dX0_upsOf_1 : decode cX0_upsOf 1 = .ok (.istore_n 3, 1) := by decide +kernel
theorem dX0_upsOf_2 : decode cX0_upsOf 2 = .ok (.iconst 0, 1) := by decide +kernel
theorem dX0_upsOf_3 : decode cX0_upsOf 3 = .ok (.istore 4, 2) := by decide +kernel
theorem dX0_upsOf_5 : decode cX0_upsOf 5 = .ok (.iload 4, 2) := by decide +kernel
theorem dX0_upsOf_7 : decode cX0_upsOf 7 = .ok (.iload_n 2, 1) := by decide +kernel
theorem dX0_upsOf_8 : decode cX0_upsOf 8 = .ok (.if_icmp .ge 20, 3) := by decide +kernel
theorem dX0_upsOf_11 : decode cX0_upsOf 11 = .ok (.iload_n 3, 1) := by decide +kernel
theorem dX0_upsOf_12 : decode cX0_upsOf 12 = .ok (.aload_n 0, 1) := by decide +kernel
theorem dX0_upsOf_13 : decode cX0_upsOf 13 = .ok (.invokevirtual 77, 3) := by decide +kernel
theorem dX0_upsOf_16 : decode cX0_upsOf 16 = .ok (.iload_n 1, 1) := by decide +kernel
theorem dX0_upsOf_17 : decode cX0_upsOf 17 = .ok (.invokestatic 85, 3) := by decide +kernel
theorem dX0_upsOf_20 : decode cX0_upsOf 20 = .ok (.iadd, 1) := by decide +kernel
theorem dX0_upsOf_21 : decode cX0_upsOf 21 = .ok (.istore_n 3, 1) := by decide +kernel
theorem dX0_upsOf_22 : decode cX0_upsOf 22 = .ok (.iinc 4 1, 3) := by decide +kernel
theorem dX0_upsOf_25 : decode cX0_upsOf 25 = .ok (.goto (-20), 3) := by decide +kernel
theorem dX0_upsOf_28 : decode cX0_upsOf 28 = .ok (.iload_n 3, 1) := by decide +kernel
theorem dX0_upsOf_29 : decode cX0_upsOf 29 = .ok (.ireturn, 1) := by decide +kernel
theorem dX0_tally_0 : decode cX0_tally 0 = .ok (.iconst 0, 1) := by decide +kernel
theorem dX0_tally_1 : decode cX0_tally 1 = .ok (.istore_n 3, 1) := by decide +kernel
theorem dX0_tally_2 : decode cX0_tally 2 = .ok (.iconst 0, 1) := by decide +kernel
theorem dX0_tally_3 : decode cX0_tally 3 = .ok (.istore 4, 2) := by decide +kernel
theorem dX0_tally_5 : decode cX0_tally 5 = .ok (.iconst 0, 1) := by decide +kernel
theorem dX0_tally_6 : decode cX0_tally 6 = .ok (.istore 5, 2) := by decide +kernel
theorem dX0_tally_8 : decode cX0_tally 8 = .ok (.aload_n 0, 1) := by decide +kernel
theorem dX0_tally_9 : decode cX0_tally 9 = .ok (.invokevirtual 88, 3) := by decide +kernel
theorem dX0_tally_12 : decode cX0_tally 12 = .ok (.istore 6, 2) := by decide +kernel
theorem dX0_tally_14 : decode cX0_tally 14 = .ok (.iconst 0, 1) := by decide +kernel
theorem dX0_tally_15 : decode cX0_tally 15 = .ok (.istore 7, 2) := by decide +kernel
theorem dX0_tally_17 : decode cX0_tally 17 = .ok (.iload 7, 2) := by decide +kernel
theorem dX0_tally_19 : decode cX0_tally 19 = .ok (.iload_n 1, 1) := by decide +kernel
theorem dX0_tally_20 : decode cX0_tally 20 = .ok (.if_icmp .ge 62, 3) := by decide +kernel
theorem dX0_tally_23 : decode cX0_tally 23 = .ok (.aload_n 0, 1) := by decide +kernel
theorem dX0_tally_24 : decode cX0_tally 24 = .ok (.invokevirtual 68, 3) := by decide +kernel
theorem dX0_tally_27 : decode cX0_tally 27 = .ok (.istore 8, 2) := by decide +kernel
theorem dX0_tally_29 : decode cX0_tally 29 = .ok (.aload_n 0, 1) := by decide +kernel
theorem dX0_tally_30 : decode cX0_tally 30 = .ok (.invokevirtual 77, 3) := by decide +kernel
theorem dX0_tally_33 : decode cX0_tally 33 = .ok (.istore 9, 2) := by decide +kernel
theorem dX0_tally_35 : decode cX0_tally 35 = .ok (.iload_n 3, 1) := by decide +kernel
theorem dX0_tally_36 : decode cX0_tally 36 = .ok (.iload 9, 2) := by decide +kernel
theorem dX0_tally_38 : decode cX0_tally 38 = .ok (.invokestatic 80, 3) := by decide +kernel
theorem dX0_tally_41 : decode cX0_tally 41 = .ok (.iadd, 1) := by decide +kernel
theorem dX0_tally_42 : decode cX0_tally 42 = .ok (.istore_n 3, 1) := by decide +kernel
theorem dX0_tally_43 : decode cX0_tally 43 = .ok (.iload 9, 2) := by decide +kernel
theorem dX0_tally_45 : decode cX0_tally 45 = .ok (.ifCond .eq 13, 3) := by decide +kernel
theorem dX0_tally_48 : decode cX0_tally 48 = .ok (.iload 4, 2) := by decide +kernel
theorem dX0_tally_50 : decode cX0_tally 50 = .ok (.iload 8, 2) := by decide +kernel
theorem dX0_tally_52 : decode cX0_tally 52 = .ok (.iadd, 1) := by decide +kernel
theorem dX0_tally_53 : decode cX0_tally 53 = .ok (.istore 4, 2) := by decide +kernel
theorem dX0_tally_55 : decode cX0_tally 55 = .ok (.goto 10, 3) := by decide +kernel
theorem dX0_tally_58 : decode cX0_tally 58 = .ok (.iload 5, 2) := by decide +kernel
theorem dX0_tally_60 : decode cX0_tally 60 = .ok (.iload 8, 2) := by decide +kernel
theorem dX0_tally_62 : decode cX0_tally 62 = .ok (.iadd, 1) := by decide +kernel
theorem dX0_tally_63 : decode cX0_tally 63 = .ok (.istore 5, 2) := by decide +kernel
theorem dX0_tally_65 : decode cX0_tally 65 = .ok (.iload 6, 2) := by decide +kernel
theorem dX0_tally_67 : decode cX0_tally 67 = .ok (.aload_n 0, 1) := by decide +kernel
theorem dX0_tally_68 : decode cX0_tally 68 = .ok (.invokevirtual 88, 3) := by decide +kernel
theorem dX0_tally_71 : decode cX0_tally 71 = .ok (.invokestatic 91, 3) := by decide +kernel
theorem dX0_tally_74 : decode cX0_tally 74 = .ok (.istore 6, 2) := by decide +kernel
theorem dX0_tally_76 : decode cX0_tally 76 = .ok (.iinc 7 1, 3) := by decide +kernel
theorem dX0_tally_79 : decode cX0_tally 79 = .ok (.goto (-62), 3) := by decide +kernel
theorem dX0_tally_82 : decode cX0_tally 82 = .ok (.iload_n 2, 1) := by decide +kernel
theorem dX0_tally_83 : decode cX0_tally 83 = .ok (.tableswitch 43 0 3 #[29, 31, 34, 37], 29) := by decide +kernel
theorem dX0_tally_112 : decode cX0_tally 112 = .ok (.iload_n 3, 1) := by decide +kernel
theorem dX0_tally_113 : decode cX0_tally 113 = .ok (.ireturn, 1) := by decide +kernel
theorem dX0_tally_114 : decode cX0_tally 114 = .ok (.iload 4, 2) := by decide +kernel
theorem dX0_tally_116 : decode cX0_tally 116 = .ok (.ireturn, 1) := by decide +kernel
theorem dX0_tally_117 : decode cX0_tally 117 = .ok (.iload 5, 2) := by decide +kernel
theorem dX0_tally_119 : decode cX0_tally 119 = .ok (.ireturn, 1) := by decide +kernel
theorem dX0_tally_120 : decode cX0_tally 120 = .ok (.aload_n 0, 1) := by decide +kernel
theorem dX0_tally_121 : decode cX0_tally 121 = .ok (.iconst 4, 1) := by decide +kernel
theorem dX0_tally_122 : decode cX0_tally 122 = .ok (.invokevirtual 96, 3) := by decide +kernel
theorem dX0_tally_125 : decode cX0_tally 125 = .ok (.ireturn, 1) := by decide +kernel
theorem dX0_tally_126 : decode cX0_tally 126 = .ok (.iload 6, 2) := by decide +kernel
theorem dX0_tally_128 : decode cX0_tally 128 = .ok (.ireturn, 1) := by decide +kernel
theorem dX0_standsAs_0 : decode cX0_standsAs 0 = .ok (.aload_n 0, 1) := by decide +kernel
theorem dX0_standsAs_1 : decode cX0_standsAs 1 = .ok (.invokevirtual 56, 3) := by decide +kernel
theorem dX0_standsAs_4 : decode cX0_standsAs 4 = .ok (.aload_n 1, 1) := by decide +kernel
theorem dX0_standsAs_5 : decode cX0_standsAs 5 = .ok (.invokevirtual 56, 3) := by decide +kernel
theorem dX0_standsAs_8 : decode cX0_standsAs 8 = .ok (.if_icmp .ne 14, 3) := by decide +kernel
theorem dX0_standsAs_11 : decode cX0_standsAs 11 = .ok (.aload_n 0, 1) := by decide +kernel
theorem dX0_standsAs_12 : decode cX0_standsAs 12 = .ok (.getfield 32, 3) := by decide +kernel
theorem dX0_standsAs_15 : decode cX0_standsAs 15 = .ok (.aload_n 1, 1) := by decide +kernel
theorem dX0_standsAs_16 : decode cX0_standsAs 16 = .ok (.getfield 32, 3) := by decide +kernel
theorem dX0_standsAs_19 : decode cX0_standsAs 19 = .ok (.if_icmp .eq 5, 3) := by decide +kernel
theorem dX0_standsAs_22 : decode cX0_standsAs 22 = .ok (.iconst 0, 1) := by decide +kernel
theorem dX0_standsAs_23 : decode cX0_standsAs 23 = .ok (.ireturn, 1) := by decide +kernel
theorem dX0_standsAs_24 : decode cX0_standsAs 24 = .ok (.iconst 0, 1) := by decide +kernel
theorem dX0_standsAs_25 : decode cX0_standsAs 25 = .ok (.istore_n 2, 1) := by decide +kernel
theorem dX0_standsAs_26 : decode cX0_standsAs 26 = .ok (.iload_n 2, 1) := by decide +kernel
theorem dX0_standsAs_27 : decode cX0_standsAs 27 = .ok (.aload_n 0, 1) := by decide +kernel
theorem dX0_standsAs_28 : decode cX0_standsAs 28 = .ok (.getfield 32, 3) := by decide +kernel
theorem dX0_standsAs_31 : decode cX0_standsAs 31 = .ok (.if_icmp .ge 53, 3) := by decide +kernel
theorem dX0_standsAs_34 : decode cX0_standsAs 34 = .ok (.aload_n 0, 1) := by decide +kernel
theorem dX0_standsAs_35 : decode cX0_standsAs 35 = .ok (.getfield 11, 3) := by decide +kernel
theorem dX0_standsAs_38 : decode cX0_standsAs 38 = .ok (.iload_n 2, 1) := by decide +kernel
theorem dX0_standsAs_39 : decode cX0_standsAs 39 = .ok (.aaload, 1) := by decide +kernel
theorem dX0_standsAs_40 : decode cX0_standsAs 40 = .ok (.getfield 99, 3) := by decide +kernel
theorem dX0_standsAs_43 : decode cX0_standsAs 43 = .ok (.aload_n 1, 1) := by decide +kernel
theorem dX0_standsAs_44 : decode cX0_standsAs 44 = .ok (.getfield 11, 3) := by decide +kernel
theorem dX0_standsAs_47 : decode cX0_standsAs 47 = .ok (.iload_n 2, 1) := by decide +kernel
theorem dX0_standsAs_48 : decode cX0_standsAs 48 = .ok (.aaload, 1) := by decide +kernel
theorem dX0_standsAs_49 : decode cX0_standsAs 49 = .ok (.getfield 99, 3) := by decide +kernel
theorem dX0_standsAs_52 : decode cX0_standsAs 52 = .ok (.if_icmp .ne 24, 3) := by decide +kernel
theorem dX0_standsAs_55 : decode cX0_standsAs 55 = .ok (.aload_n 0, 1) := by decide +kernel
theorem dX0_standsAs_56 : decode cX0_standsAs 56 = .ok (.getfield 11, 3) := by decide +kernel
theorem dX0_standsAs_59 : decode cX0_standsAs 59 = .ok (.iload_n 2, 1) := by decide +kernel
theorem dX0_standsAs_60 : decode cX0_standsAs 60 = .ok (.aaload, 1) := by decide +kernel
theorem dX0_standsAs_61 : decode cX0_standsAs 61 = .ok (.getfield 102, 3) := by decide +kernel
theorem dX0_standsAs_64 : decode cX0_standsAs 64 = .ok (.aload_n 1, 1) := by decide +kernel
theorem dX0_standsAs_65 : decode cX0_standsAs 65 = .ok (.getfield 11, 3) := by decide +kernel
theorem dX0_standsAs_68 : decode cX0_standsAs 68 = .ok (.iload_n 2, 1) := by decide +kernel
theorem dX0_standsAs_69 : decode cX0_standsAs 69 = .ok (.aaload, 1) := by decide +kernel
theorem dX0_standsAs_70 : decode cX0_standsAs 70 = .ok (.getfield 102, 3) := by decide +kernel
theorem dX0_standsAs_73 : decode cX0_standsAs 73 = .ok (.if_icmp .eq 5, 3) := by decide +kernel
theorem dX0_standsAs_76 : decode cX0_standsAs 76 = .ok (.iconst 0, 1) := by decide +kernel
theorem dX0_standsAs_77 : decode cX0_standsAs 77 = .ok (.ireturn, 1) := by decide +kernel
theorem dX0_standsAs_78 : decode cX0_standsAs 78 = .ok (.iinc 2 1, 3) := by decide +kernel
theorem dX0_standsAs_81 : decode cX0_standsAs 81 = .ok (.goto (-55), 3) := by decide +kernel
theorem dX0_standsAs_84 : decode cX0_standsAs 84 = .ok (.iconst 1, 1) := by decide +kernel
theorem dX0_standsAs_85 : decode cX0_standsAs 85 = .ok (.ireturn, 1) := by decide +kernel
theorem dX0_greatestHeat_0 : decode cX0_greatestHeat 0 = .ok (.iconst 0, 1) := by decide +kernel
theorem dX0_greatestHeat_1 : decode cX0_greatestHeat 1 = .ok (.istore_n 1, 1) := by decide +kernel
theorem dX0_greatestHeat_2 : decode cX0_greatestHeat 2 = .ok (.iconst 0, 1) := by decide +kernel
theorem dX0_greatestHeat_3 : decode cX0_greatestHeat 3 = .ok (.istore_n 2, 1) := by decide +kernel
theorem dX0_greatestHeat_4 : decode cX0_greatestHeat 4 = .ok (.iload_n 2, 1) := by decide +kernel
theorem dX0_greatestHeat_5 : decode cX0_greatestHeat 5 = .ok (.aload_n 0, 1) := by decide +kernel
theorem dX0_greatestHeat_6 : decode cX0_greatestHeat 6 = .ok (.getfield 32, 3) := by decide +kernel
theorem dX0_greatestHeat_9 : decode cX0_greatestHeat 9 = .ok (.if_icmp .ge 23, 3) := by decide +kernel
theorem dX0_greatestHeat_12 : decode cX0_greatestHeat 12 = .ok (.iload_n 1, 1) := by decide +kernel
theorem dX0_greatestHeat_13 : decode cX0_greatestHeat 13 = .ok (.aload_n 0, 1) := by decide +kernel
theorem dX0_greatestHeat_14 : decode cX0_greatestHeat 14 = .ok (.getfield 11, 3) := by decide +kernel
theorem dX0_greatestHeat_17 : decode cX0_greatestHeat 17 = .ok (.iload_n 2, 1) := by decide +kernel
theorem dX0_greatestHeat_18 : decode cX0_greatestHeat 18 = .ok (.aaload, 1) := by decide +kernel
theorem dX0_greatestHeat_19 : decode cX0_greatestHeat 19 = .ok (.getfield 99, 3) := by decide +kernel
theorem dX0_greatestHeat_22 : decode cX0_greatestHeat 22 = .ok (.invokestatic 91, 3) := by decide +kernel
theorem dX0_greatestHeat_25 : decode cX0_greatestHeat 25 = .ok (.istore_n 1, 1) := by decide +kernel
theorem dX0_greatestHeat_26 : decode cX0_greatestHeat 26 = .ok (.iinc 2 1, 3) := by decide +kernel
theorem dX0_greatestHeat_29 : decode cX0_greatestHeat 29 = .ok (.goto (-25), 3) := by decide +kernel
theorem dX0_greatestHeat_32 : decode cX0_greatestHeat 32 = .ok (.iload_n 1, 1) := by decide +kernel
theorem dX0_greatestHeat_33 : decode cX0_greatestHeat 33 = .ok (.ireturn, 1) := by decide +kernel
theorem dX0_sumOf_0 : decode cX0_sumOf 0 = .ok (.iconst 0, 1) := by decide +kernel
theorem dX0_sumOf_1 : decode cX0_sumOf 1 = .ok (.istore_n 2, 1) := by decide +kernel
theorem dX0_sumOf_2 : decode cX0_sumOf 2 = .ok (.iconst 0, 1) := by decide +kernel
theorem dX0_sumOf_3 : decode cX0_sumOf 3 = .ok (.istore_n 3, 1) := by decide +kernel
theorem dX0_sumOf_4 : decode cX0_sumOf 4 = .ok (.iload_n 3, 1) := by decide +kernel
theorem dX0_sumOf_5 : decode cX0_sumOf 5 = .ok (.aload_n 0, 1) := by decide +kernel
theorem dX0_sumOf_6 : decode cX0_sumOf 6 = .ok (.getfield 32, 3) := by decide +kernel
theorem dX0_sumOf_9 : decode cX0_sumOf 9 = .ok (.if_icmp .ge 22, 3) := by decide +kernel
theorem dX0_sumOf_12 : decode cX0_sumOf 12 = .ok (.iload_n 2, 1) := by decide +kernel
theorem dX0_sumOf_13 : decode cX0_sumOf 13 = .ok (.aload_n 0, 1) := by decide +kernel
theorem dX0_sumOf_14 : decode cX0_sumOf 14 = .ok (.getfield 11, 3) := by decide +kernel
theorem dX0_sumOf_17 : decode cX0_sumOf 17 = .ok (.iload_n 3, 1) := by decide +kernel
theorem dX0_sumOf_18 : decode cX0_sumOf 18 = .ok (.aaload, 1) := by decide +kernel
theorem dX0_sumOf_19 : decode cX0_sumOf 19 = .ok (.iload_n 1, 1) := by decide +kernel
theorem dX0_sumOf_20 : decode cX0_sumOf 20 = .ok (.invokevirtual 105, 3) := by decide +kernel
theorem dX0_sumOf_23 : decode cX0_sumOf 23 = .ok (.iadd, 1) := by decide +kernel
theorem dX0_sumOf_24 : decode cX0_sumOf 24 = .ok (.istore_n 2, 1) := by decide +kernel
theorem dX0_sumOf_25 : decode cX0_sumOf 25 = .ok (.iinc 3 1, 3) := by decide +kernel
theorem dX0_sumOf_28 : decode cX0_sumOf 28 = .ok (.goto (-24), 3) := by decide +kernel
theorem dX0_sumOf_31 : decode cX0_sumOf 31 = .ok (.iload_n 2, 1) := by decide +kernel
theorem dX0_sumOf_32 : decode cX0_sumOf 32 = .ok (.ireturn, 1) := by decide +kernel
theorem dX0_sumOfWatchers_0 : decode cX0_sumOfWatchers 0 = .ok (.iconst 0, 1) := by decide +kernel
theorem dX0_sumOfWatchers_1 : decode cX0_sumOfWatchers 1 = .ok (.istore_n 1, 1) := by decide +kernel
theorem dX0_sumOfWatchers_2 : decode cX0_sumOfWatchers 2 = .ok (.iconst 0, 1) := by decide +kernel
theorem dX0_sumOfWatchers_3 : decode cX0_sumOfWatchers 3 = .ok (.istore_n 2, 1) := by decide +kernel
theorem dX0_sumOfWatchers_4 : decode cX0_sumOfWatchers 4 = .ok (.iload_n 2, 1) := by decide +kernel
theorem dX0_sumOfWatchers_5 : decode cX0_sumOfWatchers 5 = .ok (.aload_n 0, 1) := by decide +kernel
theorem dX0_sumOfWatchers_6 : decode cX0_sumOfWatchers 6 = .ok (.getfield 35, 3) := by decide +kernel
theorem dX0_sumOfWatchers_9 : decode cX0_sumOfWatchers 9 = .ok (.if_icmp .ge 18, 3) := by decide +kernel
theorem dX0_sumOfWatchers_12 : decode cX0_sumOfWatchers 12 = .ok (.iload_n 1, 1) := by decide +kernel
theorem dX0_sumOfWatchers_13 : decode cX0_sumOfWatchers 13 = .ok (.aload_n 0, 1) := by decide +kernel
theorem dX0_sumOfWatchers_14 : decode cX0_sumOfWatchers 14 = .ok (.getfield 17, 3) := by decide +kernel
theorem dX0_sumOfWatchers_17 : decode cX0_sumOfWatchers 17 = .ok (.iload_n 2, 1) := by decide +kernel
theorem dX0_sumOfWatchers_18 : decode cX0_sumOfWatchers 18 = .ok (.iaload, 1) := by decide +kernel
theorem dX0_sumOfWatchers_19 : decode cX0_sumOfWatchers 19 = .ok (.iadd, 1) := by decide +kernel
theorem dX0_sumOfWatchers_20 : decode cX0_sumOfWatchers 20 = .ok (.istore_n 1, 1) := by decide +kernel
theorem dX0_sumOfWatchers_21 : decode cX0_sumOfWatchers 21 = .ok (.iinc 2 1, 3) := by decide +kernel
theorem dX0_sumOfWatchers_24 : decode cX0_sumOfWatchers 24 = .ok (.goto (-20), 3) := by decide +kernel
theorem dX0_sumOfWatchers_27 : decode cX0_sumOfWatchers 27 = .ok (.iload_n 1, 1) := by decide +kernel
theorem dX0_sumOfWatchers_28 : decode cX0_sumOfWatchers 28 = .ok (.ireturn, 1) := by decide +kernel
theorem dX1_init_0 : decode cX1_init 0 = .ok (.aload_n 0, 1) := by decide +kernel
theorem dX1_init_1 : decode cX1_init 1 = .ok (.invokespecial 3, 3) := by decide +kernel
theorem dX1_init_4 : decode cX1_init 4 = .ok (.aload_n 0, 1) := by decide +kernel
theorem dX1_init_5 : decode cX1_init 5 = .ok (.new 9, 3) := by decide +kernel
theorem dX1_init_8 : decode cX1_init 8 = .ok (.dup, 1) := by decide +kernel
theorem dX1_init_9 : decode cX1_init 9 = .ok (.invokespecial 11, 3) := by decide +kernel
theorem dX1_init_12 : decode cX1_init 12 = .ok (.putfield 12, 3) := by decide +kernel
theorem dX1_init_15 : decode cX1_init 15 = .ok (.return_, 1) := by decide +kernel
theorem dX1_takeAll_0 : decode cX1_takeAll 0 = .ok (.aload_n 0, 1) := by decide +kernel
theorem dX1_takeAll_1 : decode cX1_takeAll 1 = .ok (.iconst 0, 1) := by decide +kernel
theorem dX1_takeAll_2 : decode cX1_takeAll 2 = .ok (.putfield 18, 3) := by decide +kernel
theorem dX1_takeAll_5 : decode cX1_takeAll 5 = .ok (.aload_n 0, 1) := by decide +kernel
theorem dX1_takeAll_6 : decode cX1_takeAll 6 = .ok (.iconst 0, 1) := by decide +kernel
theorem dX1_takeAll_7 : decode cX1_takeAll 7 = .ok (.putfield 22, 3) := by decide +kernel
theorem dX1_takeAll_10 : decode cX1_takeAll 10 = .ok (.aload_n 0, 1) := by decide +kernel
theorem dX1_takeAll_11 : decode cX1_takeAll 11 = .ok (.iconst 0, 1) := by decide +kernel
theorem dX1_takeAll_12 : decode cX1_takeAll 12 = .ok (.putfield 25, 3) := by decide +kernel
theorem dX1_takeAll_15 : decode cX1_takeAll 15 = .ok (.aload_n 0, 1) := by decide +kernel
theorem dX1_takeAll_16 : decode cX1_takeAll 16 = .ok (.iconst 0, 1) := by decide +kernel
theorem dX1_takeAll_17 : decode cX1_takeAll 17 = .ok (.putfield 28, 3) := by decide +kernel
theorem dX1_takeAll_20 : decode cX1_takeAll 20 = .ok (.aload_n 0, 1) := by decide +kernel
theorem dX1_takeAll_21 : decode cX1_takeAll 21 = .ok (.iconst 0, 1) := by decide +kernel
theorem dX1_takeAll_22 : decode cX1_takeAll 22 = .ok (.putfield 32, 3) := by decide +kernel
theorem dX1_takeAll_25 : decode cX1_takeAll 25 = .ok (.aload_n 1, 1) := by decide +kernel
theorem dX1_takeAll_26 : decode cX1_takeAll 26 = .ok (.invokevirtual 35, 3) := by decide +kernel
theorem dX1_takeAll_29 : decode cX1_takeAll 29 = .ok (.iconst 0, 1) := by decide +kernel
theorem dX1_takeAll_30 : decode cX1_takeAll 30 = .ok (.istore_n 2, 1) := by decide +kernel
theorem dX1_takeAll_31 : decode cX1_takeAll 31 = .ok (.aload_n 0, 1) := by decide +kernel
theorem dX1_takeAll_32 : decode cX1_takeAll 32 = .ok (.invokevirtual 40, 3) := by decide +kernel
theorem dX1_takeAll_35 : decode cX1_takeAll 35 = .ok (.iconst 0, 1) := by decide +kernel
theorem dX1_takeAll_36 : decode cX1_takeAll 36 = .ok (.istore_n 3, 1) := by decide +kernel
theorem dX1_takeAll_37 : decode cX1_takeAll 37 = .ok (.iload_n 3, 1) := by decide +kernel
theorem dX1_takeAll_38 : decode cX1_takeAll 38 = .ok (.sipush 160, 3) := by decide +kernel
theorem dX1_takeAll_41 : decode cX1_takeAll 41 = .ok (.if_icmp .gt 31, 3) := by decide +kernel
theorem dX1_takeAll_44 : decode cX1_takeAll 44 = .ok (.aload_n 0, 1) := by decide +kernel
theorem dX1_takeAll_45 : decode cX1_takeAll 45 = .ok (.getfield 22, 3) := by decide +kernel
theorem dX1_takeAll_48 : decode cX1_takeAll 48 = .ok (.ifCond .ne 24, 3) := by decide +kernel
theorem dX1_takeAll_51 : decode cX1_takeAll 51 = .ok (.aload_n 0, 1) := by decide +kernel
theorem dX1_takeAll_52 : decode cX1_takeAll 52 = .ok (.getfield 43, 3) := by decide +kernel
theorem dX1_takeAll_55 : decode cX1_takeAll 55 = .ok (.ifCond .eq 17, 3) := by decide +kernel
theorem dX1_takeAll_58 : decode cX1_takeAll 58 = .ok (.aload_n 0, 1) := by decide +kernel
theorem dX1_takeAll_59 : decode cX1_takeAll 59 = .ok (.aload_n 1, 1) := by decide +kernel
theorem dX1_takeAll_60 : decode cX1_takeAll 60 = .ok (.invokevirtual 46, 3) := by decide +kernel
theorem dX1_takeAll_63 : decode cX1_takeAll 63 = .ok (.iinc 2 1, 3) := by decide +kernel
theorem dX1_takeAll_66 : decode cX1_takeAll 66 = .ok (.iinc 3 1, 3) := by decide +kernel
theorem dX1_takeAll_69 : decode cX1_takeAll 69 = .ok (.goto (-32), 3) := by decide +kernel
theorem dX1_takeAll_72 : decode cX1_takeAll 72 = .ok (.iload_n 2, 1) := by decide +kernel
theorem dX1_takeAll_73 : decode cX1_takeAll 73 = .ok (.ireturn, 1) := by decide +kernel
theorem dX1_takeLine_0 : decode cX1_takeLine 0 = .ok (.aload_n 0, 1) := by decide +kernel
theorem dX1_takeLine_1 : decode cX1_takeLine 1 = .ok (.invokevirtual 50, 3) := by decide +kernel
theorem dX1_takeLine_4 : decode cX1_takeLine 4 = .ok (.istore_n 2, 1) := by decide +kernel
theorem dX1_takeLine_5 : decode cX1_takeLine 5 = .ok (.iload_n 2, 1) := by decide +kernel
theorem dX1_takeLine_6 : decode cX1_takeLine 6 = .ok (.bipush 7, 2) := by decide +kernel
theorem dX1_takeLine_8 : decode cX1_takeLine 8 = .ok (.if_icmp .ne 15, 3) := by decide +kernel
theorem dX1_takeLine_11 : decode cX1_takeLine 11 = .ok (.aload_n 0, 1) := by decide +kernel
theorem dX1_takeLine_12 : decode cX1_takeLine 12 = .ok (.iconst 2, 1) := by decide +kernel
theorem dX1_takeLine_13 : decode cX1_takeLine 13 = .ok (.aload_n 0, 1) := by decide +kernel
theorem dX1_takeLine_14 : decode cX1_takeLine 14 = .ok (.getfield 54, 3) := by decide +kernel
theorem dX1_takeLine_17 : decode cX1_takeLine 17 = .ok (.invokevirtual 57, 3) := by decide +kernel
theorem dX1_takeLine_20 : decode cX1_takeLine 20 = .ok (.goto 49, 3) := by decide +kernel
theorem dX1_takeLine_23 : decode cX1_takeLine 23 = .ok (.iload_n 2, 1) := by decide +kernel
theorem dX1_takeLine_24 : decode cX1_takeLine 24 = .ok (.iconst 4, 1) := by decide +kernel
theorem dX1_takeLine_25 : decode cX1_takeLine 25 = .ok (.if_icmp .ne 11, 3) := by decide +kernel
theorem dX1_takeLine_28 : decode cX1_takeLine 28 = .ok (.aload_n 0, 1) := by decide +kernel
theorem dX1_takeLine_29 : decode cX1_takeLine 29 = .ok (.aload_n 1, 1) := by decide +kernel
theorem dX1_takeLine_30 : decode cX1_takeLine 30 = .ok (.invokevirtual 61, 3) := by decide +kernel
theorem dX1_takeLine_33 : decode cX1_takeLine 33 = .ok (.goto 36, 3) := by decide +kernel
theorem dX1_takeLine_36 : decode cX1_takeLine 36 = .ok (.iload_n 2, 1) := by decide +kernel
theorem dX1_takeLine_37 : decode cX1_takeLine 37 = .ok (.iconst 5, 1) := by decide +kernel
theorem dX1_takeLine_38 : decode cX1_takeLine 38 = .ok (.if_icmp .ne 11, 3) := by decide +kernel
theorem dX1_takeLine_41 : decode cX1_takeLine 41 = .ok (.aload_n 0, 1) := by decide +kernel
theorem dX1_takeLine_42 : decode cX1_takeLine 42 = .ok (.aload_n 1, 1) := by decide +kernel
theorem dX1_takeLine_43 : decode cX1_takeLine 43 = .ok (.invokevirtual 64, 3) := by decide +kernel
theorem dX1_takeLine_46 : decode cX1_takeLine 46 = .ok (.goto 23, 3) := by decide +kernel
theorem dX1_takeLine_49 : decode cX1_takeLine 49 = .ok (.iload_n 2, 1) := by decide +kernel
theorem dX1_takeLine_50 : decode cX1_takeLine 50 = .ok (.bipush 6, 2) := by decide +kernel
theorem dX1_takeLine_52 : decode cX1_takeLine 52 = .ok (.if_icmp .ne 11, 3) := by decide +kernel
theorem dX1_takeLine_55 : decode cX1_takeLine 55 = .ok (.aload_n 0, 1) := by decide +kernel
theorem dX1_takeLine_56 : decode cX1_takeLine 56 = .ok (.aload_n 1, 1) := by decide +kernel
theorem dX1_takeLine_57 : decode cX1_takeLine 57 = .ok (.invokevirtual 67, 3) := by decide +kernel
theorem dX1_takeLine_60 : decode cX1_takeLine 60 = .ok (.goto 9, 3) := by decide +kernel
theorem dX1_takeLine_63 : decode cX1_takeLine 63 = .ok (.aload_n 0, 1) := by decide +kernel
theorem dX1_takeLine_64 : decode cX1_takeLine 64 = .ok (.aload_n 1, 1) := by decide +kernel
theorem dX1_takeLine_65 : decode cX1_takeLine 65 = .ok (.iload_n 2, 1) := by decide +kernel
theorem dX1_takeLine_66 : decode cX1_takeLine 66 = .ok (.invokevirtual 70, 3) := by decide +kernel
theorem dX1_takeLine_69 : decode cX1_takeLine 69 = .ok (.return_, 1) := by decide +kernel
theorem dX1_takeFlow_0 : decode cX1_takeFlow 0 = .ok (.aload_n 0, 1) := by decide +kernel
theorem dX1_takeFlow_1 : decode cX1_takeFlow 1 = .ok (.getfield 28, 3) := by decide +kernel
theorem dX1_takeFlow_4 : decode cX1_takeFlow 4 = .ok (.ifCond .eq 12, 3) := by decide +kernel
theorem dX1_takeFlow_7 : decode cX1_takeFlow 7 = .ok (.aload_n 0, 1) := by decide +kernel
theorem dX1_takeFlow_8 : decode cX1_takeFlow 8 = .ok (.iconst 4, 1) := by decide +kernel
theorem dX1_takeFlow_9 : decode cX1_takeFlow 9 = .ok (.aload_n 0, 1) := by decide +kernel
theorem dX1_takeFlow_10 : decode cX1_takeFlow 10 = .ok (.getfield 54, 3) := by decide +kernel
theorem dX1_takeFlow_13 : decode cX1_takeFlow 13 = .ok (.invokevirtual 57, 3) := by decide +kernel
theorem dX1_takeFlow_16 : decode cX1_takeFlow 16 = .ok (.aload_n 0, 1) := by decide +kernel
theorem dX1_takeFlow_17 : decode cX1_takeFlow 17 = .ok (.iconst 1, 1) := by decide +kernel
theorem dX1_takeFlow_18 : decode cX1_takeFlow 18 = .ok (.putfield 28, 3) := by decide +kernel
theorem dX1_takeFlow_21 : decode cX1_takeFlow 21 = .ok (.aload_n 0, 1) := by decide +kernel
theorem dX1_takeFlow_22 : decode cX1_takeFlow 22 = .ok (.invokevirtual 74, 3) := by decide +kernel
theorem dX1_takeFlow_25 : decode cX1_takeFlow 25 = .ok (.aload_n 1, 1) := by decide +kernel
theorem dX1_takeFlow_26 : decode cX1_takeFlow 26 = .ok (.aload_n 0, 1) := by decide +kernel
theorem dX1_takeFlow_27 : decode cX1_takeFlow 27 = .ok (.iconst 0, 1) := by decide +kernel
theorem dX1_takeFlow_28 : decode cX1_takeFlow 28 = .ok (.bipush 40, 2) := by decide +kernel
theorem dX1_takeFlow_30 : decode cX1_takeFlow 30 = .ok (.invokevirtual 77, 3) := by decide +kernel
theorem dX1_takeFlow_33 : decode cX1_takeFlow 33 = .ok (.putfield 81, 3) := by decide +kernel
theorem dX1_takeFlow_36 : decode cX1_takeFlow 36 = .ok (.aload_n 0, 1) := by decide +kernel
theorem dX1_takeFlow_37 : decode cX1_takeFlow 37 = .ok (.invokevirtual 84, 3) := by decide +kernel
theorem dX1_takeFlow_40 : decode cX1_takeFlow 40 = .ok (.return_, 1) := by decide +kernel
theorem dX1_takeCalm_0 : decode cX1_takeCalm 0 = .ok (.aload_n 0, 1) := by decide +kernel
theorem dX1_takeCalm_1 : decode cX1_takeCalm 1 = .ok (.getfield 32, 3) := by decide +kernel
theorem dX1_takeCalm_4 : decode cX1_takeCalm 4 = .ok (.ifCond .eq 12, 3) := by decide +kernel
theorem dX1_takeCalm_7 : decode cX1_takeCalm 7 = .ok (.aload_n 0, 1) := by decide +kernel
theorem dX1_takeCalm_8 : decode cX1_takeCalm 8 = .ok (.iconst 4, 1) := by decide +kernel
theorem dX1_takeCalm_9 : decode cX1_takeCalm 9 = .ok (.aload_n 0, 1) := by decide +kernel
theorem dX1_takeCalm_10 : decode cX1_takeCalm 10 = .ok (.getfield 54, 3) := by decide +kernel
theorem dX1_takeCalm_13 : decode cX1_takeCalm 13 = .ok (.invokevirtual 57, 3) := by decide +kernel
theorem dX1_takeCalm_16 : decode cX1_takeCalm 16 = .ok (.aload_n 0, 1) := by decide +kernel
theorem dX1_takeCalm_17 : decode cX1_takeCalm 17 = .ok (.iconst 1, 1) := by decide +kernel
theorem dX1_takeCalm_18 : decode cX1_takeCalm 18 = .ok (.putfield 32, 3) := by decide +kernel
theorem dX1_takeCalm_21 : decode cX1_takeCalm 21 = .ok (.aload_n 0, 1) := by decide +kernel
theorem dX1_takeCalm_22 : decode cX1_takeCalm 22 = .ok (.invokevirtual 74, 3) := by decide +kernel
theorem dX1_takeCalm_25 : decode cX1_takeCalm 25 = .ok (.aload_n 1, 1) := by decide +kernel
theorem dX1_takeCalm_26 : decode cX1_takeCalm 26 = .ok (.aload_n 0, 1) := by decide +kernel
theorem dX1_takeCalm_27 : decode cX1_takeCalm 27 = .ok (.iconst 0, 1) := by decide +kernel
theorem dX1_takeCalm_28 : decode cX1_takeCalm 28 = .ok (.bipush 20, 2) := by decide +kernel
theorem dX1_takeCalm_30 : decode cX1_takeCalm 30 = .ok (.invokevirtual 77, 3) := by decide +kernel
theorem dX1_takeCalm_33 : decode cX1_takeCalm 33 = .ok (.putfield 87, 3) := by decide +kernel
theorem dX1_takeCalm_36 : decode cX1_takeCalm 36 = .ok (.aload_n 0, 1) := by decide +kernel
theorem dX1_takeCalm_37 : decode cX1_takeCalm 37 = .ok (.invokevirtual 84, 3) := by decide +kernel
theorem dX1_takeCalm_40 : decode cX1_takeCalm 40 = .ok (.return_, 1) := by decide +kernel
theorem dX1_takeHour_0 : decode cX1_takeHour 0 = .ok (.aload_n 1, 1) := by decide +kernel
theorem dX1_takeHour_1 : decode cX1_takeHour 1 = .ok (.getfield 90, 3) := by decide +kernel
theorem dX1_takeHour_4 : decode cX1_takeHour 4 = .ok (.bipush 12, 2) := by decide +kernel
theorem dX1_takeHour_6 : decode cX1_takeHour 6 = .ok (.if_icmp .lt 12, 3) := by decide +kernel
theorem dX1_takeHour_9 : decode cX1_takeHour 9 = .ok (.aload_n 0, 1) := by decide +kernel
theorem dX1_takeHour_10 : decode cX1_takeHour 10 = .ok (.iconst 5, 1) := by decide +kernel
theorem dX1_takeHour_11 : decode cX1_takeHour 11 = .ok (.aload_n 0, 1) := by decide +kernel
theorem dX1_takeHour_12 : decode cX1_takeHour 12 = .ok (.getfield 54, 3) := by decide +kernel
theorem dX1_takeHour_15 : decode cX1_takeHour 15 = .ok (.invokevirtual 57, 3) := by decide +kernel
theorem dX1_takeHour_18 : decode cX1_takeHour 18 = .ok (.aload_n 0, 1) := by decide +kernel
theorem dX1_takeHour_19 : decode cX1_takeHour 19 = .ok (.invokevirtual 74, 3) := by decide +kernel
theorem dX1_takeHour_22 : decode cX1_takeHour 22 = .ok (.aload_n 0, 1) := by decide +kernel
theorem dX1_takeHour_23 : decode cX1_takeHour 23 = .ok (.iconst 0, 1) := by decide +kernel
theorem dX1_takeHour_24 : decode cX1_takeHour 24 = .ok (.bipush 9, 2) := by decide +kernel
theorem dX1_takeHour_26 : decode cX1_takeHour 26 = .ok (.invokevirtual 77, 3) := by decide +kernel
theorem dX1_takeHour_29 : decode cX1_takeHour 29 = .ok (.istore_n 2, 1) := by decide +kernel
theorem dX1_takeHour_30 : decode cX1_takeHour 30 = .ok (.aload_n 0, 1) := by decide +kernel
theorem dX1_takeHour_31 : decode cX1_takeHour 31 = .ok (.iconst 0, 1) := by decide +kernel
theorem dX1_takeHour_32 : decode cX1_takeHour 32 = .ok (.iconst 4, 1) := by decide +kernel
theorem dX1_takeHour_33 : decode cX1_takeHour 33 = .ok (.invokevirtual 77, 3) := by decide +kernel
theorem dX1_takeHour_36 : decode cX1_takeHour 36 = .ok (.istore_n 3, 1) := by decide +kernel
theorem dX1_takeHour_37 : decode cX1_takeHour 37 = .ok (.aload_n 0, 1) := by decide +kernel
theorem dX1_takeHour_38 : decode cX1_takeHour 38 = .ok (.invokevirtual 84, 3) := by decide +kernel
theorem dX1_takeHour_41 : decode cX1_takeHour 41 = .ok (.aload_n 1, 1) := by decide +kernel
theorem dX1_takeHour_42 : decode cX1_takeHour 42 = .ok (.iload_n 2, 1) := by decide +kernel
theorem dX1_takeHour_43 : decode cX1_takeHour 43 = .ok (.iload_n 3, 1) := by decide +kernel
theorem dX1_takeHour_44 : decode cX1_takeHour 44 = .ok (.invokevirtual 93, 3) := by decide +kernel
theorem dX1_takeHour_47 : decode cX1_takeHour 47 = .ok (.pop, 1) := by decide +kernel
theorem dX1_takeHour_48 : decode cX1_takeHour 48 = .ok (.return_, 1) := by decide +kernel
theorem dX1_takeVent_0 : decode cX1_takeVent 0 = .ok (.aload_n 1, 1) := by decide +kernel
theorem dX1_takeVent_1 : decode cX1_takeVent 1 = .ok (.getfield 97, 3) := by decide +kernel
theorem dX1_takeVent_4 : decode cX1_takeVent 4 = .ok (.iconst 4, 1) := by decide +kernel
theorem dX1_takeVent_5 : decode cX1_takeVent 5 = .ok (.if_icmp .lt 12, 3) := by decide +kernel
theorem dX1_takeVent_8 : decode cX1_takeVent 8 = .ok (.aload_n 0, 1) := by decide +kernel
theorem dX1_takeVent_9 : decode cX1_takeVent 9 = .ok (.iconst 5, 1) := by decide +kernel
theorem dX1_takeVent_10 : decode cX1_takeVent 10 = .ok (.aload_n 0, 1) := by decide +kernel
theorem dX1_takeVent_11 : decode cX1_takeVent 11 = .ok (.getfield 54, 3) := by decide +kernel
theorem dX1_takeVent_14 : decode cX1_takeVent 14 = .ok (.invokevirtual 57, 3) := by decide +kernel
theorem dX1_takeVent_17 : decode cX1_takeVent 17 = .ok (.aload_n 0, 1) := by decide +kernel
theorem dX1_takeVent_18 : decode cX1_takeVent 18 = .ok (.invokevirtual 74, 3) := by decide +kernel
theorem dX1_takeVent_21 : decode cX1_takeVent 21 = .ok (.aload_n 0, 1) := by decide +kernel
theorem dX1_takeVent_22 : decode cX1_takeVent 22 = .ok (.iconst 1, 1) := by decide +kernel
theorem dX1_takeVent_23 : decode cX1_takeVent 23 = .ok (.bipush 60, 2) := by decide +kernel
theorem dX1_takeVent_25 : decode cX1_takeVent 25 = .ok (.invokevirtual 77, 3) := by decide +kernel
theorem dX1_takeVent_28 : decode cX1_takeVent 28 = .ok (.istore_n 3, 1) := by decide +kernel
theorem dX1_takeVent_29 : decode cX1_takeVent 29 = .ok (.aload_n 0, 1) := by decide +kernel
theorem dX1_takeVent_30 : decode cX1_takeVent 30 = .ok (.iconst 0, 1) := by decide +kernel
theorem dX1_takeVent_31 : decode cX1_takeVent 31 = .ok (.bipush 9, 2) := by decide +kernel
theorem dX1_takeVent_33 : decode cX1_takeVent 33 = .ok (.invokevirtual 77, 3) := by decide +kernel
theorem dX1_takeVent_36 : decode cX1_takeVent 36 = .ok (.istore 4, 2) := by decide +kernel
theorem dX1_takeVent_38 : decode cX1_takeVent 38 = .ok (.aload_n 0, 1) := by decide +kernel
theorem dX1_takeVent_39 : decode cX1_takeVent 39 = .ok (.invokevirtual 84, 3) := by decide +kernel
theorem dX1_takeVent_42 : decode cX1_takeVent 42 = .ok (.aload_n 1, 1) := by decide +kernel
theorem dX1_takeVent_43 : decode cX1_takeVent 43 = .ok (.iload_n 2, 1) := by decide +kernel
theorem dX1_takeVent_44 : decode cX1_takeVent 44 = .ok (.iload_n 3, 1) := by decide +kernel
theorem dX1_takeVent_45 : decode cX1_takeVent 45 = .ok (.iload 4, 2) := by decide +kernel
theorem dX1_takeVent_47 : decode cX1_takeVent 47 = .ok (.invokevirtual 100, 3) := by decide +kernel
theorem dX1_takeVent_50 : decode cX1_takeVent 50 = .ok (.pop, 1) := by decide +kernel
theorem dX1_takeVent_51 : decode cX1_takeVent 51 = .ok (.return_, 1) := by decide +kernel
theorem dX1_passName_0 : decode cX1_passName 0 = .ok (.aload_n 0, 1) := by decide +kernel
theorem dX1_passName_1 : decode cX1_passName 1 = .ok (.getfield 22, 3) := by decide +kernel
theorem dX1_passName_4 : decode cX1_passName 4 = .ok (.ifCond .ne 7, 3) := by decide +kernel
theorem dX1_passName_7 : decode cX1_passName 7 = .ok (.aload_n 0, 1) := by decide +kernel
theorem dX1_passName_8 : decode cX1_passName 8 = .ok (.invokevirtual 40, 3) := by decide +kernel
theorem dX1_passName_11 : decode cX1_passName 11 = .ok (.return_, 1) := by decide +kernel
theorem dX1_takeNumber_0 : decode cX1_takeNumber 0 = .ok (.aload_n 0, 1) := by decide +kernel
theorem dX1_takeNumber_1 : decode cX1_takeNumber 1 = .ok (.getfield 22, 3) := by decide +kernel
theorem dX1_takeNumber_4 : decode cX1_takeNumber 4 = .ok (.ifCond .eq 5, 3) := by decide +kernel
theorem dX1_takeNumber_7 : decode cX1_takeNumber 7 = .ok (.iload_n 1, 1) := by decide +kernel
theorem dX1_takeNumber_8 : decode cX1_takeNumber 8 = .ok (.ireturn, 1) := by decide +kernel
theorem dX1_takeNumber_9 : decode cX1_takeNumber 9 = .ok (.aload_n 0, 1) := by decide +kernel
theorem dX1_takeNumber_10 : decode cX1_takeNumber 10 = .ok (.getfield 43, 3) := by decide +kernel
theorem dX1_takeNumber_13 : decode cX1_takeNumber 13 = .ok (.iconst 2, 1) := by decide +kernel
theorem dX1_takeNumber_14 : decode cX1_takeNumber 14 = .ok (.if_icmp .eq 14, 3) := by decide +kernel
theorem dX1_takeNumber_17 : decode cX1_takeNumber 17 = .ok (.aload_n 0, 1) := by decide +kernel
theorem dX1_takeNumber_18 : decode cX1_takeNumber 18 = .ok (.iconst 2, 1) := by decide +kernel
theorem dX1_takeNumber_19 : decode cX1_takeNumber 19 = .ok (.aload_n 0, 1) := by decide +kernel
theorem dX1_takeNumber_20 : decode cX1_takeNumber 20 = .ok (.getfield 54, 3) := by decide +kernel
theorem dX1_takeNumber_23 : decode cX1_takeNumber 23 = .ok (.invokevirtual 57, 3) := by decide +kernel
theorem dX1_takeNumber_26 : decode cX1_takeNumber 26 = .ok (.iload_n 1, 1) := by decide +kernel
theorem dX1_takeNumber_27 : decode cX1_takeNumber 27 = .ok (.ireturn, 1) := by decide +kernel
theorem dX1_takeNumber_28 : decode cX1_takeNumber 28 = .ok (.aload_n 0, 1) := by decide +kernel
theorem dX1_takeNumber_29 : decode cX1_takeNumber 29 = .ok (.getfield 104, 3) := by decide +kernel
theorem dX1_takeNumber_32 : decode cX1_takeNumber 32 = .ok (.iload_n 1, 1) := by decide +kernel
theorem dX1_takeNumber_33 : decode cX1_takeNumber 33 = .ok (.iload_n 2, 1) := by decide +kernel
theorem dX1_takeNumber_34 : decode cX1_takeNumber 34 = .ok (.invokestatic 107, 3) := by decide +kernel
theorem dX1_takeNumber_37 : decode cX1_takeNumber 37 = .ok (.ifCond .ne 14, 3) := by decide +kernel
theorem dX1_takeNumber_40 : decode cX1_takeNumber 40 = .ok (.aload_n 0, 1) := by decide +kernel
theorem dX1_takeNumber_41 : decode cX1_takeNumber 41 = .ok (.iconst 3, 1) := by decide +kernel
theorem dX1_takeNumber_42 : decode cX1_takeNumber 42 = .ok (.aload_n 0, 1) := by decide +kernel
theorem dX1_takeNumber_43 : decode cX1_takeNumber 43 = .ok (.getfield 54, 3) := by decide +kernel
theorem dX1_takeNumber_46 : decode cX1_takeNumber 46 = .ok (.invokevirtual 57, 3) := by decide +kernel
theorem dX1_takeNumber_49 : decode cX1_takeNumber 49 = .ok (.iload_n 1, 1) := by decide +kernel
theorem dX1_takeNumber_50 : decode cX1_takeNumber 50 = .ok (.ireturn, 1) := by decide +kernel
theorem dX1_takeNumber_51 : decode cX1_takeNumber 51 = .ok (.aload_n 0, 1) := by decide +kernel
theorem dX1_takeNumber_52 : decode cX1_takeNumber 52 = .ok (.getfield 104, 3) := by decide +kernel
theorem dX1_takeNumber_55 : decode cX1_takeNumber 55 = .ok (.istore_n 3, 1) := by decide +kernel
theorem dX1_takeNumber_56 : decode cX1_takeNumber 56 = .ok (.aload_n 0, 1) := by decide +kernel
theorem dX1_takeNumber_57 : decode cX1_takeNumber 57 = .ok (.invokevirtual 40, 3) := by decide +kernel
theorem dX1_takeNumber_60 : decode cX1_takeNumber 60 = .ok (.iload_n 3, 1) := by decide +kernel
theorem dX1_takeNumber_61 : decode cX1_takeNumber 61 = .ok (.ireturn, 1) := by decide +kernel
theorem dX1_takeStop_0 : decode cX1_takeStop 0 = .ok (.aload_n 0, 1) := by decide +kernel
theorem dX1_takeStop_1 : decode cX1_takeStop 1 = .ok (.getfield 22, 3) := by decide +kernel
theorem dX1_takeStop_4 : decode cX1_takeStop 4 = .ok (.ifCond .ne 20, 3) := by decide +kernel
theorem dX1_takeStop_7 : decode cX1_takeStop 7 = .ok (.aload_n 0, 1) := by decide +kernel
theorem dX1_takeStop_8 : decode cX1_takeStop 8 = .ok (.getfield 43, 3) := by decide +kernel
theorem dX1_takeStop_11 : decode cX1_takeStop 11 = .ok (.iconst 3, 1) := by decide +kernel
theorem dX1_takeStop_12 : decode cX1_takeStop 12 = .ok (.if_icmp .eq 12, 3) := by decide +kernel
theorem dX1_takeStop_15 : decode cX1_takeStop 15 = .ok (.aload_n 0, 1) := by decide +kernel
theorem dX1_takeStop_16 : decode cX1_takeStop 16 = .ok (.iconst 2, 1) := by decide +kernel
theorem dX1_takeStop_17 : decode cX1_takeStop 17 = .ok (.aload_n 0, 1) := by decide +kernel
theorem dX1_takeStop_18 : decode cX1_takeStop 18 = .ok (.getfield 54, 3) := by decide +kernel
theorem dX1_takeStop_21 : decode cX1_takeStop 21 = .ok (.invokevirtual 57, 3) := by decide +kernel
theorem dX1_takeStop_24 : decode cX1_takeStop 24 = .ok (.aload_n 0, 1) := by decide +kernel
theorem dX1_takeStop_25 : decode cX1_takeStop 25 = .ok (.getfield 22, 3) := by decide +kernel
theorem dX1_takeStop_28 : decode cX1_takeStop 28 = .ok (.ifCond .ne 7, 3) := by decide +kernel
theorem dX1_takeStop_31 : decode cX1_takeStop 31 = .ok (.aload_n 0, 1) := by decide +kernel
theorem dX1_takeStop_32 : decode cX1_takeStop 32 = .ok (.invokevirtual 40, 3) := by decide +kernel
theorem dX1_takeStop_35 : decode cX1_takeStop 35 = .ok (.return_, 1) := by decide +kernel
theorem dX1_fail_0 : decode cX1_fail 0 = .ok (.aload_n 0, 1) := by decide +kernel
theorem dX1_fail_1 : decode cX1_fail 1 = .ok (.getfield 22, 3) := by decide +kernel
theorem dX1_fail_4 : decode cX1_fail 4 = .ok (.ifCond .ne 13, 3) := by decide +kernel
theorem dX1_fail_7 : decode cX1_fail 7 = .ok (.aload_n 0, 1) := by decide +kernel
theorem dX1_fail_8 : decode cX1_fail 8 = .ok (.iload_n 1, 1) := by decide +kernel
theorem dX1_fail_9 : decode cX1_fail 9 = .ok (.putfield 22, 3) := by decide +kernel
theorem dX1_fail_12 : decode cX1_fail 12 = .ok (.aload_n 0, 1) := by decide +kernel
theorem dX1_fail_13 : decode cX1_fail 13 = .ok (.iload_n 2, 1) := by decide +kernel
theorem dX1_fail_14 : decode cX1_fail 14 = .ok (.putfield 25, 3) := by decide +kernel
theorem dX1_fail_17 : decode cX1_fail 17 = .ok (.return_, 1) := by decide +kernel
theorem dX1_advance_0 : decode cX1_advance 0 = .ok (.iconst 0, 1) := by decide +kernel
theorem dX1_advance_1 : decode cX1_advance 1 = .ok (.istore_n 1, 1) := by decide +kernel
theorem dX1_advance_2 : decode cX1_advance 2 = .ok (.iload_n 1, 1) := by decide +kernel
theorem dX1_advance_3 : decode cX1_advance 3 = .ok (.sipush 160, 3) := by decide +kernel
theorem dX1_advance_6 : decode cX1_advance 6 = .ok (.if_icmp .ge 35, 3) := by decide +kernel
theorem dX1_advance_9 : decode cX1_advance 9 = .ok (.aload_n 0, 1) := by decide +kernel
theorem dX1_advance_10 : decode cX1_advance 10 = .ok (.getfield 12, 3) := by decide +kernel
theorem dX1_advance_13 : decode cX1_advance 13 = .ok (.aload_n 0, 1) := by decide +kernel
theorem dX1_advance_14 : decode cX1_advance 14 = .ok (.getfield 18, 3) := by decide +kernel
theorem dX1_advance_17 : decode cX1_advance 17 = .ok (.invokevirtual 110, 3) := by decide +kernel
theorem dX1_advance_20 : decode cX1_advance 20 = .ok (.bipush 32, 2) := by decide +kernel
theorem dX1_advance_22 : decode cX1_advance 22 = .ok (.if_icmp .ne 19, 3) := by decide +kernel
theorem dX1_advance_25 : decode cX1_advance 25 = .ok (.aload_n 0, 1) := by decide +kernel
theorem dX1_advance_26 : decode cX1_advance 26 = .ok (.dup, 1) := by decide +kernel
theorem dX1_advance_27 : decode cX1_advance 27 = .ok (.getfield 18, 3) := by decide +kernel
theorem dX1_advance_30 : decode cX1_advance 30 = .ok (.iconst 1, 1) := by decide +kernel
theorem dX1_advance_31 : decode cX1_advance 31 = .ok (.iadd, 1) := by decide +kernel
theorem dX1_advance_32 : decode cX1_advance 32 = .ok (.putfield 18, 3) := by decide +kernel
theorem dX1_advance_35 : decode cX1_advance 35 = .ok (.iinc 1 1, 3) := by decide +kernel
theorem dX1_advance_38 : decode cX1_advance 38 = .ok (.goto (-36), 3) := by decide +kernel
theorem dX1_advance_41 : decode cX1_advance 41 = .ok (.aload_n 0, 1) := by decide +kernel
theorem dX1_advance_42 : decode cX1_advance 42 = .ok (.aload_n 0, 1) := by decide +kernel
theorem dX1_advance_43 : decode cX1_advance 43 = .ok (.getfield 18, 3) := by decide +kernel
theorem dX1_advance_46 : decode cX1_advance 46 = .ok (.putfield 54, 3) := by decide +kernel
theorem dX1_advance_49 : decode cX1_advance 49 = .ok (.aload_n 0, 1) := by decide +kernel
theorem dX1_advance_50 : decode cX1_advance 50 = .ok (.iconst 0, 1) := by decide +kernel
theorem dX1_advance_51 : decode cX1_advance 51 = .ok (.putfield 104, 3) := by decide +kernel
theorem dX1_advance_54 : decode cX1_advance 54 = .ok (.aload_n 0, 1) := by decide +kernel
theorem dX1_advance_55 : decode cX1_advance 55 = .ok (.getfield 12, 3) := by decide +kernel
theorem dX1_advance_58 : decode cX1_advance 58 = .ok (.aload_n 0, 1) := by decide +kernel
theorem dX1_advance_59 : decode cX1_advance 59 = .ok (.getfield 18, 3) := by decide +kernel
theorem dX1_advance_62 : decode cX1_advance 62 = .ok (.invokevirtual 110, 3) := by decide +kernel
theorem dX1_advance_65 : decode cX1_advance 65 = .ok (.istore_n 1, 1) := by decide +kernel
theorem dX1_advance_66 : decode cX1_advance 66 = .ok (.aload_n 0, 1) := by decide +kernel
theorem dX1_advance_67 : decode cX1_advance 67 = .ok (.dup, 1) := by decide +kernel
theorem dX1_advance_68 : decode cX1_advance 68 = .ok (.getfield 18, 3) := by decide +kernel
theorem dX1_advance_71 : decode cX1_advance 71 = .ok (.iconst 1, 1) := by decide +kernel
theorem dX1_advance_72 : decode cX1_advance 72 = .ok (.iadd, 1) := by decide +kernel
theorem dX1_advance_73 : decode cX1_advance 73 = .ok (.putfield 18, 3) := by decide +kernel
theorem dX1_advance_76 : decode cX1_advance 76 = .ok (.iload_n 1, 1) := by decide +kernel
theorem dX1_advance_77 : decode cX1_advance 77 = .ok (.ifCond .ge 11, 3) := by decide +kernel
theorem dX1_advance_80 : decode cX1_advance 80 = .ok (.aload_n 0, 1) := by decide +kernel
theorem dX1_advance_81 : decode cX1_advance 81 = .ok (.iconst 0, 1) := by decide +kernel
theorem dX1_advance_82 : decode cX1_advance 82 = .ok (.putfield 43, 3) := by decide +kernel
theorem dX1_advance_85 : decode cX1_advance 85 = .ok (.goto 185, 3) := by decide +kernel
theorem dX1_advance_88 : decode cX1_advance 88 = .ok (.iload_n 1, 1) := by decide +kernel
theorem dX1_advance_89 : decode cX1_advance 89 = .ok (.bipush 59, 2) := by decide +kernel
theorem dX1_advance_91 : decode cX1_advance 91 = .ok (.if_icmp .ne 11, 3) := by decide +kernel
theorem dX1_advance_94 : decode cX1_advance 94 = .ok (.aload_n 0, 1) := by decide +kernel
theorem dX1_advance_95 : decode cX1_advance 95 = .ok (.iconst 3, 1) := by decide +kernel
theorem dX1_advance_96 : decode cX1_advance 96 = .ok (.putfield 43, 3) := by decide +kernel
theorem dX1_advance_99 : decode cX1_advance 99 = .ok (.goto 171, 3) := by decide +kernel
theorem dX1_advance_102 : decode cX1_advance 102 = .ok (.iload_n 1, 1) := by decide +kernel
theorem dX1_advance_103 : decode cX1_advance 103 = .ok (.invokestatic 114, 3) := by decide +kernel
theorem dX1_advance_106 : decode cX1_advance 106 = .ok (.ifCond .eq 53, 3) := by decide +kernel
theorem dX1_advance_109 : decode cX1_advance 109 = .ok (.aload_n 0, 1) := by decide +kernel
theorem dX1_advance_110 : decode cX1_advance 110 = .ok (.iconst 1, 1) := by decide +kernel
theorem dX1_advance_111 : decode cX1_advance 111 = .ok (.putfield 43, 3) := by decide +kernel
theorem dX1_advance_114 : decode cX1_advance 114 = .ok (.iconst 0, 1) := by decide +kernel
theorem dX1_advance_115 : decode cX1_advance 115 = .ok (.istore_n 2, 1) := by decide +kernel
theorem dX1_advance_116 : decode cX1_advance 116 = .ok (.iload_n 2, 1) := by decide +kernel
theorem dX1_advance_117 : decode cX1_advance 117 = .ok (.sipush 160, 3) := by decide +kernel
theorem dX1_advance_120 : decode cX1_advance 120 = .ok (.if_icmp .ge 36, 3) := by decide +kernel
theorem dX1_advance_123 : decode cX1_advance 123 = .ok (.aload_n 0, 1) := by decide +kernel
theorem dX1_advance_124 : decode cX1_advance 124 = .ok (.getfield 12, 3) := by decide +kernel
theorem dX1_advance_127 : decode cX1_advance 127 = .ok (.aload_n 0, 1) := by decide +kernel
theorem dX1_advance_128 : decode cX1_advance 128 = .ok (.getfield 18, 3) := by decide +kernel
theorem dX1_advance_131 : decode cX1_advance 131 = .ok (.invokevirtual 110, 3) := by decide +kernel
theorem dX1_advance_134 : decode cX1_advance 134 = .ok (.invokestatic 114, 3) := by decide +kernel
theorem dX1_advance_137 : decode cX1_advance 137 = .ok (.ifCond .eq 19, 3) := by decide +kernel
theorem dX1_advance_140 : decode cX1_advance 140 = .ok (.aload_n 0, 1) := by decide +kernel
theorem dX1_advance_141 : decode cX1_advance 141 = .ok (.dup, 1) := by decide +kernel
theorem dX1_advance_142 : decode cX1_advance 142 = .ok (.getfield 18, 3) := by decide +kernel
theorem dX1_advance_145 : decode cX1_advance 145 = .ok (.iconst 1, 1) := by decide +kernel
theorem dX1_advance_146 : decode cX1_advance 146 = .ok (.iadd, 1) := by decide +kernel
theorem dX1_advance_147 : decode cX1_advance 147 = .ok (.putfield 18, 3) := by decide +kernel
theorem dX1_advance_150 : decode cX1_advance 150 = .ok (.iinc 2 1, 3) := by decide +kernel
theorem dX1_advance_153 : decode cX1_advance 153 = .ok (.goto (-37), 3) := by decide +kernel
theorem dX1_advance_156 : decode cX1_advance 156 = .ok (.goto 114, 3) := by decide +kernel
theorem dX1_advance_159 : decode cX1_advance 159 = .ok (.iload_n 1, 1) := by decide +kernel
theorem dX1_advance_160 : decode cX1_advance 160 = .ok (.invokestatic 118, 3) := by decide +kernel
theorem dX1_advance_163 : decode cX1_advance 163 = .ok (.ifCond .eq 102, 3) := by decide +kernel
theorem dX1_advance_166 : decode cX1_advance 166 = .ok (.aload_n 0, 1) := by decide +kernel
theorem dX1_advance_167 : decode cX1_advance 167 = .ok (.iload_n 1, 1) := by decide +kernel
theorem dX1_advance_168 : decode cX1_advance 168 = .ok (.bipush 48, 2) := by decide +kernel
theorem dX1_advance_170 : decode cX1_advance 170 = .ok (.isub, 1) := by decide +kernel
theorem dX1_advance_171 : decode cX1_advance 171 = .ok (.putfield 104, 3) := by decide +kernel
theorem dX1_advance_174 : decode cX1_advance 174 = .ok (.iconst 0, 1) := by decide +kernel
theorem dX1_advance_175 : decode cX1_advance 175 = .ok (.istore_n 2, 1) := by decide +kernel
theorem dX1_advance_176 : decode cX1_advance 176 = .ok (.iload_n 2, 1) := by decide +kernel
theorem dX1_advance_177 : decode cX1_advance 177 = .ok (.iconst 2, 1) := by decide +kernel
theorem dX1_advance_178 : decode cX1_advance 178 = .ok (.if_icmp .ge 62, 3) := by decide +kernel
theorem dX1_advance_181 : decode cX1_advance 181 = .ok (.aload_n 0, 1) := by decide +kernel
theorem dX1_advance_182 : decode cX1_advance 182 = .ok (.getfield 12, 3) := by decide +kernel
theorem dX1_advance_185 : decode cX1_advance 185 = .ok (.aload_n 0, 1) := by decide +kernel
theorem dX1_advance_186 : decode cX1_advance 186 = .ok (.getfield 18, 3) := by decide +kernel
theorem dX1_advance_189 : decode cX1_advance 189 = .ok (.invokevirtual 110, 3) := by decide +kernel
theorem dX1_advance_192 : decode cX1_advance 192 = .ok (.invokestatic 118, 3) := by decide +kernel
theorem dX1_advance_195 : decode cX1_advance 195 = .ok (.ifCond .eq 45, 3) := by decide +kernel
theorem dX1_advance_198 : decode cX1_advance 198 = .ok (.aload_n 0, 1) := by decide +kernel
theorem dX1_advance_199 : decode cX1_advance 199 = .ok (.bipush 10, 2) := by decide +kernel
theorem dX1_advance_201 : decode cX1_advance 201 = .ok (.aload_n 0, 1) := by decide +kernel
theorem dX1_advance_202 : decode cX1_advance 202 = .ok (.getfield 104, 3) := by decide +kernel
theorem dX1_advance_205 : decode cX1_advance 205 = .ok (.imul, 1) := by decide +kernel
theorem dX1_advance_206 : decode cX1_advance 206 = .ok (.aload_n 0, 1) := by decide +kernel
theorem dX1_advance_207 : decode cX1_advance 207 = .ok (.getfield 12, 3) := by decide +kernel
theorem dX1_advance_210 : decode cX1_advance 210 = .ok (.aload_n 0, 1) := by decide +kernel
theorem dX1_advance_211 : decode cX1_advance 211 = .ok (.getfield 18, 3) := by decide +kernel
theorem dX1_advance_214 : decode cX1_advance 214 = .ok (.invokevirtual 110, 3) := by decide +kernel
theorem dX1_advance_217 : decode cX1_advance 217 = .ok (.iadd, 1) := by decide +kernel
theorem dX1_advance_218 : decode cX1_advance 218 = .ok (.bipush 48, 2) := by decide +kernel
theorem dX1_advance_220 : decode cX1_advance 220 = .ok (.isub, 1) := by decide +kernel
theorem dX1_advance_221 : decode cX1_advance 221 = .ok (.putfield 104, 3) := by decide +kernel
theorem dX1_advance_224 : decode cX1_advance 224 = .ok (.aload_n 0, 1) := by decide +kernel
theorem dX1_advance_225 : decode cX1_advance 225 = .ok (.dup, 1) := by decide +kernel
theorem dX1_advance_226 : decode cX1_advance 226 = .ok (.getfield 18, 3) := by decide +kernel
theorem dX1_advance_229 : decode cX1_advance 229 = .ok (.iconst 1, 1) := by decide +kernel
theorem dX1_advance_230 : decode cX1_advance 230 = .ok (.iadd, 1) := by decide +kernel
theorem dX1_advance_231 : decode cX1_advance 231 = .ok (.putfield 18, 3) := by decide +kernel
theorem dX1_advance_234 : decode cX1_advance 234 = .ok (.iinc 2 1, 3) := by decide +kernel
theorem dX1_advance_237 : decode cX1_advance 237 = .ok (.goto (-61), 3) := by decide +kernel
theorem dX1_advance_240 : decode cX1_advance 240 = .ok (.aload_n 0, 1) := by decide +kernel
theorem dX1_advance_241 : decode cX1_advance 241 = .ok (.aload_n 0, 1) := by decide +kernel
theorem dX1_advance_242 : decode cX1_advance 242 = .ok (.getfield 18, 3) := by decide +kernel
theorem dX1_advance_245 : decode cX1_advance 245 = .ok (.aload_n 0, 1) := by decide +kernel
theorem dX1_advance_246 : decode cX1_advance 246 = .ok (.getfield 54, 3) := by decide +kernel
theorem dX1_advance_249 : decode cX1_advance 249 = .ok (.isub, 1) := by decide +kernel
theorem dX1_advance_250 : decode cX1_advance 250 = .ok (.iconst 2, 1) := by decide +kernel
theorem dX1_advance_251 : decode cX1_advance 251 = .ok (.if_icmp .le 7, 3) := by decide +kernel
theorem dX1_advance_254 : decode cX1_advance 254 = .ok (.iconst 4, 1) := by decide +kernel
theorem dX1_advance_255 : decode cX1_advance 255 = .ok (.goto 4, 3) := by decide +kernel
theorem dX1_advance_258 : decode cX1_advance 258 = .ok (.iconst 2, 1) := by decide +kernel
theorem dX1_advance_259 : decode cX1_advance 259 = .ok (.putfield 43, 3) := by decide +kernel
theorem dX1_advance_262 : decode cX1_advance 262 = .ok (.goto 8, 3) := by decide +kernel
theorem dX1_advance_265 : decode cX1_advance 265 = .ok (.aload_n 0, 1) := by decide +kernel
theorem dX1_advance_266 : decode cX1_advance 266 = .ok (.iconst 4, 1) := by decide +kernel
theorem dX1_advance_267 : decode cX1_advance 267 = .ok (.putfield 43, 3) := by decide +kernel
theorem dX1_advance_270 : decode cX1_advance 270 = .ok (.aload_n 0, 1) := by decide +kernel
theorem dX1_advance_271 : decode cX1_advance 271 = .ok (.getfield 43, 3) := by decide +kernel
theorem dX1_advance_274 : decode cX1_advance 274 = .ok (.iconst 4, 1) := by decide +kernel
theorem dX1_advance_275 : decode cX1_advance 275 = .ok (.if_icmp .ne 12, 3) := by decide +kernel
theorem dX1_advance_278 : decode cX1_advance 278 = .ok (.aload_n 0, 1) := by decide +kernel
theorem dX1_advance_279 : decode cX1_advance 279 = .ok (.iconst 1, 1) := by decide +kernel
theorem dX1_advance_280 : decode cX1_advance 280 = .ok (.aload_n 0, 1) := by decide +kernel
theorem dX1_advance_281 : decode cX1_advance 281 = .ok (.getfield 54, 3) := by decide +kernel
theorem dX1_advance_284 : decode cX1_advance 284 = .ok (.invokevirtual 57, 3) := by decide +kernel
theorem dX1_advance_287 : decode cX1_advance 287 = .ok (.return_, 1) := by decide +kernel
theorem dX1_isLetter_0 : decode cX1_isLetter 0 = .ok (.iload_n 0, 1) := by decide +kernel
theorem dX1_isLetter_1 : decode cX1_isLetter 1 = .ok (.bipush 97, 2) := by decide +kernel
theorem dX1_isLetter_3 : decode cX1_isLetter 3 = .ok (.if_icmp .lt 13, 3) := by decide +kernel
theorem dX1_isLetter_6 : decode cX1_isLetter 6 = .ok (.iload_n 0, 1) := by decide +kernel
theorem dX1_isLetter_7 : decode cX1_isLetter 7 = .ok (.bipush 122, 2) := by decide +kernel
theorem dX1_isLetter_9 : decode cX1_isLetter 9 = .ok (.if_icmp .gt 7, 3) := by decide +kernel
theorem dX1_isLetter_12 : decode cX1_isLetter 12 = .ok (.iconst 1, 1) := by decide +kernel
theorem dX1_isLetter_13 : decode cX1_isLetter 13 = .ok (.goto 4, 3) := by decide +kernel
theorem dX1_isLetter_16 : decode cX1_isLetter 16 = .ok (.iconst 0, 1) := by decide +kernel
theorem dX1_isLetter_17 : decode cX1_isLetter 17 = .ok (.ireturn, 1) := by decide +kernel
theorem dX1_isFigure_0 : decode cX1_isFigure 0 = .ok (.iload_n 0, 1) := by decide +kernel
theorem dX1_isFigure_1 : decode cX1_isFigure 1 = .ok (.bipush 48, 2) := by decide +kernel
theorem dX1_isFigure_3 : decode cX1_isFigure 3 = .ok (.if_icmp .lt 13, 3) := by decide +kernel
theorem dX1_isFigure_6 : decode cX1_isFigure 6 = .ok (.iload_n 0, 1) := by decide +kernel
theorem dX1_isFigure_7 : decode cX1_isFigure 7 = .ok (.bipush 57, 2) := by decide +kernel
theorem dX1_isFigure_9 : decode cX1_isFigure 9 = .ok (.if_icmp .gt 7, 3) := by decide +kernel
theorem dX1_isFigure_12 : decode cX1_isFigure 12 = .ok (.iconst 1, 1) := by decide +kernel
theorem dX1_isFigure_13 : decode cX1_isFigure 13 = .ok (.goto 4, 3) := by decide +kernel
theorem dX1_isFigure_16 : decode cX1_isFigure 16 = .ok (.iconst 0, 1) := by decide +kernel
theorem dX1_isFigure_17 : decode cX1_isFigure 17 = .ok (.ireturn, 1) := by decide +kernel
theorem dX1_lineOfName_0 : decode cX1_lineOfName 0 = .ok (.aload_n 0, 1) := by decide +kernel
theorem dX1_lineOfName_1 : decode cX1_lineOfName 1 = .ok (.getfield 43, 3) := by decide +kernel
theorem dX1_lineOfName_4 : decode cX1_lineOfName 4 = .ok (.iconst 1, 1) := by decide +kernel
theorem dX1_lineOfName_5 : decode cX1_lineOfName 5 = .ok (.if_icmp .eq 6, 3) := by decide +kernel
theorem dX1_lineOfName_8 : decode cX1_lineOfName 8 = .ok (.bipush 7, 2) := by decide +kernel
theorem dX1_lineOfName_10 : decode cX1_lineOfName 10 = .ok (.ireturn, 1) := by decide +kernel
theorem dX1_lineOfName_11 : decode cX1_lineOfName 11 = .ok (.aload_n 0, 1) := by decide +kernel
theorem dX1_lineOfName_12 : decode cX1_lineOfName 12 = .ok (.ldc 121, 2) := by decide +kernel
theorem dX1_lineOfName_14 : decode cX1_lineOfName 14 = .ok (.invokevirtual 123, 3) := by decide +kernel
theorem dX1_lineOfName_17 : decode cX1_lineOfName 17 = .ok (.ifCond .eq 5, 3) := by decide +kernel
theorem dX1_lineOfName_20 : decode cX1_lineOfName 20 = .ok (.iconst 0, 1) := by decide +kernel
theorem dX1_lineOfName_21 : decode cX1_lineOfName 21 = .ok (.ireturn, 1) := by decide +kernel
theorem dX1_lineOfName_22 : decode cX1_lineOfName 22 = .ok (.aload_n 0, 1) := by decide +kernel
theorem dX1_lineOfName_23 : decode cX1_lineOfName 23 = .ok (.ldc 127, 2) := by decide +kernel
theorem dX1_lineOfName_25 : decode cX1_lineOfName 25 = .ok (.invokevirtual 123, 3) := by decide +kernel
theorem dX1_lineOfName_28 : decode cX1_lineOfName 28 = .ok (.ifCond .eq 5, 3) := by decide +kernel
theorem dX1_lineOfName_31 : decode cX1_lineOfName 31 = .ok (.iconst 1, 1) := by decide +kernel
theorem dX1_lineOfName_32 : decode cX1_lineOfName 32 = .ok (.ireturn, 1) := by decide +kernel
theorem dX1_lineOfName_33 : decode cX1_lineOfName 33 = .ok (.aload_n 0, 1) := by decide +kernel
theorem dX1_lineOfName_34 : decode cX1_lineOfName 34 = .ok (.ldc 129, 2) := by decide +kernel
theorem dX1_lineOfName_36 : decode cX1_lineOfName 36 = .ok (.invokevirtual 123, 3) := by decide +kernel
theorem dX1_lineOfName_39 : decode cX1_lineOfName 39 = .ok (.ifCond .eq 5, 3) := by decide +kernel
theorem dX1_lineOfName_42 : decode cX1_lineOfName 42 = .ok (.iconst 2, 1) := by decide +kernel
theorem dX1_lineOfName_43 : decode cX1_lineOfName 43 = .ok (.ireturn, 1) := by decide +kernel
theorem dX1_lineOfName_44 : decode cX1_lineOfName 44 = .ok (.aload_n 0, 1) := by decide +kernel
theorem dX1_lineOfName_45 : decode cX1_lineOfName 45 = .ok (.ldc 131, 2) := by decide +kernel
theorem dX1_lineOfName_47 : decode cX1_lineOfName 47 = .ok (.invokevirtual 123, 3) := by decide +kernel
theorem dX1_lineOfName_50 : decode cX1_lineOfName 50 = .ok (.ifCond .eq 5, 3) := by decide +kernel
theorem dX1_lineOfName_53 : decode cX1_lineOfName 53 = .ok (.iconst 3, 1) := by decide +kernel
theorem dX1_lineOfName_54 : decode cX1_lineOfName 54 = .ok (.ireturn, 1) := by decide +kernel
theorem dX1_lineOfName_55 : decode cX1_lineOfName 55 = .ok (.aload_n 0, 1) := by decide +kernel
theorem dX1_lineOfName_56 : decode cX1_lineOfName 56 = .ok (.ldc 133, 2) := by decide +kernel
theorem dX1_lineOfName_58 : decode cX1_lineOfName 58 = .ok (.invokevirtual 123, 3) := by decide +kernel
theorem dX1_lineOfName_61 : decode cX1_lineOfName 61 = .ok (.ifCond .eq 5, 3) := by decide +kernel
theorem dX1_lineOfName_64 : decode cX1_lineOfName 64 = .ok (.iconst 4, 1) := by decide +kernel
theorem dX1_lineOfName_65 : decode cX1_lineOfName 65 = .ok (.ireturn, 1) := by decide +kernel
theorem dX1_lineOfName_66 : decode cX1_lineOfName 66 = .ok (.aload_n 0, 1) := by decide +kernel
theorem dX1_lineOfName_67 : decode cX1_lineOfName 67 = .ok (.ldc 134, 2) := by decide +kernel
theorem dX1_lineOfName_69 : decode cX1_lineOfName 69 = .ok (.invokevirtual 123, 3) := by decide +kernel
theorem dX1_lineOfName_72 : decode cX1_lineOfName 72 = .ok (.ifCond .eq 5, 3) := by decide +kernel
theorem dX1_lineOfName_75 : decode cX1_lineOfName 75 = .ok (.iconst 5, 1) := by decide +kernel
theorem dX1_lineOfName_76 : decode cX1_lineOfName 76 = .ok (.ireturn, 1) := by decide +kernel
theorem dX1_lineOfName_77 : decode cX1_lineOfName 77 = .ok (.aload_n 0, 1) := by decide +kernel
theorem dX1_lineOfName_78 : decode cX1_lineOfName 78 = .ok (.ldc 135, 2) := by decide +kernel
theorem dX1_lineOfName_80 : decode cX1_lineOfName 80 = .ok (.invokevirtual 123, 3) := by decide +kernel
theorem dX1_lineOfName_83 : decode cX1_lineOfName 83 = .ok (.ifCond .eq 8, 3) := by decide +kernel
theorem dX1_lineOfName_86 : decode cX1_lineOfName 86 = .ok (.bipush 6, 2) := by decide +kernel
theorem dX1_lineOfName_88 : decode cX1_lineOfName 88 = .ok (.goto 5, 3) := by decide +kernel
theorem dX1_lineOfName_91 : decode cX1_lineOfName 91 = .ok (.bipush 7, 2) := by decide +kernel
theorem dX1_lineOfName_93 : decode cX1_lineOfName 93 = .ok (.ireturn, 1) := by decide +kernel
theorem dX1_nameIs_0 : decode cX1_nameIs 0 = .ok (.aload_n 0, 1) := by decide +kernel
theorem dX1_nameIs_1 : decode cX1_nameIs 1 = .ok (.getfield 18, 3) := by decide +kernel
theorem dX1_nameIs_4 : decode cX1_nameIs 4 = .ok (.aload_n 0, 1) := by decide +kernel
theorem dX1_nameIs_5 : decode cX1_nameIs 5 = .ok (.getfield 54, 3) := by decide +kernel
theorem dX1_nameIs_8 : decode cX1_nameIs 8 = .ok (.isub, 1) := by decide +kernel
theorem dX1_nameIs_9 : decode cX1_nameIs 9 = .ok (.aload_n 1, 1) := by decide +kernel
theorem dX1_nameIs_10 : decode cX1_nameIs 10 = .ok (.invokevirtual 137, 3) := by decide +kernel
theorem dX1_nameIs_13 : decode cX1_nameIs 13 = .ok (.if_icmp .eq 5, 3) := by decide +kernel
theorem dX1_nameIs_16 : decode cX1_nameIs 16 = .ok (.iconst 0, 1) := by decide +kernel
theorem dX1_nameIs_17 : decode cX1_nameIs 17 = .ok (.ireturn, 1) := by decide +kernel
theorem dX1_nameIs_18 : decode cX1_nameIs 18 = .ok (.iconst 0, 1) := by decide +kernel
theorem dX1_nameIs_19 : decode cX1_nameIs 19 = .ok (.istore_n 2, 1) := by decide +kernel
theorem dX1_nameIs_20 : decode cX1_nameIs 20 = .ok (.iload_n 2, 1) := by decide +kernel
theorem dX1_nameIs_21 : decode cX1_nameIs 21 = .ok (.aload_n 1, 1) := by decide +kernel
theorem dX1_nameIs_22 : decode cX1_nameIs 22 = .ok (.invokevirtual 137, 3) := by decide +kernel
theorem dX1_nameIs_25 : decode cX1_nameIs 25 = .ok (.if_icmp .ge 32, 3) := by decide +kernel
theorem dX1_nameIs_28 : decode cX1_nameIs 28 = .ok (.aload_n 0, 1) := by decide +kernel
theorem dX1_nameIs_29 : decode cX1_nameIs 29 = .ok (.getfield 12, 3) := by decide +kernel
theorem dX1_nameIs_32 : decode cX1_nameIs 32 = .ok (.aload_n 0, 1) := by decide +kernel
theorem dX1_nameIs_33 : decode cX1_nameIs 33 = .ok (.getfield 54, 3) := by decide +kernel
theorem dX1_nameIs_36 : decode cX1_nameIs 36 = .ok (.iload_n 2, 1) := by decide +kernel
theorem dX1_nameIs_37 : decode cX1_nameIs 37 = .ok (.iadd, 1) := by decide +kernel
theorem dX1_nameIs_38 : decode cX1_nameIs 38 = .ok (.invokevirtual 110, 3) := by decide +kernel
theorem dX1_nameIs_41 : decode cX1_nameIs 41 = .ok (.aload_n 1, 1) := by decide +kernel
theorem dX1_nameIs_42 : decode cX1_nameIs 42 = .ok (.iload_n 2, 1) := by decide +kernel
theorem dX1_nameIs_43 : decode cX1_nameIs 43 = .ok (.invokevirtual 142, 3) := by decide +kernel
theorem dX1_nameIs_46 : decode cX1_nameIs 46 = .ok (.if_icmp .eq 5, 3) := by decide +kernel
theorem dX1_nameIs_49 : decode cX1_nameIs 49 = .ok (.iconst 0, 1) := by decide +kernel
theorem dX1_nameIs_50 : decode cX1_nameIs 50 = .ok (.ireturn, 1) := by decide +kernel
theorem dX1_nameIs_51 : decode cX1_nameIs 51 = .ok (.iinc 2 1, 3) := by decide +kernel
theorem dX1_nameIs_54 : decode cX1_nameIs 54 = .ok (.goto (-34), 3) := by decide +kernel
theorem dX1_nameIs_57 : decode cX1_nameIs 57 = .ok (.iconst 1, 1) := by decide +kernel
theorem dX1_nameIs_58 : decode cX1_nameIs 58 = .ok (.ireturn, 1) := by decide +kernel
theorem dX2_init_0 : decode cX2_init 0 = .ok (.aload_n 0, 1) := by decide +kernel
theorem dX2_init_1 : decode cX2_init 1 = .ok (.invokespecial 3, 3) := by decide +kernel
theorem dX2_init_4 : decode cX2_init 4 = .ok (.aload_n 0, 1) := by decide +kernel
theorem dX2_init_5 : decode cX2_init 5 = .ok (.bipush 6, 2) := by decide +kernel
theorem dX2_init_7 : decode cX2_init 7 = .ok (.newarray .int, 2) := by decide +kernel
theorem dX2_init_9 : decode cX2_init 9 = .ok (.putfield 9, 3) := by decide +kernel
theorem dX2_init_12 : decode cX2_init 12 = .ok (.aload_n 0, 1) := by decide +kernel
theorem dX2_init_13 : decode cX2_init 13 = .ok (.bipush 6, 2) := by decide +kernel
theorem dX2_init_15 : decode cX2_init 15 = .ok (.newarray .int, 2) := by decide +kernel
theorem dX2_init_17 : decode cX2_init 17 = .ok (.putfield 15, 3) := by decide +kernel
theorem dX2_init_20 : decode cX2_init 20 = .ok (.aload_n 0, 1) := by decide +kernel
theorem dX2_init_21 : decode cX2_init 21 = .ok (.bipush 6, 2) := by decide +kernel
theorem dX2_init_23 : decode cX2_init 23 = .ok (.newarray .int, 2) := by decide +kernel
theorem dX2_init_25 : decode cX2_init 25 = .ok (.putfield 18, 3) := by decide +kernel
theorem dX2_init_28 : decode cX2_init 28 = .ok (.return_, 1) := by decide +kernel
theorem dX2_take_0 : decode cX2_take 0 = .ok (.aload_n 0, 1) := by decide +kernel
theorem dX2_take_1 : decode cX2_take 1 = .ok (.getfield 21, 3) := by decide +kernel
theorem dX2_take_4 : decode cX2_take 4 = .ok (.bipush 6, 2) := by decide +kernel
theorem dX2_take_6 : decode cX2_take 6 = .ok (.if_icmp .lt 5, 3) := by decide +kernel
theorem dX2_take_9 : decode cX2_take 9 = .ok (.iconst 0, 1) := by decide +kernel
theorem dX2_take_10 : decode cX2_take 10 = .ok (.ireturn, 1) := by decide +kernel
theorem dX2_take_11 : decode cX2_take 11 = .ok (.aload_n 0, 1) := by decide +kernel
theorem dX2_take_12 : decode cX2_take 12 = .ok (.getfield 9, 3) := by decide +kernel
theorem dX2_take_15 : decode cX2_take 15 = .ok (.aload_n 0, 1) := by decide +kernel
theorem dX2_take_16 : decode cX2_take 16 = .ok (.getfield 21, 3) := by decide +kernel
theorem dX2_take_19 : decode cX2_take 19 = .ok (.iload_n 1, 1) := by decide +kernel
theorem dX2_take_20 : decode cX2_take 20 = .ok (.iastore, 1) := by decide +kernel
theorem dX2_take_21 : decode cX2_take 21 = .ok (.aload_n 0, 1) := by decide +kernel
theorem dX2_take_22 : decode cX2_take 22 = .ok (.getfield 15, 3) := by decide +kernel
theorem dX2_take_25 : decode cX2_take 25 = .ok (.aload_n 0, 1) := by decide +kernel
theorem dX2_take_26 : decode cX2_take 26 = .ok (.getfield 21, 3) := by decide +kernel
theorem dX2_take_29 : decode cX2_take 29 = .ok (.iload_n 2, 1) := by decide +kernel
theorem dX2_take_30 : decode cX2_take 30 = .ok (.iastore, 1) := by decide +kernel
theorem dX2_take_31 : decode cX2_take 31 = .ok (.aload_n 0, 1) := by decide +kernel
theorem dX2_take_32 : decode cX2_take 32 = .ok (.getfield 18, 3) := by decide +kernel
theorem dX2_take_35 : decode cX2_take 35 = .ok (.aload_n 0, 1) := by decide +kernel
theorem dX2_take_36 : decode cX2_take 36 = .ok (.getfield 21, 3) := by decide +kernel
theorem dX2_take_39 : decode cX2_take 39 = .ok (.iload_n 3, 1) := by decide +kernel
theorem dX2_take_40 : decode cX2_take 40 = .ok (.iastore, 1) := by decide +kernel
theorem dX2_take_41 : decode cX2_take 41 = .ok (.aload_n 0, 1) := by decide +kernel
theorem dX2_take_42 : decode cX2_take 42 = .ok (.dup, 1) := by decide +kernel
theorem dX2_take_43 : decode cX2_take 43 = .ok (.getfield 21, 3) := by decide +kernel
theorem dX2_take_46 : decode cX2_take 46 = .ok (.iconst 1, 1) := by decide +kernel
theorem dX2_take_47 : decode cX2_take 47 = .ok (.iadd, 1) := by decide +kernel
theorem dX2_take_48 : decode cX2_take 48 = .ok (.putfield 21, 3) := by decide +kernel
theorem dX2_take_51 : decode cX2_take 51 = .ok (.iconst 1, 1) := by decide +kernel
theorem dX2_take_52 : decode cX2_take 52 = .ok (.ireturn, 1) := by decide +kernel
theorem dX2_agrees_0 : decode cX2_agrees 0 = .ok (.iconst 0, 1) := by decide +kernel
theorem dX2_agrees_1 : decode cX2_agrees 1 = .ok (.istore_n 2, 1) := by decide +kernel
theorem dX2_agrees_2 : decode cX2_agrees 2 = .ok (.iload_n 2, 1) := by decide +kernel
theorem dX2_agrees_3 : decode cX2_agrees 3 = .ok (.aload_n 0, 1) := by decide +kernel
theorem dX2_agrees_4 : decode cX2_agrees 4 = .ok (.getfield 21, 3) := by decide +kernel
theorem dX2_agrees_7 : decode cX2_agrees 7 = .ok (.if_icmp .ge 49, 3) := by decide +kernel
theorem dX2_agrees_10 : decode cX2_agrees 10 = .ok (.aload_n 0, 1) := by decide +kernel
theorem dX2_agrees_11 : decode cX2_agrees 11 = .ok (.getfield 9, 3) := by decide +kernel
theorem dX2_agrees_14 : decode cX2_agrees 14 = .ok (.iload_n 2, 1) := by decide +kernel
theorem dX2_agrees_15 : decode cX2_agrees 15 = .ok (.iaload, 1) := by decide +kernel
theorem dX2_agrees_16 : decode cX2_agrees 16 = .ok (.istore_n 3, 1) := by decide +kernel
theorem dX2_agrees_17 : decode cX2_agrees 17 = .ok (.iload_n 3, 1) := by decide +kernel
theorem dX2_agrees_18 : decode cX2_agrees 18 = .ok (.ifCond .lt 30, 3) := by decide +kernel
theorem dX2_agrees_21 : decode cX2_agrees 21 = .ok (.iload_n 3, 1) := by decide +kernel
theorem dX2_agrees_22 : decode cX2_agrees 22 = .ok (.aload_n 1, 1) := by decide +kernel
theorem dX2_agrees_23 : decode cX2_agrees 23 = .ok (.arraylength, 1) := by decide +kernel
theorem dX2_agrees_24 : decode cX2_agrees 24 = .ok (.if_icmp .ge 24, 3) := by decide +kernel
theorem dX2_agrees_27 : decode cX2_agrees 27 = .ok (.aload_n 1, 1) := by decide +kernel
theorem dX2_agrees_28 : decode cX2_agrees 28 = .ok (.iload_n 3, 1) := by decide +kernel
theorem dX2_agrees_29 : decode cX2_agrees 29 = .ok (.iaload, 1) := by decide +kernel
theorem dX2_agrees_30 : decode cX2_agrees 30 = .ok (.aload_n 0, 1) := by decide +kernel
theorem dX2_agrees_31 : decode cX2_agrees 31 = .ok (.getfield 15, 3) := by decide +kernel
theorem dX2_agrees_34 : decode cX2_agrees 34 = .ok (.iload_n 2, 1) := by decide +kernel
theorem dX2_agrees_35 : decode cX2_agrees 35 = .ok (.iaload, 1) := by decide +kernel
theorem dX2_agrees_36 : decode cX2_agrees 36 = .ok (.invokestatic 25, 3) := by decide +kernel
theorem dX2_agrees_39 : decode cX2_agrees 39 = .ok (.aload_n 0, 1) := by decide +kernel
theorem dX2_agrees_40 : decode cX2_agrees 40 = .ok (.getfield 18, 3) := by decide +kernel
theorem dX2_agrees_43 : decode cX2_agrees 43 = .ok (.iload_n 2, 1) := by decide +kernel
theorem dX2_agrees_44 : decode cX2_agrees 44 = .ok (.iaload, 1) := by decide +kernel
theorem dX2_agrees_45 : decode cX2_agrees 45 = .ok (.if_icmp .eq 5, 3) := by decide +kernel
theorem dX2_agrees_48 : decode cX2_agrees 48 = .ok (.iconst 0, 1) := by decide +kernel
theorem dX2_agrees_49 : decode cX2_agrees 49 = .ok (.ireturn, 1) := by decide +kernel
theorem dX2_agrees_50 : decode cX2_agrees 50 = .ok (.iinc 2 1, 3) := by decide +kernel
theorem dX2_agrees_53 : decode cX2_agrees 53 = .ok (.goto (-51), 3) := by decide +kernel
theorem dX2_agrees_56 : decode cX2_agrees 56 = .ok (.iconst 1, 1) := by decide +kernel
theorem dX2_agrees_57 : decode cX2_agrees 57 = .ok (.ireturn, 1) := by decide +kernel
theorem dX3_init_0 : decode cX3_init 0 = .ok (.aload_n 0, 1) := by decide +kernel
theorem dX3_init_1 : decode cX3_init 1 = .ok (.invokespecial 3, 3) := by decide +kernel
theorem dX3_init_4 : decode cX3_init 4 = .ok (.aload_n 0, 1) := by decide +kernel
theorem dX3_init_5 : decode cX3_init 5 = .ok (.bipush 40, 2) := by decide +kernel
theorem dX3_init_7 : decode cX3_init 7 = .ok (.newarray .int, 2) := by decide +kernel
theorem dX3_init_9 : decode cX3_init 9 = .ok (.putfield 9, 3) := by decide +kernel
theorem dX3_init_12 : decode cX3_init 12 = .ok (.aload_n 0, 1) := by decide +kernel
theorem dX3_init_13 : decode cX3_init 13 = .ok (.bipush (-4), 2) := by decide +kernel
theorem dX3_init_15 : decode cX3_init 15 = .ok (.putfield 15, 3) := by decide +kernel
theorem dX3_init_18 : decode cX3_init 18 = .ok (.return_, 1) := by decide +kernel
theorem dX3_renew_0 : decode cX3_renew 0 = .ok (.aload_n 0, 1) := by decide +kernel
theorem dX3_renew_1 : decode cX3_renew 1 = .ok (.iload_n 1, 1) := by decide +kernel
theorem dX3_renew_2 : decode cX3_renew 2 = .ok (.putfield 19, 3) := by decide +kernel
theorem dX3_renew_5 : decode cX3_renew 5 = .ok (.aload_n 0, 1) := by decide +kernel
theorem dX3_renew_6 : decode cX3_renew 6 = .ok (.iconst 0, 1) := by decide +kernel
theorem dX3_renew_7 : decode cX3_renew 7 = .ok (.iload_n 2, 1) := by decide +kernel
theorem dX3_renew_8 : decode cX3_renew 8 = .ok (.bipush 40, 2) := by decide +kernel
theorem dX3_renew_10 : decode cX3_renew 10 = .ok (.invokestatic 22, 3) := by decide +kernel
theorem dX3_renew_13 : decode cX3_renew 13 = .ok (.invokestatic 28, 3) := by decide +kernel
theorem dX3_renew_16 : decode cX3_renew 16 = .ok (.putfield 15, 3) := by decide +kernel
theorem dX3_renew_19 : decode cX3_renew 19 = .ok (.iconst 0, 1) := by decide +kernel
theorem dX3_renew_20 : decode cX3_renew 20 = .ok (.istore_n 3, 1) := by decide +kernel
theorem dX3_renew_21 : decode cX3_renew 21 = .ok (.iload_n 3, 1) := by decide +kernel
theorem dX3_renew_22 : decode cX3_renew 22 = .ok (.aload_n 0, 1) := by decide +kernel
theorem dX3_renew_23 : decode cX3_renew 23 = .ok (.getfield 9, 3) := by decide +kernel
theorem dX3_renew_26 : decode cX3_renew 26 = .ok (.arraylength, 1) := by decide +kernel
theorem dX3_renew_27 : decode cX3_renew 27 = .ok (.if_icmp .ge 16, 3) := by decide +kernel
theorem dX3_renew_30 : decode cX3_renew 30 = .ok (.aload_n 0, 1) := by decide +kernel
theorem dX3_renew_31 : decode cX3_renew 31 = .ok (.getfield 9, 3) := by decide +kernel
theorem dX3_renew_34 : decode cX3_renew 34 = .ok (.iload_n 3, 1) := by decide +kernel
theorem dX3_renew_35 : decode cX3_renew 35 = .ok (.iconst 0, 1) := by decide +kernel
theorem dX3_renew_36 : decode cX3_renew 36 = .ok (.iastore, 1) := by decide +kernel
theorem dX3_renew_37 : decode cX3_renew 37 = .ok (.iinc 3 1, 3) := by decide +kernel
theorem dX3_renew_40 : decode cX3_renew 40 = .ok (.goto (-19), 3) := by decide +kernel
theorem dX3_renew_43 : decode cX3_renew 43 = .ok (.return_, 1) := by decide +kernel
theorem dX3_faultAt_0 : decode cX3_faultAt 0 = .ok (.aload_n 0, 1) := by decide +kernel
theorem dX3_faultAt_1 : decode cX3_faultAt 1 = .ok (.getfield 15, 3) := by decide +kernel
theorem dX3_faultAt_4 : decode cX3_faultAt 4 = .ok (.ifCond .ge 5, 3) := by decide +kernel
theorem dX3_faultAt_7 : decode cX3_faultAt 7 = .ok (.iconst 1, 1) := by decide +kernel
theorem dX3_faultAt_8 : decode cX3_faultAt 8 = .ok (.ireturn, 1) := by decide +kernel
theorem dX3_faultAt_9 : decode cX3_faultAt 9 = .ok (.iload_n 1, 1) := by decide +kernel
theorem dX3_faultAt_10 : decode cX3_faultAt 10 = .ok (.aload_n 0, 1) := by decide +kernel
theorem dX3_faultAt_11 : decode cX3_faultAt 11 = .ok (.getfield 19, 3) := by decide +kernel
theorem dX3_faultAt_14 : decode cX3_faultAt 14 = .ok (.if_icmp .eq 5, 3) := by decide +kernel
theorem dX3_faultAt_17 : decode cX3_faultAt 17 = .ok (.iconst 3, 1) := by decide +kernel
theorem dX3_faultAt_18 : decode cX3_faultAt 18 = .ok (.ireturn, 1) := by decide +kernel
theorem dX3_faultAt_19 : decode cX3_faultAt 19 = .ok (.lload_n 2, 1) := by decide +kernel
theorem dX3_faultAt_20 : decode cX3_faultAt 20 = .ok (.lconst 0, 1) := by decide +kernel
theorem dX3_faultAt_21 : decode cX3_faultAt 21 = .ok (.lcmp, 1) := by decide +kernel
theorem dX3_faultAt_22 : decode cX3_faultAt 22 = .ok (.ifCond .lt 13, 3) := by decide +kernel
theorem dX3_faultAt_25 : decode cX3_faultAt 25 = .ok (.lload_n 2, 1) := by decide +kernel
theorem dX3_faultAt_26 : decode cX3_faultAt 26 = .ok (.aload_n 0, 1) := by decide +kernel
theorem dX3_faultAt_27 : decode cX3_faultAt 27 = .ok (.getfield 15, 3) := by decide +kernel
theorem dX3_faultAt_30 : decode cX3_faultAt 30 = .ok (.i2l, 1) := by decide +kernel
theorem dX3_faultAt_31 : decode cX3_faultAt 31 = .ok (.lcmp, 1) := by decide +kernel
theorem dX3_faultAt_32 : decode cX3_faultAt 32 = .ok (.ifCond .lt 7, 3) := by decide +kernel
theorem dX3_faultAt_35 : decode cX3_faultAt 35 = .ok (.iconst 2, 1) := by decide +kernel
theorem dX3_faultAt_36 : decode cX3_faultAt 36 = .ok (.goto 4, 3) := by decide +kernel
theorem dX3_faultAt_39 : decode cX3_faultAt 39 = .ok (.iconst 0, 1) := by decide +kernel
theorem dX3_faultAt_40 : decode cX3_faultAt 40 = .ok (.ireturn, 1) := by decide +kernel
theorem dX3_faultOfTwo_0 : decode cX3_faultOfTwo 0 = .ok (.aload_n 0, 1) := by decide +kernel
theorem dX3_faultOfTwo_1 : decode cX3_faultOfTwo 1 = .ok (.iload_n 1, 1) := by decide +kernel
theorem dX3_faultOfTwo_2 : decode cX3_faultOfTwo 2 = .ok (.lload_n 2, 1) := by decide +kernel
theorem dX3_faultOfTwo_3 : decode cX3_faultOfTwo 3 = .ok (.invokevirtual 31, 3) := by decide +kernel
theorem dX3_faultOfTwo_6 : decode cX3_faultOfTwo 6 = .ok (.istore 4, 2) := by decide +kernel
theorem dX3_faultOfTwo_8 : decode cX3_faultOfTwo 8 = .ok (.iload 4, 2) := by decide +kernel
theorem dX3_faultOfTwo_10 : decode cX3_faultOfTwo 10 = .ok (.ifCond .eq 8, 3) := by decide +kernel
theorem dX3_faultOfTwo_13 : decode cX3_faultOfTwo 13 = .ok (.iload 4, 2) := by decide +kernel
theorem dX3_faultOfTwo_15 : decode cX3_faultOfTwo 15 = .ok (.goto 11, 3) := by decide +kernel
theorem dX3_faultOfTwo_18 : decode cX3_faultOfTwo 18 = .ok (.aload_n 0, 1) := by decide +kernel
theorem dX3_faultOfTwo_19 : decode cX3_faultOfTwo 19 = .ok (.iload_n 1, 1) := by decide +kernel
theorem dX3_faultOfTwo_20 : decode cX3_faultOfTwo 20 = .ok (.lload_n 2, 1) := by decide +kernel
theorem dX3_faultOfTwo_21 : decode cX3_faultOfTwo 21 = .ok (.lconst 1, 1) := by decide +kernel
theorem dX3_faultOfTwo_22 : decode cX3_faultOfTwo 22 = .ok (.ladd, 1) := by decide +kernel
theorem dX3_faultOfTwo_23 : decode cX3_faultOfTwo 23 = .ok (.invokevirtual 31, 3) := by decide +kernel
theorem dX3_faultOfTwo_26 : decode cX3_faultOfTwo 26 = .ok (.ireturn, 1) := by decide +kernel
theorem dX3_put_0 : decode cX3_put 0 = .ok (.iload_n 1, 1) := by decide +kernel
theorem dX3_put_1 : decode cX3_put 1 = .ok (.ifCond .lt 30, 3) := by decide +kernel
theorem dX3_put_4 : decode cX3_put 4 = .ok (.iload_n 1, 1) := by decide +kernel
theorem dX3_put_5 : decode cX3_put 5 = .ok (.aload_n 0, 1) := by decide +kernel
theorem dX3_put_6 : decode cX3_put 6 = .ok (.getfield 15, 3) := by decide +kernel
theorem dX3_put_9 : decode cX3_put 9 = .ok (.if_icmp .ge 22, 3) := by decide +kernel
theorem dX3_put_12 : decode cX3_put 12 = .ok (.aload_n 0, 1) := by decide +kernel
theorem dX3_put_13 : decode cX3_put 13 = .ok (.getfield 9, 3) := by decide +kernel
theorem dX3_put_16 : decode cX3_put 16 = .ok (.iload_n 1, 1) := by decide +kernel
theorem dX3_put_17 : decode cX3_put 17 = .ok (.aload_n 0, 1) := by decide +kernel
theorem dX3_put_18 : decode cX3_put 18 = .ok (.getfield 19, 3) := by decide +kernel
theorem dX3_put_21 : decode cX3_put 21 = .ok (.ifCond .ne 8, 3) := by decide +kernel
theorem dX3_put_24 : decode cX3_put 24 = .ok (.iload_n 2, 1) := by decide +kernel
theorem dX3_put_25 : decode cX3_put 25 = .ok (.i2s, 1) := by decide +kernel
theorem dX3_put_26 : decode cX3_put 26 = .ok (.goto 4, 3) := by decide +kernel
theorem dX3_put_29 : decode cX3_put 29 = .ok (.iload_n 2, 1) := by decide +kernel
theorem dX3_put_30 : decode cX3_put 30 = .ok (.iastore, 1) := by decide +kernel
theorem dX3_put_31 : decode cX3_put 31 = .ok (.return_, 1) := by decide +kernel
theorem dX3_cellAt_0 : decode cX3_cellAt 0 = .ok (.lload_n 1, 1) := by decide +kernel
theorem dX3_cellAt_1 : decode cX3_cellAt 1 = .ok (.lconst 0, 1) := by decide +kernel
theorem dX3_cellAt_2 : decode cX3_cellAt 2 = .ok (.lcmp, 1) := by decide +kernel
theorem dX3_cellAt_3 : decode cX3_cellAt 3 = .ok (.ifCond .lt 23, 3) := by decide +kernel
theorem dX3_cellAt_6 : decode cX3_cellAt 6 = .ok (.lload_n 1, 1) := by decide +kernel
theorem dX3_cellAt_7 : decode cX3_cellAt 7 = .ok (.aload_n 0, 1) := by decide +kernel
theorem dX3_cellAt_8 : decode cX3_cellAt 8 = .ok (.getfield 15, 3) := by decide +kernel
theorem dX3_cellAt_11 : decode cX3_cellAt 11 = .ok (.i2l, 1) := by decide +kernel
theorem dX3_cellAt_12 : decode cX3_cellAt 12 = .ok (.lcmp, 1) := by decide +kernel
theorem dX3_cellAt_13 : decode cX3_cellAt 13 = .ok (.ifCond .ge 13, 3) := by decide +kernel
theorem dX3_cellAt_16 : decode cX3_cellAt 16 = .ok (.aload_n 0, 1) := by decide +kernel
theorem dX3_cellAt_17 : decode cX3_cellAt 17 = .ok (.getfield 9, 3) := by decide +kernel
theorem dX3_cellAt_20 : decode cX3_cellAt 20 = .ok (.lload_n 1, 1) := by decide +kernel
theorem dX3_cellAt_21 : decode cX3_cellAt 21 = .ok (.l2i, 1) := by decide +kernel
theorem dX3_cellAt_22 : decode cX3_cellAt 22 = .ok (.iaload, 1) := by decide +kernel
theorem dX3_cellAt_23 : decode cX3_cellAt 23 = .ok (.goto 4, 3) := by decide +kernel
theorem dX3_cellAt_26 : decode cX3_cellAt 26 = .ok (.iconst 0, 1) := by decide +kernel
theorem dX3_cellAt_27 : decode cX3_cellAt 27 = .ok (.ireturn, 1) := by decide +kernel
theorem dX4_init_0 : decode cX4_init 0 = .ok (.aload_n 0, 1) := by decide +kernel
theorem dX4_init_1 : decode cX4_init 1 = .ok (.invokespecial 3, 3) := by decide +kernel
theorem dX4_init_4 : decode cX4_init 4 = .ok (.aload_n 0, 1) := by decide +kernel
theorem dX4_init_5 : decode cX4_init 5 = .ok (.sipush 160, 3) := by decide +kernel
theorem dX4_init_8 : decode cX4_init 8 = .ok (.newarray .byte, 2) := by decide +kernel
theorem dX4_init_10 : decode cX4_init 10 = .ok (.putfield 9, 3) := by decide +kernel
theorem dX4_init_13 : decode cX4_init 13 = .ok (.return_, 1) := by decide +kernel
theorem dX4_take_0 : decode cX4_take 0 = .ok (.aload_n 0, 1) := by decide +kernel
theorem dX4_take_1 : decode cX4_take 1 = .ok (.getfield 15, 3) := by decide +kernel
theorem dX4_take_4 : decode cX4_take 4 = .ok (.sipush 160, 3) := by decide +kernel
theorem dX4_take_7 : decode cX4_take 7 = .ok (.if_icmp .lt 5, 3) := by decide +kernel
theorem dX4_take_10 : decode cX4_take 10 = .ok (.iconst 0, 1) := by decide +kernel
theorem dX4_take_11 : decode cX4_take 11 = .ok (.ireturn, 1) := by decide +kernel
theorem dX4_take_12 : decode cX4_take 12 = .ok (.aload_n 0, 1) := by decide +kernel
theorem dX4_take_13 : decode cX4_take 13 = .ok (.getfield 9, 3) := by decide +kernel
theorem dX4_take_16 : decode cX4_take 16 = .ok (.aload_n 0, 1) := by decide +kernel
theorem dX4_take_17 : decode cX4_take 17 = .ok (.getfield 15, 3) := by decide +kernel
theorem dX4_take_20 : decode cX4_take 20 = .ok (.iload_n 1, 1) := by decide +kernel
theorem dX4_take_21 : decode cX4_take 21 = .ok (.i2b, 1) := by decide +kernel
theorem dX4_take_22 : decode cX4_take 22 = .ok (.bastore, 1) := by decide +kernel
theorem dX4_take_23 : decode cX4_take 23 = .ok (.aload_n 0, 1) := by decide +kernel
theorem dX4_take_24 : decode cX4_take 24 = .ok (.dup, 1) := by decide +kernel
theorem dX4_take_25 : decode cX4_take 25 = .ok (.getfield 15, 3) := by decide +kernel
theorem dX4_take_28 : decode cX4_take 28 = .ok (.iconst 1, 1) := by decide +kernel
theorem dX4_take_29 : decode cX4_take 29 = .ok (.iadd, 1) := by decide +kernel
theorem dX4_take_30 : decode cX4_take 30 = .ok (.putfield 15, 3) := by decide +kernel
theorem dX4_take_33 : decode cX4_take 33 = .ok (.iconst 1, 1) := by decide +kernel
theorem dX4_take_34 : decode cX4_take 34 = .ok (.ireturn, 1) := by decide +kernel
theorem dX4_byteAt_0 : decode cX4_byteAt 0 = .ok (.iload_n 1, 1) := by decide +kernel
theorem dX4_byteAt_1 : decode cX4_byteAt 1 = .ok (.ifCond .lt 20, 3) := by decide +kernel
theorem dX4_byteAt_4 : decode cX4_byteAt 4 = .ok (.iload_n 1, 1) := by decide +kernel
theorem dX4_byteAt_5 : decode cX4_byteAt 5 = .ok (.aload_n 0, 1) := by decide +kernel
theorem dX4_byteAt_6 : decode cX4_byteAt 6 = .ok (.getfield 15, 3) := by decide +kernel
theorem dX4_byteAt_9 : decode cX4_byteAt 9 = .ok (.if_icmp .ge 12, 3) := by decide +kernel
theorem dX4_byteAt_12 : decode cX4_byteAt 12 = .ok (.aload_n 0, 1) := by decide +kernel
theorem dX4_byteAt_13 : decode cX4_byteAt 13 = .ok (.getfield 9, 3) := by decide +kernel
theorem dX4_byteAt_16 : decode cX4_byteAt 16 = .ok (.iload_n 1, 1) := by decide +kernel
theorem dX4_byteAt_17 : decode cX4_byteAt 17 = .ok (.baload, 1) := by decide +kernel
theorem dX4_byteAt_18 : decode cX4_byteAt 18 = .ok (.goto 4, 3) := by decide +kernel
theorem dX4_byteAt_21 : decode cX4_byteAt 21 = .ok (.iconst (-1), 1) := by decide +kernel
theorem dX4_byteAt_22 : decode cX4_byteAt 22 = .ok (.ireturn, 1) := by decide +kernel
theorem dX5_init_0 : decode cX5_init 0 = .ok (.aload_n 0, 1) := by decide +kernel
theorem dX5_init_1 : decode cX5_init 1 = .ok (.invokespecial 3, 3) := by decide +kernel
theorem dX5_init_4 : decode cX5_init 4 = .ok (.return_, 1) := by decide +kernel
theorem dX5_begin_0 : decode cX5_begin 0 = .ok (.aload_n 0, 1) := by decide +kernel
theorem dX5_begin_1 : decode cX5_begin 1 = .ok (.iload_n 1, 1) := by decide +kernel
theorem dX5_begin_2 : decode cX5_begin 2 = .ok (.putfield 9, 3) := by decide +kernel
theorem dX5_begin_5 : decode cX5_begin 5 = .ok (.aload_n 0, 1) := by decide +kernel
theorem dX5_begin_6 : decode cX5_begin 6 = .ok (.iload_n 2, 1) := by decide +kernel
theorem dX5_begin_7 : decode cX5_begin 7 = .ok (.putfield 15, 3) := by decide +kernel
theorem dX5_begin_10 : decode cX5_begin 10 = .ok (.aload_n 0, 1) := by decide +kernel
theorem dX5_begin_11 : decode cX5_begin 11 = .ok (.iload_n 3, 1) := by decide +kernel
theorem dX5_begin_12 : decode cX5_begin 12 = .ok (.putfield 18, 3) := by decide +kernel
theorem dX5_begin_15 : decode cX5_begin 15 = .ok (.aload_n 0, 1) := by decide +kernel
theorem dX5_begin_16 : decode cX5_begin 16 = .ok (.iconst 0, 1) := by decide +kernel
theorem dX5_begin_17 : decode cX5_begin 17 = .ok (.putfield 21, 3) := by decide +kernel
theorem dX5_begin_20 : decode cX5_begin 20 = .ok (.aload_n 0, 1) := by decide +kernel
theorem dX5_begin_21 : decode cX5_begin 21 = .ok (.iconst 0, 1) := by decide +kernel
theorem dX5_begin_22 : decode cX5_begin 22 = .ok (.putfield 24, 3) := by decide +kernel
theorem dX5_begin_25 : decode cX5_begin 25 = .ok (.aload_n 0, 1) := by decide +kernel
theorem dX5_begin_26 : decode cX5_begin 26 = .ok (.iconst 0, 1) := by decide +kernel
theorem dX5_begin_27 : decode cX5_begin 27 = .ok (.putfield 27, 3) := by decide +kernel
theorem dX5_begin_30 : decode cX5_begin 30 = .ok (.return_, 1) := by decide +kernel
theorem dX5_become_0 : decode cX5_become 0 = .ok (.aload_n 0, 1) := by decide +kernel
theorem dX5_become_1 : decode cX5_become 1 = .ok (.aload_n 1, 1) := by decide +kernel
theorem dX5_become_2 : decode cX5_become 2 = .ok (.getfield 9, 3) := by decide +kernel
theorem dX5_become_5 : decode cX5_become 5 = .ok (.putfield 9, 3) := by decide +kernel
theorem dX5_become_8 : decode cX5_become 8 = .ok (.aload_n 0, 1) := by decide +kernel
theorem dX5_become_9 : decode cX5_become 9 = .ok (.aload_n 1, 1) := by decide +kernel
theorem dX5_become_10 : decode cX5_become 10 = .ok (.getfield 15, 3) := by decide +kernel
theorem dX5_become_13 : decode cX5_become 13 = .ok (.putfield 15, 3) := by decide +kernel
theorem dX5_become_16 : decode cX5_become 16 = .ok (.aload_n 0, 1) := by decide +kernel
theorem dX5_become_17 : decode cX5_become 17 = .ok (.aload_n 1, 1) := by decide +kernel
theorem dX5_become_18 : decode cX5_become 18 = .ok (.getfield 18, 3) := by decide +kernel
theorem dX5_become_21 : decode cX5_become 21 = .ok (.putfield 18, 3) := by decide +kernel
theorem dX5_become_24 : decode cX5_become 24 = .ok (.aload_n 0, 1) := by decide +kernel
theorem dX5_become_25 : decode cX5_become 25 = .ok (.aload_n 1, 1) := by decide +kernel
theorem dX5_become_26 : decode cX5_become 26 = .ok (.invokevirtual 30, 3) := by decide +kernel
theorem dX5_become_29 : decode cX5_become 29 = .ok (.return_, 1) := by decide +kernel
theorem dX5_takeMood_0 : decode cX5_takeMood 0 = .ok (.aload_n 0, 1) := by decide +kernel
theorem dX5_takeMood_1 : decode cX5_takeMood 1 = .ok (.aload_n 1, 1) := by decide +kernel
theorem dX5_takeMood_2 : decode cX5_takeMood 2 = .ok (.getfield 21, 3) := by decide +kernel
theorem dX5_takeMood_5 : decode cX5_takeMood 5 = .ok (.putfield 21, 3) := by decide +kernel
theorem dX5_takeMood_8 : decode cX5_takeMood 8 = .ok (.aload_n 0, 1) := by decide +kernel
theorem dX5_takeMood_9 : decode cX5_takeMood 9 = .ok (.aload_n 1, 1) := by decide +kernel
theorem dX5_takeMood_10 : decode cX5_takeMood 10 = .ok (.getfield 24, 3) := by decide +kernel
theorem dX5_takeMood_13 : decode cX5_takeMood 13 = .ok (.putfield 24, 3) := by decide +kernel
theorem dX5_takeMood_16 : decode cX5_takeMood 16 = .ok (.aload_n 0, 1) := by decide +kernel
theorem dX5_takeMood_17 : decode cX5_takeMood 17 = .ok (.aload_n 1, 1) := by decide +kernel
theorem dX5_takeMood_18 : decode cX5_takeMood 18 = .ok (.getfield 27, 3) := by decide +kernel
theorem dX5_takeMood_21 : decode cX5_takeMood 21 = .ok (.putfield 27, 3) := by decide +kernel
theorem dX5_takeMood_24 : decode cX5_takeMood 24 = .ok (.return_, 1) := by decide +kernel
theorem dX5_part_0 : decode cX5_part 0 = .ok (.iload_n 1, 1) := by decide +kernel
theorem dX5_part_1 : decode cX5_part 1 = .ok (.tableswitch 60 0 4 #[35, 40, 45, 50, 55], 35) := by decide +kernel
theorem dX5_part_36 : decode cX5_part 36 = .ok (.aload_n 0, 1) := by decide +kernel
theorem dX5_part_37 : decode cX5_part 37 = .ok (.getfield 9, 3) := by decide +kernel
theorem dX5_part_40 : decode cX5_part 40 = .ok (.ireturn, 1) := by decide +kernel
theorem dX5_part_41 : decode cX5_part 41 = .ok (.aload_n 0, 1) := by decide +kernel
theorem dX5_part_42 : decode cX5_part 42 = .ok (.getfield 15, 3) := by decide +kernel
theorem dX5_part_45 : decode cX5_part 45 = .ok (.ireturn, 1) := by decide +kernel
theorem dX5_part_46 : decode cX5_part 46 = .ok (.aload_n 0, 1) := by decide +kernel
theorem dX5_part_47 : decode cX5_part 47 = .ok (.getfield 18, 3) := by decide +kernel
theorem dX5_part_50 : decode cX5_part 50 = .ok (.ireturn, 1) := by decide +kernel
theorem dX5_part_51 : decode cX5_part 51 = .ok (.aload_n 0, 1) := by decide +kernel
theorem dX5_part_52 : decode cX5_part 52 = .ok (.getfield 21, 3) := by decide +kernel
theorem dX5_part_55 : decode cX5_part 55 = .ok (.ireturn, 1) := by decide +kernel
theorem dX5_part_56 : decode cX5_part 56 = .ok (.aload_n 0, 1) := by decide +kernel
theorem dX5_part_57 : decode cX5_part 57 = .ok (.getfield 24, 3) := by decide +kernel
theorem dX5_part_60 : decode cX5_part 60 = .ok (.ireturn, 1) := by decide +kernel
theorem dX5_part_61 : decode cX5_part 61 = .ok (.aload_n 0, 1) := by decide +kernel
theorem dX5_part_62 : decode cX5_part 62 = .ok (.getfield 27, 3) := by decide +kernel
theorem dX5_part_65 : decode cX5_part 65 = .ok (.ireturn, 1) := by decide +kernel
theorem dX5_change_0 : decode cX5_change 0 = .ok (.iload_n 1, 1) := by decide +kernel
theorem dX5_change_1 : decode cX5_change 1 = .ok (.tableswitch 75 0 4 #[35, 43, 51, 59, 67], 35) := by decide +kernel
theorem dX5_change_36 : decode cX5_change 36 = .ok (.aload_n 0, 1) := by decide +kernel
theorem dX5_change_37 : decode cX5_change 37 = .ok (.iload_n 2, 1) := by decide +kernel
theorem dX5_change_38 : decode cX5_change 38 = .ok (.putfield 9, 3) := by decide +kernel
theorem dX5_change_41 : decode cX5_change 41 = .ok (.goto 35, 3) := by decide +kernel
theorem dX5_change_44 : decode cX5_change 44 = .ok (.aload_n 0, 1) := by decide +kernel
theorem dX5_change_45 : decode cX5_change 45 = .ok (.iload_n 2, 1) := by decide +kernel
theorem dX5_change_46 : decode cX5_change 46 = .ok (.putfield 15, 3) := by decide +kernel
theorem dX5_change_49 : decode cX5_change 49 = .ok (.goto 27, 3) := by decide +kernel
theorem dX5_change_52 : decode cX5_change 52 = .ok (.aload_n 0, 1) := by decide +kernel
theorem dX5_change_53 : decode cX5_change 53 = .ok (.iload_n 2, 1) := by decide +kernel
theorem dX5_change_54 : decode cX5_change 54 = .ok (.putfield 18, 3) := by decide +kernel
theorem dX5_change_57 : decode cX5_change 57 = .ok (.goto 19, 3) := by decide +kernel
theorem dX5_change_60 : decode cX5_change 60 = .ok (.aload_n 0, 1) := by decide +kernel
theorem dX5_change_61 : decode cX5_change 61 = .ok (.iload_n 2, 1) := by decide +kernel
theorem dX5_change_62 : decode cX5_change 62 = .ok (.putfield 21, 3) := by decide +kernel
theorem dX5_change_65 : decode cX5_change 65 = .ok (.goto 11, 3) := by decide +kernel
theorem dX5_change_68 : decode cX5_change 68 = .ok (.aload_n 0, 1) := by decide +kernel
theorem dX5_change_69 : decode cX5_change 69 = .ok (.iload_n 2, 1) := by decide +kernel
theorem dX5_change_70 : decode cX5_change 70 = .ok (.putfield 24, 3) := by decide +kernel
theorem dX5_change_73 : decode cX5_change 73 = .ok (.goto 3, 3) := by decide +kernel
theorem dX5_change_76 : decode cX5_change 76 = .ok (.return_, 1) := by decide +kernel
theorem dX5_minds_0 : decode cX5_minds 0 = .ok (.iload_n 1, 1) := by decide +kernel
theorem dX5_minds_1 : decode cX5_minds 1 = .ok (.aload_n 0, 1) := by decide +kernel
theorem dX5_minds_2 : decode cX5_minds 2 = .ok (.getfield 18, 3) := by decide +kernel
theorem dX5_minds_5 : decode cX5_minds 5 = .ok (.if_icmp .le 12, 3) := by decide +kernel
theorem dX5_minds_8 : decode cX5_minds 8 = .ok (.iload_n 1, 1) := by decide +kernel
theorem dX5_minds_9 : decode cX5_minds 9 = .ok (.aload_n 0, 1) := by decide +kernel
theorem dX5_minds_10 : decode cX5_minds 10 = .ok (.getfield 18, 3) := by decide +kernel
theorem dX5_minds_13 : decode cX5_minds 13 = .ok (.isub, 1) := by decide +kernel
theorem dX5_minds_14 : decode cX5_minds 14 = .ok (.goto 4, 3) := by decide +kernel
theorem dX5_minds_17 : decode cX5_minds 17 = .ok (.iconst 0, 1) := by decide +kernel
theorem dX5_minds_18 : decode cX5_minds 18 = .ok (.istore_n 2, 1) := by decide +kernel
theorem dX5_minds_19 : decode cX5_minds 19 = .ok (.aload_n 0, 1) := by decide +kernel
theorem dX5_minds_20 : decode cX5_minds 20 = .ok (.getfield 9, 3) := by decide +kernel
theorem dX5_minds_23 : decode cX5_minds 23 = .ok (.ifCond .ne 7, 3) := by decide +kernel
theorem dX5_minds_26 : decode cX5_minds 26 = .ok (.iload_n 2, 1) := by decide +kernel
theorem dX5_minds_27 : decode cX5_minds 27 = .ok (.goto 6, 3) := by decide +kernel
theorem dX5_minds_30 : decode cX5_minds 30 = .ok (.iconst 2, 1) := by decide +kernel
theorem dX5_minds_31 : decode cX5_minds 31 = .ok (.iload_n 2, 1) := by decide +kernel
theorem dX5_minds_32 : decode cX5_minds 32 = .ok (.imul, 1) := by decide +kernel
theorem dX5_minds_33 : decode cX5_minds 33 = .ok (.istore_n 3, 1) := by decide +kernel
theorem dX5_minds_34 : decode cX5_minds 34 = .ok (.aload_n 0, 1) := by decide +kernel
theorem dX5_minds_35 : decode cX5_minds 35 = .ok (.getfield 9, 3) := by decide +kernel
theorem dX5_minds_38 : decode cX5_minds 38 = .ok (.iconst 2, 1) := by decide +kernel
theorem dX5_minds_39 : decode cX5_minds 39 = .ok (.if_icmp .lt 10, 3) := by decide +kernel
theorem dX5_minds_42 : decode cX5_minds 42 = .ok (.iload_n 1, 1) := by decide +kernel
theorem dX5_minds_43 : decode cX5_minds 43 = .ok (.ifCond .le 6, 3) := by decide +kernel
theorem dX5_minds_46 : decode cX5_minds 46 = .ok (.iinc 3 1, 3) := by decide +kernel
theorem dX5_minds_49 : decode cX5_minds 49 = .ok (.aload_n 0, 1) := by decide +kernel
theorem dX5_minds_50 : decode cX5_minds 50 = .ok (.getfield 9, 3) := by decide +kernel
theorem dX5_minds_53 : decode cX5_minds 53 = .ok (.iconst 3, 1) := by decide +kernel
theorem dX5_minds_54 : decode cX5_minds 54 = .ok (.if_icmp .ne 12, 3) := by decide +kernel
theorem dX5_minds_57 : decode cX5_minds 57 = .ok (.iload_n 1, 1) := by decide +kernel
theorem dX5_minds_58 : decode cX5_minds 58 = .ok (.bipush 9, 2) := by decide +kernel
theorem dX5_minds_60 : decode cX5_minds 60 = .ok (.if_icmp .ne 6, 3) := by decide +kernel
theorem dX5_minds_63 : decode cX5_minds 63 = .ok (.iinc 3 5, 3) := by decide +kernel
theorem dX5_minds_66 : decode cX5_minds 66 = .ok (.iload_n 3, 1) := by decide +kernel
theorem dX5_minds_67 : decode cX5_minds 67 = .ok (.ireturn, 1) := by decide +kernel
theorem dX5_fades_0 : decode cX5_fades 0 = .ok (.aload_n 0, 1) := by decide +kernel
theorem dX5_fades_1 : decode cX5_fades 1 = .ok (.getfield 9, 3) := by decide +kernel
theorem dX5_fades_4 : decode cX5_fades 4 = .ok (.ifCond .ne 7, 3) := by decide +kernel
theorem dX5_fades_7 : decode cX5_fades 7 = .ok (.iconst 2, 1) := by decide +kernel
theorem dX5_fades_8 : decode cX5_fades 8 = .ok (.goto 16, 3) := by decide +kernel
theorem dX5_fades_11 : decode cX5_fades 11 = .ok (.aload_n 0, 1) := by decide +kernel
theorem dX5_fades_12 : decode cX5_fades 12 = .ok (.getfield 9, 3) := by decide +kernel
theorem dX5_fades_15 : decode cX5_fades 15 = .ok (.iconst 1, 1) := by decide +kernel
theorem dX5_fades_16 : decode cX5_fades 16 = .ok (.if_icmp .ne 7, 3) := by decide +kernel
theorem dX5_fades_19 : decode cX5_fades 19 = .ok (.iconst 1, 1) := by decide +kernel
theorem dX5_fades_20 : decode cX5_fades 20 = .ok (.goto 4, 3) := by decide +kernel
theorem dX5_fades_23 : decode cX5_fades 23 = .ok (.iconst 0, 1) := by decide +kernel
theorem dX5_fades_24 : decode cX5_fades 24 = .ok (.ireturn, 1) := by decide +kernel
theorem dX5_pass_0 : decode cX5_pass 0 = .ok (.aload_n 0, 1) := by decide +kernel
theorem dX5_pass_1 : decode cX5_pass 1 = .ok (.sipush 199, 3) := by decide +kernel
theorem dX5_pass_4 : decode cX5_pass 4 = .ok (.aload_n 0, 1) := by decide +kernel
theorem dX5_pass_5 : decode cX5_pass 5 = .ok (.getfield 21, 3) := by decide +kernel
theorem dX5_pass_8 : decode cX5_pass 8 = .ok (.iload_n 1, 1) := by decide +kernel
theorem dX5_pass_9 : decode cX5_pass 9 = .ok (.iadd, 1) := by decide +kernel
theorem dX5_pass_10 : decode cX5_pass 10 = .ok (.invokestatic 34, 3) := by decide +kernel
theorem dX5_pass_13 : decode cX5_pass 13 = .ok (.putfield 21, 3) := by decide +kernel
theorem dX5_pass_16 : decode cX5_pass 16 = .ok (.aload_n 0, 1) := by decide +kernel
theorem dX5_pass_17 : decode cX5_pass 17 = .ok (.bipush 20, 2) := by decide +kernel
theorem dX5_pass_19 : decode cX5_pass 19 = .ok (.aload_n 0, 1) := by decide +kernel
theorem dX5_pass_20 : decode cX5_pass 20 = .ok (.getfield 24, 3) := by decide +kernel
theorem dX5_pass_23 : decode cX5_pass 23 = .ok (.aload_n 0, 1) := by decide +kernel
theorem dX5_pass_24 : decode cX5_pass 24 = .ok (.iload_n 2, 1) := by decide +kernel
theorem dX5_pass_25 : decode cX5_pass 25 = .ok (.invokevirtual 40, 3) := by decide +kernel
theorem dX5_pass_28 : decode cX5_pass 28 = .ok (.iadd, 1) := by decide +kernel
theorem dX5_pass_29 : decode cX5_pass 29 = .ok (.invokestatic 34, 3) := by decide +kernel
theorem dX5_pass_32 : decode cX5_pass 32 = .ok (.putfield 24, 3) := by decide +kernel
theorem dX5_pass_35 : decode cX5_pass 35 = .ok (.aload_n 0, 1) := by decide +kernel
theorem dX5_pass_36 : decode cX5_pass 36 = .ok (.iconst 0, 1) := by decide +kernel
theorem dX5_pass_37 : decode cX5_pass 37 = .ok (.aload_n 0, 1) := by decide +kernel
theorem dX5_pass_38 : decode cX5_pass 38 = .ok (.getfield 24, 3) := by decide +kernel
theorem dX5_pass_41 : decode cX5_pass 41 = .ok (.iload_n 3, 1) := by decide +kernel
theorem dX5_pass_42 : decode cX5_pass 42 = .ok (.isub, 1) := by decide +kernel
theorem dX5_pass_43 : decode cX5_pass 43 = .ok (.invokestatic 44, 3) := by decide +kernel
theorem dX5_pass_46 : decode cX5_pass 46 = .ok (.putfield 24, 3) := by decide +kernel
theorem dX5_pass_49 : decode cX5_pass 49 = .ok (.iload_n 2, 1) := by decide +kernel
theorem dX5_pass_50 : decode cX5_pass 50 = .ok (.ifCond .ne 20, 3) := by decide +kernel
theorem dX5_pass_53 : decode cX5_pass 53 = .ok (.aload_n 0, 1) := by decide +kernel
theorem dX5_pass_54 : decode cX5_pass 54 = .ok (.iconst 0, 1) := by decide +kernel
theorem dX5_pass_55 : decode cX5_pass 55 = .ok (.aload_n 0, 1) := by decide +kernel
theorem dX5_pass_56 : decode cX5_pass 56 = .ok (.getfield 24, 3) := by decide +kernel
theorem dX5_pass_59 : decode cX5_pass 59 = .ok (.aload_n 0, 1) := by decide +kernel
theorem dX5_pass_60 : decode cX5_pass 60 = .ok (.invokevirtual 47, 3) := by decide +kernel
theorem dX5_pass_63 : decode cX5_pass 63 = .ok (.isub, 1) := by decide +kernel
theorem dX5_pass_64 : decode cX5_pass 64 = .ok (.invokestatic 44, 3) := by decide +kernel
theorem dX5_pass_67 : decode cX5_pass 67 = .ok (.putfield 24, 3) := by decide +kernel
theorem dX5_pass_70 : decode cX5_pass 70 = .ok (.aload_n 0, 1) := by decide +kernel
theorem dX5_pass_71 : decode cX5_pass 71 = .ok (.getfield 21, 3) := by decide +kernel
theorem dX5_pass_74 : decode cX5_pass 74 = .ok (.aload_n 0, 1) := by decide +kernel
theorem dX5_pass_75 : decode cX5_pass 75 = .ok (.getfield 15, 3) := by decide +kernel
theorem dX5_pass_78 : decode cX5_pass 78 = .ok (.aload_n 0, 1) := by decide +kernel
theorem dX5_pass_79 : decode cX5_pass 79 = .ok (.getfield 24, 3) := by decide +kernel
theorem dX5_pass_82 : decode cX5_pass 82 = .ok (.iadd, 1) := by decide +kernel
theorem dX5_pass_83 : decode cX5_pass 83 = .ok (.if_icmp .ge 5, 3) := by decide +kernel
theorem dX5_pass_86 : decode cX5_pass 86 = .ok (.iconst 0, 1) := by decide +kernel
theorem dX5_pass_87 : decode cX5_pass 87 = .ok (.ireturn, 1) := by decide +kernel
theorem dX5_pass_88 : decode cX5_pass 88 = .ok (.aload_n 0, 1) := by decide +kernel
theorem dX5_pass_89 : decode cX5_pass 89 = .ok (.dup, 1) := by decide +kernel
theorem dX5_pass_90 : decode cX5_pass 90 = .ok (.getfield 27, 3) := by decide +kernel
theorem dX5_pass_93 : decode cX5_pass 93 = .ok (.iconst 1, 1) := by decide +kernel
theorem dX5_pass_94 : decode cX5_pass 94 = .ok (.iadd, 1) := by decide +kernel
theorem dX5_pass_95 : decode cX5_pass 95 = .ok (.putfield 27, 3) := by decide +kernel
theorem dX5_pass_98 : decode cX5_pass 98 = .ok (.aload_n 0, 1) := by decide +kernel
theorem dX5_pass_99 : decode cX5_pass 99 = .ok (.iconst 0, 1) := by decide +kernel
theorem dX5_pass_100 : decode cX5_pass 100 = .ok (.putfield 21, 3) := by decide +kernel
theorem dX5_pass_103 : decode cX5_pass 103 = .ok (.aload_n 0, 1) := by decide +kernel
theorem dX5_pass_104 : decode cX5_pass 104 = .ok (.iconst 0, 1) := by decide +kernel
theorem dX5_pass_105 : decode cX5_pass 105 = .ok (.putfield 24, 3) := by decide +kernel
theorem dX5_pass_108 : decode cX5_pass 108 = .ok (.iconst 1, 1) := by decide +kernel
theorem dX5_pass_109 : decode cX5_pass 109 = .ok (.ireturn, 1) := by decide +kernel
theorem dX6_init_0 : decode cX6_init 0 = .ok (.aload_n 0, 1) := by decide +kernel
theorem dX6_init_1 : decode cX6_init 1 = .ok (.invokespecial 1, 3) := by decide +kernel
theorem dX6_init_4 : decode cX6_init 4 = .ok (.aload_n 0, 1) := by decide +kernel
theorem dX6_init_5 : decode cX6_init 5 = .ok (.new 7, 3) := by decide +kernel
theorem dX6_init_8 : decode cX6_init 8 = .ok (.dup, 1) := by decide +kernel
theorem dX6_init_9 : decode cX6_init 9 = .ok (.invokespecial 9, 3) := by decide +kernel
theorem dX6_init_12 : decode cX6_init 12 = .ok (.putfield 10, 3) := by decide +kernel
theorem dX6_init_15 : decode cX6_init 15 = .ok (.aload_n 0, 1) := by decide +kernel
theorem dX6_init_16 : decode cX6_init 16 = .ok (.new 7, 3) := by decide +kernel
theorem dX6_init_19 : decode cX6_init 19 = .ok (.dup, 1) := by decide +kernel
theorem dX6_init_20 : decode cX6_init 20 = .ok (.invokespecial 9, 3) := by decide +kernel
theorem dX6_init_23 : decode cX6_init 23 = .ok (.putfield 16, 3) := by decide +kernel
theorem dX6_init_26 : decode cX6_init 26 = .ok (.aload_n 0, 1) := by decide +kernel
theorem dX6_init_27 : decode cX6_init 27 = .ok (.iconst 5, 1) := by decide +kernel
theorem dX6_init_28 : decode cX6_init 28 = .ok (.anewarray 7, 3) := by decide +kernel
theorem dX6_init_31 : decode cX6_init 31 = .ok (.putfield 19, 3) := by decide +kernel
theorem dX6_init_34 : decode cX6_init 34 = .ok (.aload_n 0, 1) := by decide +kernel
theorem dX6_init_35 : decode cX6_init 35 = .ok (.iconst 2, 1) := by decide +kernel
theorem dX6_init_36 : decode cX6_init 36 = .ok (.anewarray 7, 3) := by decide +kernel
theorem dX6_init_39 : decode cX6_init 39 = .ok (.putfield 23, 3) := by decide +kernel
theorem dX6_init_42 : decode cX6_init 42 = .ok (.aload_n 0, 1) := by decide +kernel
theorem dX6_init_43 : decode cX6_init 43 = .ok (.iconst 2, 1) := by decide +kernel
theorem dX6_init_44 : decode cX6_init 44 = .ok (.newarray .boolean, 2) := by decide +kernel
theorem dX6_init_46 : decode cX6_init 46 = .ok (.putfield 26, 3) := by decide +kernel
theorem dX6_init_49 : decode cX6_init 49 = .ok (.aload_n 0, 1) := by decide +kernel
theorem dX6_init_50 : decode cX6_init 50 = .ok (.new 30, 3) := by decide +kernel
theorem dX6_init_53 : decode cX6_init 53 = .ok (.dup, 1) := by decide +kernel
theorem dX6_init_54 : decode cX6_init 54 = .ok (.invokespecial 32, 3) := by decide +kernel
theorem dX6_init_57 : decode cX6_init 57 = .ok (.putfield 33, 3) := by decide +kernel
theorem dX6_init_60 : decode cX6_init 60 = .ok (.aload_n 0, 1) := by decide +kernel
theorem dX6_init_61 : decode cX6_init 61 = .ok (.aload_n 0, 1) := by decide +kernel
theorem dX6_init_62 : decode cX6_init 62 = .ok (.getfield 33, 3) := by decide +kernel
theorem dX6_init_65 : decode cX6_init 65 = .ok (.getfield 37, 3) := by decide +kernel
theorem dX6_init_68 : decode cX6_init 68 = .ok (.putfield 41, 3) := by decide +kernel
theorem dX6_init_71 : decode cX6_init 71 = .ok (.aload_n 0, 1) := by decide +kernel
theorem dX6_init_72 : decode cX6_init 72 = .ok (.new 44, 3) := by decide +kernel
theorem dX6_init_75 : decode cX6_init 75 = .ok (.dup, 1) := by decide +kernel
theorem dX6_init_76 : decode cX6_init 76 = .ok (.invokespecial 46, 3) := by decide +kernel
theorem dX6_init_79 : decode cX6_init 79 = .ok (.putfield 47, 3) := by decide +kernel
theorem dX6_init_82 : decode cX6_init 82 = .ok (.aload_n 0, 1) := by decide +kernel
theorem dX6_init_83 : decode cX6_init 83 = .ok (.bipush 41, 2) := by decide +kernel
theorem dX6_init_85 : decode cX6_init 85 = .ok (.newarray .int, 2) := by decide +kernel
theorem dX6_init_87 : decode cX6_init 87 = .ok (.putfield 51, 3) := by decide +kernel
theorem dX6_init_90 : decode cX6_init 90 = .ok (.aload_n 0, 1) := by decide +kernel
theorem dX6_init_91 : decode cX6_init 91 = .ok (.bipush 10, 2) := by decide +kernel
theorem dX6_init_93 : decode cX6_init 93 = .ok (.newarray .long, 2) := by decide +kernel
theorem dX6_init_95 : decode cX6_init 95 = .ok (.putfield 55, 3) := by decide +kernel
theorem dX6_init_98 : decode cX6_init 98 = .ok (.aload_n 0, 1) := by decide +kernel
theorem dX6_init_99 : decode cX6_init 99 = .ok (.iconst 4, 1) := by decide +kernel
theorem dX6_init_100 : decode cX6_init 100 = .ok (.anewarray 59, 3) := by decide +kernel
theorem dX6_init_103 : decode cX6_init 103 = .ok (.putfield 61, 3) := by decide +kernel
theorem dX6_init_106 : decode cX6_init 106 = .ok (.iconst 0, 1) := by decide +kernel
theorem dX6_init_107 : decode cX6_init 107 = .ok (.istore_n 1, 1) := by decide +kernel
theorem dX6_init_108 : decode cX6_init 108 = .ok (.iload_n 1, 1) := by decide +kernel
theorem dX6_init_109 : decode cX6_init 109 = .ok (.aload_n 0, 1) := by decide +kernel
theorem dX6_init_110 : decode cX6_init 110 = .ok (.getfield 19, 3) := by decide +kernel
theorem dX6_init_113 : decode cX6_init 113 = .ok (.arraylength, 1) := by decide +kernel
theorem dX6_init_114 : decode cX6_init 114 = .ok (.if_icmp .ge 22, 3) := by decide +kernel
theorem dX6_init_117 : decode cX6_init 117 = .ok (.aload_n 0, 1) := by decide +kernel
theorem dX6_init_118 : decode cX6_init 118 = .ok (.getfield 19, 3) := by decide +kernel
theorem dX6_init_121 : decode cX6_init 121 = .ok (.iload_n 1, 1) := by decide +kernel
theorem dX6_init_122 : decode cX6_init 122 = .ok (.new 7, 3) := by decide +kernel
theorem dX6_init_125 : decode cX6_init 125 = .ok (.dup, 1) := by decide +kernel
theorem dX6_init_126 : decode cX6_init 126 = .ok (.invokespecial 9, 3) := by decide +kernel
theorem dX6_init_129 : decode cX6_init 129 = .ok (.aastore, 1) := by decide +kernel
theorem dX6_init_130 : decode cX6_init 130 = .ok (.iinc 1 1, 3) := by decide +kernel
theorem dX6_init_133 : decode cX6_init 133 = .ok (.goto (-25), 3) := by decide +kernel
theorem dX6_init_136 : decode cX6_init 136 = .ok (.iconst 0, 1) := by decide +kernel
theorem dX6_init_137 : decode cX6_init 137 = .ok (.istore_n 1, 1) := by decide +kernel
theorem dX6_init_138 : decode cX6_init 138 = .ok (.iload_n 1, 1) := by decide +kernel
theorem dX6_init_139 : decode cX6_init 139 = .ok (.aload_n 0, 1) := by decide +kernel
theorem dX6_init_140 : decode cX6_init 140 = .ok (.getfield 23, 3) := by decide +kernel
theorem dX6_init_143 : decode cX6_init 143 = .ok (.arraylength, 1) := by decide +kernel
theorem dX6_init_144 : decode cX6_init 144 = .ok (.if_icmp .ge 22, 3) := by decide +kernel
theorem dX6_init_147 : decode cX6_init 147 = .ok (.aload_n 0, 1) := by decide +kernel
theorem dX6_init_148 : decode cX6_init 148 = .ok (.getfield 23, 3) := by decide +kernel
theorem dX6_init_151 : decode cX6_init 151 = .ok (.iload_n 1, 1) := by decide +kernel
theorem dX6_init_152 : decode cX6_init 152 = .ok (.new 7, 3) := by decide +kernel
theorem dX6_init_155 : decode cX6_init 155 = .ok (.dup, 1) := by decide +kernel
theorem dX6_init_156 : decode cX6_init 156 = .ok (.invokespecial 9, 3) := by decide +kernel
theorem dX6_init_159 : decode cX6_init 159 = .ok (.aastore, 1) := by decide +kernel
theorem dX6_init_160 : decode cX6_init 160 = .ok (.iinc 1 1, 3) := by decide +kernel
theorem dX6_init_163 : decode cX6_init 163 = .ok (.goto (-25), 3) := by decide +kernel
theorem dX6_init_166 : decode cX6_init 166 = .ok (.iconst 0, 1) := by decide +kernel
theorem dX6_init_167 : decode cX6_init 167 = .ok (.istore_n 1, 1) := by decide +kernel
theorem dX6_init_168 : decode cX6_init 168 = .ok (.iload_n 1, 1) := by decide +kernel
theorem dX6_init_169 : decode cX6_init 169 = .ok (.aload_n 0, 1) := by decide +kernel
theorem dX6_init_170 : decode cX6_init 170 = .ok (.getfield 61, 3) := by decide +kernel
theorem dX6_init_173 : decode cX6_init 173 = .ok (.arraylength, 1) := by decide +kernel
theorem dX6_init_174 : decode cX6_init 174 = .ok (.if_icmp .ge 22, 3) := by decide +kernel
theorem dX6_init_177 : decode cX6_init 177 = .ok (.aload_n 0, 1) := by decide +kernel
theorem dX6_init_178 : decode cX6_init 178 = .ok (.getfield 61, 3) := by decide +kernel
theorem dX6_init_181 : decode cX6_init 181 = .ok (.iload_n 1, 1) := by decide +kernel
theorem dX6_init_182 : decode cX6_init 182 = .ok (.new 59, 3) := by decide +kernel
theorem dX6_init_185 : decode cX6_init 185 = .ok (.dup, 1) := by decide +kernel
theorem dX6_init_186 : decode cX6_init 186 = .ok (.invokespecial 65, 3) := by decide +kernel
theorem dX6_init_189 : decode cX6_init 189 = .ok (.aastore, 1) := by decide +kernel
theorem dX6_init_190 : decode cX6_init 190 = .ok (.iinc 1 1, 3) := by decide +kernel
theorem dX6_init_193 : decode cX6_init 193 = .ok (.goto (-25), 3) := by decide +kernel
theorem dX6_init_196 : decode cX6_init 196 = .ok (.return_, 1) := by decide +kernel
theorem dX6_feed_0 : decode cX6_feed 0 = .ok (.iload_n 1, 1) := by decide +kernel
theorem dX6_feed_1 : decode cX6_feed 1 = .ok (.iconst 0, 1) := by decide +kernel
theorem dX6_feed_2 : decode cX6_feed 2 = .ok (.bipush 127, 2) := by decide +kernel
theorem dX6_feed_4 : decode cX6_feed 4 = .ok (.invokestatic 66, 3) := by decide +kernel
theorem dX6_feed_7 : decode cX6_feed 7 = .ok (.ifCond .ne 5, 3) := by decide +kernel
theorem dX6_feed_10 : decode cX6_feed 10 = .ok (.iconst (-1), 1) := by decide +kernel
theorem dX6_feed_11 : decode cX6_feed 11 = .ok (.ireturn, 1) := by decide +kernel
theorem dX6_feed_12 : decode cX6_feed 12 = .ok (.aload_n 0, 1) := by decide +kernel
theorem dX6_feed_13 : decode cX6_feed 13 = .ok (.getfield 41, 3) := by decide +kernel
theorem dX6_feed_16 : decode cX6_feed 16 = .ok (.iload_n 1, 1) := by decide +kernel
theorem dX6_feed_17 : decode cX6_feed 17 = .ok (.invokevirtual 70, 3) := by decide +kernel
theorem dX6_feed_20 : decode cX6_feed 20 = .ok (.ifCond .eq 13, 3) := by decide +kernel
theorem dX6_feed_23 : decode cX6_feed 23 = .ok (.aload_n 0, 1) := by decide +kernel
theorem dX6_feed_24 : decode cX6_feed 24 = .ok (.getfield 41, 3) := by decide +kernel
theorem dX6_feed_27 : decode cX6_feed 27 = .ok (.getfield 76, 3) := by decide +kernel
theorem dX6_feed_30 : decode cX6_feed 30 = .ok (.goto 5, 3) := by decide +kernel
theorem dX6_feed_33 : decode cX6_feed 33 = .ok (.bipush (-3), 2) := by decide +kernel
theorem dX6_feed_35 : decode cX6_feed 35 = .ok (.ireturn, 1) := by decide +kernel
theorem dX6_end_0 : decode cX6_end 0 = .ok (.iload_n 1, 1) := by decide +kernel
theorem dX6_end_1 : decode cX6_end 1 = .ok (.iconst 0, 1) := by decide +kernel
theorem dX6_end_2 : decode cX6_end 2 = .ok (.aload_n 0, 1) := by decide +kernel
theorem dX6_end_3 : decode cX6_end 3 = .ok (.getfield 41, 3) := by decide +kernel
theorem dX6_end_6 : decode cX6_end 6 = .ok (.getfield 76, 3) := by decide +kernel
theorem dX6_end_9 : decode cX6_end 9 = .ok (.invokestatic 66, 3) := by decide +kernel
theorem dX6_end_12 : decode cX6_end 12 = .ok (.ifCond .ne 5, 3) := by decide +kernel
theorem dX6_end_15 : decode cX6_end 15 = .ok (.iconst (-1), 1) := by decide +kernel
theorem dX6_end_16 : decode cX6_end 16 = .ok (.ireturn, 1) := by decide +kernel
theorem dX6_end_17 : decode cX6_end 17 = .ok (.aload_n 0, 1) := by decide +kernel
theorem dX6_end_18 : decode cX6_end 18 = .ok (.getfield 41, 3) := by decide +kernel
theorem dX6_end_21 : decode cX6_end 21 = .ok (.getfield 76, 3) := by decide +kernel
theorem dX6_end_24 : decode cX6_end 24 = .ok (.istore_n 2, 1) := by decide +kernel
theorem dX6_end_25 : decode cX6_end 25 = .ok (.aload_n 0, 1) := by decide +kernel
theorem dX6_end_26 : decode cX6_end 26 = .ok (.getfield 41, 3) := by decide +kernel
theorem dX6_end_29 : decode cX6_end 29 = .ok (.iload_n 1, 1) := by decide +kernel
theorem dX6_end_30 : decode cX6_end 30 = .ok (.putfield 76, 3) := by decide +kernel
theorem dX6_end_33 : decode cX6_end 33 = .ok (.iload_n 2, 1) := by decide +kernel
theorem dX6_end_34 : decode cX6_end 34 = .ok (.ireturn, 1) := by decide +kernel
theorem dX6_text_0 : decode cX6_text 0 = .ok (.aload_n 0, 1) := by decide +kernel
theorem dX6_text_1 : decode cX6_text 1 = .ok (.getfield 33, 3) := by decide +kernel
theorem dX6_text_4 : decode cX6_text 4 = .ok (.aload_n 0, 1) := by decide +kernel
theorem dX6_text_5 : decode cX6_text 5 = .ok (.getfield 16, 3) := by decide +kernel
theorem dX6_text_8 : decode cX6_text 8 = .ok (.invokevirtual 80, 3) := by decide +kernel
theorem dX6_text_11 : decode cX6_text 11 = .ok (.istore_n 1, 1) := by decide +kernel
theorem dX6_text_12 : decode cX6_text 12 = .ok (.aload_n 0, 1) := by decide +kernel
theorem dX6_text_13 : decode cX6_text 13 = .ok (.getfield 41, 3) := by decide +kernel
theorem dX6_text_16 : decode cX6_text 16 = .ok (.iconst 0, 1) := by decide +kernel
theorem dX6_text_17 : decode cX6_text 17 = .ok (.putfield 76, 3) := by decide +kernel
theorem dX6_text_20 : decode cX6_text 20 = .ok (.aload_n 0, 1) := by decide +kernel
theorem dX6_text_21 : decode cX6_text 21 = .ok (.aload_n 0, 1) := by decide +kernel
theorem dX6_text_22 : decode cX6_text 22 = .ok (.getfield 33, 3) := by decide +kernel
theorem dX6_text_25 : decode cX6_text 25 = .ok (.getfield 84, 3) := by decide +kernel
theorem dX6_text_28 : decode cX6_text 28 = .ok (.putfield 87, 3) := by decide +kernel
theorem dX6_text_31 : decode cX6_text 31 = .ok (.aload_n 0, 1) := by decide +kernel
theorem dX6_text_32 : decode cX6_text 32 = .ok (.getfield 87, 3) := by decide +kernel
theorem dX6_text_35 : decode cX6_text 35 = .ok (.ifCond .eq 14, 3) := by decide +kernel
theorem dX6_text_38 : decode cX6_text 38 = .ok (.bipush (-10), 2) := by decide +kernel
theorem dX6_text_40 : decode cX6_text 40 = .ok (.aload_n 0, 1) := by decide +kernel
theorem dX6_text_41 : decode cX6_text 41 = .ok (.getfield 33, 3) := by decide +kernel
theorem dX6_text_44 : decode cX6_text 44 = .ok (.getfield 90, 3) := by decide +kernel
theorem dX6_text_47 : decode cX6_text 47 = .ok (.isub, 1) := by decide +kernel
theorem dX6_text_48 : decode cX6_text 48 = .ok (.ireturn, 1) := by decide +kernel
theorem dX6_text_49 : decode cX6_text 49 = .ok (.aload_n 0, 1) := by decide +kernel
theorem dX6_text_50 : decode cX6_text 50 = .ok (.getfield 10, 3) := by decide +kernel
theorem dX6_text_53 : decode cX6_text 53 = .ok (.aload_n 0, 1) := by decide +kernel
theorem dX6_text_54 : decode cX6_text 54 = .ok (.getfield 16, 3) := by decide +kernel
theorem dX6_text_57 : decode cX6_text 57 = .ok (.invokevirtual 93, 3) := by decide +kernel
theorem dX6_text_60 : decode cX6_text 60 = .ok (.aload_n 0, 1) := by decide +kernel
theorem dX6_text_61 : decode cX6_text 61 = .ok (.getfield 47, 3) := by decide +kernel
theorem dX6_text_64 : decode cX6_text 64 = .ok (.iconst 0, 1) := by decide +kernel
theorem dX6_text_65 : decode cX6_text 65 = .ok (.putfield 97, 3) := by decide +kernel
theorem dX6_text_68 : decode cX6_text 68 = .ok (.iconst 0, 1) := by decide +kernel
theorem dX6_text_69 : decode cX6_text 69 = .ok (.istore_n 2, 1) := by decide +kernel
theorem dX6_text_70 : decode cX6_text 70 = .ok (.iload_n 2, 1) := by decide +kernel
theorem dX6_text_71 : decode cX6_text 71 = .ok (.aload_n 0, 1) := by decide +kernel
theorem dX6_text_72 : decode cX6_text 72 = .ok (.getfield 26, 3) := by decide +kernel
theorem dX6_text_75 : decode cX6_text 75 = .ok (.arraylength, 1) := by decide +kernel
theorem dX6_text_76 : decode cX6_text 76 = .ok (.if_icmp .ge 16, 3) := by decide +kernel
theorem dX6_text_79 : decode cX6_text 79 = .ok (.aload_n 0, 1) := by decide +kernel
theorem dX6_text_80 : decode cX6_text 80 = .ok (.getfield 26, 3) := by decide +kernel
theorem dX6_text_83 : decode cX6_text 83 = .ok (.iload_n 2, 1) := by decide +kernel
theorem dX6_text_84 : decode cX6_text 84 = .ok (.iconst 0, 1) := by decide +kernel
theorem dX6_text_85 : decode cX6_text 85 = .ok (.bastore, 1) := by decide +kernel
theorem dX6_text_86 : decode cX6_text 86 = .ok (.iinc 2 1, 3) := by decide +kernel
theorem dX6_text_89 : decode cX6_text 89 = .ok (.goto (-19), 3) := by decide +kernel
theorem dX6_text_92 : decode cX6_text 92 = .ok (.iload_n 1, 1) := by decide +kernel
theorem dX6_text_93 : decode cX6_text 93 = .ok (.ireturn, 1) := by decide +kernel
theorem dX6_fault_0 : decode cX6_fault 0 = .ok (.aload_n 0, 1) := by decide +kernel
theorem dX6_fault_1 : decode cX6_fault 1 = .ok (.getfield 87, 3) := by decide +kernel
theorem dX6_fault_4 : decode cX6_fault 4 = .ok (.ireturn, 1) := by decide +kernel
theorem dX6_rule_0 : decode cX6_rule 0 = .ok (.iload_n 1, 1) := by decide +kernel
theorem dX6_rule_1 : decode cX6_rule 1 = .ok (.tableswitch 141 0 8 #[51, 59, 67, 75, 83, 91, 100, 108, 132], 51) := by decide +kernel
theorem dX6_rule_52 : decode cX6_rule 52 = .ok (.aload_n 0, 1) := by decide +kernel
theorem dX6_rule_53 : decode cX6_rule 53 = .ok (.getfield 10, 3) := by decide +kernel
theorem dX6_rule_56 : decode cX6_rule 56 = .ok (.getfield 100, 3) := by decide +kernel
theorem dX6_rule_59 : decode cX6_rule 59 = .ok (.ireturn, 1) := by decide +kernel
theorem dX6_rule_60 : decode cX6_rule 60 = .ok (.aload_n 0, 1) := by decide +kernel
theorem dX6_rule_61 : decode cX6_rule 61 = .ok (.getfield 10, 3) := by decide +kernel
theorem dX6_rule_64 : decode cX6_rule 64 = .ok (.getfield 103, 3) := by decide +kernel
theorem dX6_rule_67 : decode cX6_rule 67 = .ok (.ireturn, 1) := by decide +kernel
theorem dX6_rule_68 : decode cX6_rule 68 = .ok (.aload_n 0, 1) := by decide +kernel
theorem dX6_rule_69 : decode cX6_rule 69 = .ok (.getfield 10, 3) := by decide +kernel
theorem dX6_rule_72 : decode cX6_rule 72 = .ok (.getfield 106, 3) := by decide +kernel
theorem dX6_rule_75 : decode cX6_rule 75 = .ok (.ireturn, 1) := by decide +kernel
theorem dX6_rule_76 : decode cX6_rule 76 = .ok (.aload_n 0, 1) := by decide +kernel
theorem dX6_rule_77 : decode cX6_rule 77 = .ok (.getfield 10, 3) := by decide +kernel
theorem dX6_rule_80 : decode cX6_rule 80 = .ok (.getfield 109, 3) := by decide +kernel
theorem dX6_rule_83 : decode cX6_rule 83 = .ok (.ireturn, 1) := by decide +kernel
theorem dX6_rule_84 : decode cX6_rule 84 = .ok (.aload_n 0, 1) := by decide +kernel
theorem dX6_rule_85 : decode cX6_rule 85 = .ok (.getfield 10, 3) := by decide +kernel
theorem dX6_rule_88 : decode cX6_rule 88 = .ok (.getfield 112, 3) := by decide +kernel
theorem dX6_rule_91 : decode cX6_rule 91 = .ok (.ireturn, 1) := by decide +kernel
theorem dX6_rule_92 : decode cX6_rule 92 = .ok (.aload_n 0, 1) := by decide +kernel
theorem dX6_rule_93 : decode cX6_rule 93 = .ok (.getfield 10, 3) := by decide +kernel
theorem dX6_rule_96 : decode cX6_rule 96 = .ok (.iconst 5, 1) := by decide +kernel
theorem dX6_rule_97 : decode cX6_rule 97 = .ok (.invokevirtual 115, 3) := by decide +kernel
theorem dX6_rule_100 : decode cX6_rule 100 = .ok (.ireturn, 1) := by decide +kernel
theorem dX6_rule_101 : decode cX6_rule 101 = .ok (.aload_n 0, 1) := by decide +kernel
theorem dX6_rule_102 : decode cX6_rule 102 = .ok (.getfield 10, 3) := by decide +kernel
theorem dX6_rule_105 : decode cX6_rule 105 = .ok (.invokevirtual 119, 3) := by decide +kernel
theorem dX6_rule_108 : decode cX6_rule 108 = .ok (.ireturn, 1) := by decide +kernel
theorem dX6_rule_109 : decode cX6_rule 109 = .ok (.aload_n 0, 1) := by decide +kernel
theorem dX6_rule_110 : decode cX6_rule 110 = .ok (.getfield 10, 3) := by decide +kernel
theorem dX6_rule_113 : decode cX6_rule 113 = .ok (.invokevirtual 123, 3) := by decide +kernel
theorem dX6_rule_116 : decode cX6_rule 116 = .ok (.iconst 4, 1) := by decide +kernel
theorem dX6_rule_117 : decode cX6_rule 117 = .ok (.if_icmp .ne 8, 3) := by decide +kernel
theorem dX6_rule_120 : decode cX6_rule 120 = .ok (.bipush (-4), 2) := by decide +kernel
theorem dX6_rule_122 : decode cX6_rule 122 = .ok (.goto 10, 3) := by decide +kernel
theorem dX6_rule_125 : decode cX6_rule 125 = .ok (.aload_n 0, 1) := by decide +kernel
theorem dX6_rule_126 : decode cX6_rule 126 = .ok (.getfield 10, 3) := by decide +kernel
theorem dX6_rule_129 : decode cX6_rule 129 = .ok (.invokevirtual 123, 3) := by decide +kernel
theorem dX6_rule_132 : decode cX6_rule 132 = .ok (.ireturn, 1) := by decide +kernel
theorem dX6_rule_133 : decode cX6_rule 133 = .ok (.aload_n 0, 1) := by decide +kernel
theorem dX6_rule_134 : decode cX6_rule 134 = .ok (.getfield 10, 3) := by decide +kernel
theorem dX6_rule_137 : decode cX6_rule 137 = .ok (.iconst 3, 1) := by decide +kernel
theorem dX6_rule_138 : decode cX6_rule 138 = .ok (.invokevirtual 115, 3) := by decide +kernel
theorem dX6_rule_141 : decode cX6_rule 141 = .ok (.ireturn, 1) := by decide +kernel
theorem dX6_rule_142 : decode cX6_rule 142 = .ok (.iconst (-1), 1) := by decide +kernel
theorem dX6_rule_143 : decode cX6_rule 143 = .ok (.ireturn, 1) := by decide +kernel
theorem dX6_geyser_0 : decode cX6_geyser 0 = .ok (.aload_n 0, 1) := by decide +kernel
theorem dX6_geyser_1 : decode cX6_geyser 1 = .ok (.getfield 10, 3) := by decide +kernel
theorem dX6_geyser_4 : decode cX6_geyser 4 = .ok (.iload_n 1, 1) := by decide +kernel
theorem dX6_geyser_5 : decode cX6_geyser 5 = .ok (.invokevirtual 126, 3) := by decide +kernel
theorem dX6_geyser_8 : decode cX6_geyser 8 = .ok (.ifCond .ne 5, 3) := by decide +kernel
theorem dX6_geyser_11 : decode cX6_geyser 11 = .ok (.iconst (-1), 1) := by decide +kernel
theorem dX6_geyser_12 : decode cX6_geyser 12 = .ok (.ireturn, 1) := by decide +kernel
theorem dX6_geyser_13 : decode cX6_geyser 13 = .ok (.iload_n 2, 1) := by decide +kernel
theorem dX6_geyser_14 : decode cX6_geyser 14 = .ok (.lookupswitch 55 #[(6, 26), (7, 35)], 26) := by decide +kernel
theorem dX6_geyser_40 : decode cX6_geyser 40 = .ok (.aload_n 0, 1) := by decide +kernel
theorem dX6_geyser_41 : decode cX6_geyser 41 = .ok (.getfield 10, 3) := by decide +kernel
theorem dX6_geyser_44 : decode cX6_geyser 44 = .ok (.iload_n 1, 1) := by decide +kernel
theorem dX6_geyser_45 : decode cX6_geyser 45 = .ok (.invokevirtual 129, 3) := by decide +kernel
theorem dX6_geyser_48 : decode cX6_geyser 48 = .ok (.ireturn, 1) := by decide +kernel
theorem dX6_geyser_49 : decode cX6_geyser 49 = .ok (.aload_n 0, 1) := by decide +kernel
theorem dX6_geyser_50 : decode cX6_geyser 50 = .ok (.getfield 10, 3) := by decide +kernel
theorem dX6_geyser_53 : decode cX6_geyser 53 = .ok (.getfield 132, 3) := by decide +kernel
theorem dX6_geyser_56 : decode cX6_geyser 56 = .ok (.iload_n 1, 1) := by decide +kernel
theorem dX6_geyser_57 : decode cX6_geyser 57 = .ok (.aaload, 1) := by decide +kernel
theorem dX6_geyser_58 : decode cX6_geyser 58 = .ok (.aload_n 0, 1) := by decide +kernel
theorem dX6_geyser_59 : decode cX6_geyser 59 = .ok (.getfield 10, 3) := by decide +kernel
theorem dX6_geyser_62 : decode cX6_geyser 62 = .ok (.invokevirtual 119, 3) := by decide +kernel
theorem dX6_geyser_65 : decode cX6_geyser 65 = .ok (.invokevirtual 136, 3) := by decide +kernel
theorem dX6_geyser_68 : decode cX6_geyser 68 = .ok (.ireturn, 1) := by decide +kernel
theorem dX6_geyser_69 : decode cX6_geyser 69 = .ok (.iload_n 2, 1) := by decide +kernel
theorem dX6_geyser_70 : decode cX6_geyser 70 = .ok (.iconst 0, 1) := by decide +kernel
theorem dX6_geyser_71 : decode cX6_geyser 71 = .ok (.iconst 5, 1) := by decide +kernel
theorem dX6_geyser_72 : decode cX6_geyser 72 = .ok (.invokestatic 66, 3) := by decide +kernel
theorem dX6_geyser_75 : decode cX6_geyser 75 = .ok (.ifCond .eq 19, 3) := by decide +kernel
theorem dX6_geyser_78 : decode cX6_geyser 78 = .ok (.aload_n 0, 1) := by decide +kernel
theorem dX6_geyser_79 : decode cX6_geyser 79 = .ok (.getfield 10, 3) := by decide +kernel
theorem dX6_geyser_82 : decode cX6_geyser 82 = .ok (.getfield 132, 3) := by decide +kernel
theorem dX6_geyser_85 : decode cX6_geyser 85 = .ok (.iload_n 1, 1) := by decide +kernel
theorem dX6_geyser_86 : decode cX6_geyser 86 = .ok (.aaload, 1) := by decide +kernel
theorem dX6_geyser_87 : decode cX6_geyser 87 = .ok (.iload_n 2, 1) := by decide +kernel
theorem dX6_geyser_88 : decode cX6_geyser 88 = .ok (.invokevirtual 141, 3) := by decide +kernel
theorem dX6_geyser_91 : decode cX6_geyser 91 = .ok (.goto 4, 3) := by decide +kernel
theorem dX6_geyser_94 : decode cX6_geyser 94 = .ok (.iconst (-1), 1) := by decide +kernel
theorem dX6_geyser_95 : decode cX6_geyser 95 = .ok (.ireturn, 1) := by decide +kernel
theorem dX6_row_0 : decode cX6_row 0 = .ok (.aload_n 0, 1) := by decide +kernel
theorem dX6_row_1 : decode cX6_row 1 = .ok (.getfield 10, 3) := by decide +kernel
theorem dX6_row_4 : decode cX6_row 4 = .ok (.iload_n 1, 1) := by decide +kernel
theorem dX6_row_5 : decode cX6_row 5 = .ok (.invokevirtual 144, 3) := by decide +kernel
theorem dX6_row_8 : decode cX6_row 8 = .ok (.ifCond .eq 12, 3) := by decide +kernel
theorem dX6_row_11 : decode cX6_row 11 = .ok (.iload_n 2, 1) := by decide +kernel
theorem dX6_row_12 : decode cX6_row 12 = .ok (.iconst 0, 1) := by decide +kernel
theorem dX6_row_13 : decode cX6_row 13 = .ok (.iconst 1, 1) := by decide +kernel
theorem dX6_row_14 : decode cX6_row 14 = .ok (.invokestatic 66, 3) := by decide +kernel
theorem dX6_row_17 : decode cX6_row 17 = .ok (.ifCond .ne 5, 3) := by decide +kernel
theorem dX6_row_20 : decode cX6_row 20 = .ok (.iconst (-1), 1) := by decide +kernel
theorem dX6_row_21 : decode cX6_row 21 = .ok (.ireturn, 1) := by decide +kernel
theorem dX6_row_22 : decode cX6_row 22 = .ok (.iload_n 2, 1) := by decide +kernel
theorem dX6_row_23 : decode cX6_row 23 = .ok (.ifCond .ne 15, 3) := by decide +kernel
theorem dX6_row_26 : decode cX6_row 26 = .ok (.aload_n 0, 1) := by decide +kernel
theorem dX6_row_27 : decode cX6_row 27 = .ok (.getfield 10, 3) := by decide +kernel
theorem dX6_row_30 : decode cX6_row 30 = .ok (.getfield 147, 3) := by decide +kernel
theorem dX6_row_33 : decode cX6_row 33 = .ok (.iload_n 1, 1) := by decide +kernel
theorem dX6_row_34 : decode cX6_row 34 = .ok (.iaload, 1) := by decide +kernel
theorem dX6_row_35 : decode cX6_row 35 = .ok (.goto 12, 3) := by decide +kernel
theorem dX6_row_38 : decode cX6_row 38 = .ok (.aload_n 0, 1) := by decide +kernel
theorem dX6_row_39 : decode cX6_row 39 = .ok (.getfield 10, 3) := by decide +kernel
theorem dX6_row_42 : decode cX6_row 42 = .ok (.getfield 150, 3) := by decide +kernel
theorem dX6_row_45 : decode cX6_row 45 = .ok (.iload_n 1, 1) := by decide +kernel
theorem dX6_row_46 : decode cX6_row 46 = .ok (.iaload, 1) := by decide +kernel
theorem dX6_row_47 : decode cX6_row 47 = .ok (.ireturn, 1) := by decide +kernel
theorem dX6_alter_0 : decode cX6_alter 0 = .ok (.aload_n 0, 1) := by decide +kernel
theorem dX6_alter_1 : decode cX6_alter 1 = .ok (.getfield 10, 3) := by decide +kernel
theorem dX6_alter_4 : decode cX6_alter 4 = .ok (.iload_n 1, 1) := by decide +kernel
theorem dX6_alter_5 : decode cX6_alter 5 = .ok (.invokevirtual 126, 3) := by decide +kernel
theorem dX6_alter_8 : decode cX6_alter 8 = .ok (.ifCond .eq 11, 3) := by decide +kernel
theorem dX6_alter_11 : decode cX6_alter 11 = .ok (.iload_n 2, 1) := by decide +kernel
theorem dX6_alter_12 : decode cX6_alter 12 = .ok (.iload_n 3, 1) := by decide +kernel
theorem dX6_alter_13 : decode cX6_alter 13 = .ok (.invokestatic 153, 3) := by decide +kernel
theorem dX6_alter_16 : decode cX6_alter 16 = .ok (.ifCond .ne 5, 3) := by decide +kernel
theorem dX6_alter_19 : decode cX6_alter 19 = .ok (.iconst (-1), 1) := by decide +kernel
theorem dX6_alter_20 : decode cX6_alter 20 = .ok (.ireturn, 1) := by decide +kernel
theorem dX6_alter_21 : decode cX6_alter 21 = .ok (.aload_n 0, 1) := by decide +kernel
theorem dX6_alter_22 : decode cX6_alter 22 = .ok (.getfield 10, 3) := by decide +kernel
theorem dX6_alter_25 : decode cX6_alter 25 = .ok (.getfield 132, 3) := by decide +kernel
theorem dX6_alter_28 : decode cX6_alter 28 = .ok (.iload_n 1, 1) := by decide +kernel
theorem dX6_alter_29 : decode cX6_alter 29 = .ok (.aaload, 1) := by decide +kernel
theorem dX6_alter_30 : decode cX6_alter 30 = .ok (.iload_n 2, 1) := by decide +kernel
theorem dX6_alter_31 : decode cX6_alter 31 = .ok (.invokevirtual 141, 3) := by decide +kernel
theorem dX6_alter_34 : decode cX6_alter 34 = .ok (.istore 4, 2) := by decide +kernel
theorem dX6_alter_36 : decode cX6_alter 36 = .ok (.aload_n 0, 1) := by decide +kernel
theorem dX6_alter_37 : decode cX6_alter 37 = .ok (.getfield 10, 3) := by decide +kernel
theorem dX6_alter_40 : decode cX6_alter 40 = .ok (.getfield 132, 3) := by decide +kernel
theorem dX6_alter_43 : decode cX6_alter 43 = .ok (.iload_n 1, 1) := by decide +kernel
theorem dX6_alter_44 : decode cX6_alter 44 = .ok (.aaload, 1) := by decide +kernel
theorem dX6_alter_45 : decode cX6_alter 45 = .ok (.iload_n 2, 1) := by decide +kernel
theorem dX6_alter_46 : decode cX6_alter 46 = .ok (.iload_n 3, 1) := by decide +kernel
theorem dX6_alter_47 : decode cX6_alter 47 = .ok (.invokevirtual 157, 3) := by decide +kernel
theorem dX6_alter_50 : decode cX6_alter 50 = .ok (.iload 4, 2) := by decide +kernel
theorem dX6_alter_52 : decode cX6_alter 52 = .ok (.ireturn, 1) := by decide +kernel
theorem dX6_fitsVent_0 : decode cX6_fitsVent 0 = .ok (.iload_n 0, 1) := by decide +kernel
theorem dX6_fitsVent_1 : decode cX6_fitsVent 1 = .ok (.tableswitch 75 0 4 #[35, 42, 50, 58, 67], 35) := by decide +kernel
theorem dX6_fitsVent_36 : decode cX6_fitsVent 36 = .ok (.iload_n 1, 1) := by decide +kernel
theorem dX6_fitsVent_37 : decode cX6_fitsVent 37 = .ok (.iconst 0, 1) := by decide +kernel
theorem dX6_fitsVent_38 : decode cX6_fitsVent 38 = .ok (.iconst 3, 1) := by decide +kernel
theorem dX6_fitsVent_39 : decode cX6_fitsVent 39 = .ok (.invokestatic 66, 3) := by decide +kernel
theorem dX6_fitsVent_42 : decode cX6_fitsVent 42 = .ok (.ireturn, 1) := by decide +kernel
theorem dX6_fitsVent_43 : decode cX6_fitsVent 43 = .ok (.iload_n 1, 1) := by decide +kernel
theorem dX6_fitsVent_44 : decode cX6_fitsVent 44 = .ok (.iconst 1, 1) := by decide +kernel
theorem dX6_fitsVent_45 : decode cX6_fitsVent 45 = .ok (.bipush 60, 2) := by decide +kernel
theorem dX6_fitsVent_47 : decode cX6_fitsVent 47 = .ok (.invokestatic 66, 3) := by decide +kernel
theorem dX6_fitsVent_50 : decode cX6_fitsVent 50 = .ok (.ireturn, 1) := by decide +kernel
theorem dX6_fitsVent_51 : decode cX6_fitsVent 51 = .ok (.iload_n 1, 1) := by decide +kernel
theorem dX6_fitsVent_52 : decode cX6_fitsVent 52 = .ok (.iconst 0, 1) := by decide +kernel
theorem dX6_fitsVent_53 : decode cX6_fitsVent 53 = .ok (.bipush 9, 2) := by decide +kernel
theorem dX6_fitsVent_55 : decode cX6_fitsVent 55 = .ok (.invokestatic 66, 3) := by decide +kernel
theorem dX6_fitsVent_58 : decode cX6_fitsVent 58 = .ok (.ireturn, 1) := by decide +kernel
theorem dX6_fitsVent_59 : decode cX6_fitsVent 59 = .ok (.iload_n 1, 1) := by decide +kernel
theorem dX6_fitsVent_60 : decode cX6_fitsVent 60 = .ok (.iconst 0, 1) := by decide +kernel
theorem dX6_fitsVent_61 : decode cX6_fitsVent 61 = .ok (.sipush 199, 3) := by decide +kernel
theorem dX6_fitsVent_64 : decode cX6_fitsVent 64 = .ok (.invokestatic 66, 3) := by decide +kernel
theorem dX6_fitsVent_67 : decode cX6_fitsVent 67 = .ok (.ireturn, 1) := by decide +kernel
theorem dX6_fitsVent_68 : decode cX6_fitsVent 68 = .ok (.iload_n 1, 1) := by decide +kernel
theorem dX6_fitsVent_69 : decode cX6_fitsVent 69 = .ok (.iconst 0, 1) := by decide +kernel
theorem dX6_fitsVent_70 : decode cX6_fitsVent 70 = .ok (.bipush 20, 2) := by decide +kernel
theorem dX6_fitsVent_72 : decode cX6_fitsVent 72 = .ok (.invokestatic 66, 3) := by decide +kernel
theorem dX6_fitsVent_75 : decode cX6_fitsVent 75 = .ok (.ireturn, 1) := by decide +kernel
theorem dX6_fitsVent_76 : decode cX6_fitsVent 76 = .ok (.iconst 0, 1) := by decide +kernel
theorem dX6_fitsVent_77 : decode cX6_fitsVent 77 = .ok (.ireturn, 1) := by decide +kernel
theorem dX6_tell_0 : decode cX6_tell 0 = .ok (.iconst (-1), 1) := by decide +kernel
theorem dX6_tell_1 : decode cX6_tell 1 = .ok (.istore_n 3, 1) := by decide +kernel
theorem dX6_tell_2 : decode cX6_tell 2 = .ok (.iload_n 1, 1) := by decide +kernel
theorem dX6_tell_3 : decode cX6_tell 3 = .ok (.ifCond .ne 32, 3) := by decide +kernel
theorem dX6_tell_6 : decode cX6_tell 6 = .ok (.iload_n 2, 1) := by decide +kernel
theorem dX6_tell_7 : decode cX6_tell 7 = .ok (.iconst 0, 1) := by decide +kernel
theorem dX6_tell_8 : decode cX6_tell 8 = .ok (.bipush 40, 2) := by decide +kernel
theorem dX6_tell_10 : decode cX6_tell 10 = .ok (.invokestatic 66, 3) := by decide +kernel
theorem dX6_tell_13 : decode cX6_tell 13 = .ok (.ifCond .eq 22, 3) := by decide +kernel
theorem dX6_tell_16 : decode cX6_tell 16 = .ok (.aload_n 0, 1) := by decide +kernel
theorem dX6_tell_17 : decode cX6_tell 17 = .ok (.getfield 10, 3) := by decide +kernel
theorem dX6_tell_20 : decode cX6_tell 20 = .ok (.getfield 109, 3) := by decide +kernel
theorem dX6_tell_23 : decode cX6_tell 23 = .ok (.istore_n 3, 1) := by decide +kernel
theorem dX6_tell_24 : decode cX6_tell 24 = .ok (.aload_n 0, 1) := by decide +kernel
theorem dX6_tell_25 : decode cX6_tell 25 = .ok (.getfield 10, 3) := by decide +kernel
theorem dX6_tell_28 : decode cX6_tell 28 = .ok (.iload_n 2, 1) := by decide +kernel
theorem dX6_tell_29 : decode cX6_tell 29 = .ok (.putfield 109, 3) := by decide +kernel
theorem dX6_tell_32 : decode cX6_tell 32 = .ok (.goto 34, 3) := by decide +kernel
theorem dX6_tell_35 : decode cX6_tell 35 = .ok (.iload_n 1, 1) := by decide +kernel
theorem dX6_tell_36 : decode cX6_tell 36 = .ok (.iconst 1, 1) := by decide +kernel
theorem dX6_tell_37 : decode cX6_tell 37 = .ok (.if_icmp .ne 29, 3) := by decide +kernel
theorem dX6_tell_40 : decode cX6_tell 40 = .ok (.iload_n 2, 1) := by decide +kernel
theorem dX6_tell_41 : decode cX6_tell 41 = .ok (.iconst 0, 1) := by decide +kernel
theorem dX6_tell_42 : decode cX6_tell 42 = .ok (.bipush 20, 2) := by decide +kernel
theorem dX6_tell_44 : decode cX6_tell 44 = .ok (.invokestatic 66, 3) := by decide +kernel
theorem dX6_tell_47 : decode cX6_tell 47 = .ok (.ifCond .eq 19, 3) := by decide +kernel
theorem dX6_tell_50 : decode cX6_tell 50 = .ok (.aload_n 0, 1) := by decide +kernel
theorem dX6_tell_51 : decode cX6_tell 51 = .ok (.getfield 10, 3) := by decide +kernel
theorem dX6_tell_54 : decode cX6_tell 54 = .ok (.getfield 112, 3) := by decide +kernel
theorem dX6_tell_57 : decode cX6_tell 57 = .ok (.istore_n 3, 1) := by decide +kernel
theorem dX6_tell_58 : decode cX6_tell 58 = .ok (.aload_n 0, 1) := by decide +kernel
theorem dX6_tell_59 : decode cX6_tell 59 = .ok (.getfield 10, 3) := by decide +kernel
theorem dX6_tell_62 : decode cX6_tell 62 = .ok (.iload_n 2, 1) := by decide +kernel
theorem dX6_tell_63 : decode cX6_tell 63 = .ok (.putfield 112, 3) := by decide +kernel
theorem dX6_tell_66 : decode cX6_tell 66 = .ok (.iload_n 3, 1) := by decide +kernel
theorem dX6_tell_67 : decode cX6_tell 67 = .ok (.ireturn, 1) := by decide +kernel
theorem dX6_set_0 : decode cX6_set 0 = .ok (.iconst (-1), 1) := by decide +kernel
theorem dX6_set_1 : decode cX6_set 1 = .ok (.istore 4, 2) := by decide +kernel
theorem dX6_set_3 : decode cX6_set 3 = .ok (.aload_n 0, 1) := by decide +kernel
theorem dX6_set_4 : decode cX6_set 4 = .ok (.getfield 10, 3) := by decide +kernel
theorem dX6_set_7 : decode cX6_set 7 = .ok (.iload_n 1, 1) := by decide +kernel
theorem dX6_set_8 : decode cX6_set 8 = .ok (.invokevirtual 144, 3) := by decide +kernel
theorem dX6_set_11 : decode cX6_set 11 = .ok (.ifCond .ne 5, 3) := by decide +kernel
theorem dX6_set_14 : decode cX6_set 14 = .ok (.iconst (-1), 1) := by decide +kernel
theorem dX6_set_15 : decode cX6_set 15 = .ok (.ireturn, 1) := by decide +kernel
theorem dX6_set_16 : decode cX6_set 16 = .ok (.iload_n 2, 1) := by decide +kernel
theorem dX6_set_17 : decode cX6_set 17 = .ok (.ifCond .ne 37, 3) := by decide +kernel
theorem dX6_set_20 : decode cX6_set 20 = .ok (.iload_n 3, 1) := by decide +kernel
theorem dX6_set_21 : decode cX6_set 21 = .ok (.iconst 0, 1) := by decide +kernel
theorem dX6_set_22 : decode cX6_set 22 = .ok (.bipush 9, 2) := by decide +kernel
theorem dX6_set_24 : decode cX6_set 24 = .ok (.invokestatic 66, 3) := by decide +kernel
theorem dX6_set_27 : decode cX6_set 27 = .ok (.ifCond .eq 27, 3) := by decide +kernel
theorem dX6_set_30 : decode cX6_set 30 = .ok (.aload_n 0, 1) := by decide +kernel
theorem dX6_set_31 : decode cX6_set 31 = .ok (.getfield 10, 3) := by decide +kernel
theorem dX6_set_34 : decode cX6_set 34 = .ok (.getfield 147, 3) := by decide +kernel
theorem dX6_set_37 : decode cX6_set 37 = .ok (.iload_n 1, 1) := by decide +kernel
theorem dX6_set_38 : decode cX6_set 38 = .ok (.iaload, 1) := by decide +kernel
theorem dX6_set_39 : decode cX6_set 39 = .ok (.istore 4, 2) := by decide +kernel
theorem dX6_set_41 : decode cX6_set 41 = .ok (.aload_n 0, 1) := by decide +kernel
theorem dX6_set_42 : decode cX6_set 42 = .ok (.getfield 10, 3) := by decide +kernel
theorem dX6_set_45 : decode cX6_set 45 = .ok (.getfield 147, 3) := by decide +kernel
theorem dX6_set_48 : decode cX6_set 48 = .ok (.iload_n 1, 1) := by decide +kernel
theorem dX6_set_49 : decode cX6_set 49 = .ok (.iload_n 3, 1) := by decide +kernel
theorem dX6_set_50 : decode cX6_set 50 = .ok (.iastore, 1) := by decide +kernel
theorem dX6_set_51 : decode cX6_set 51 = .ok (.goto 38, 3) := by decide +kernel
theorem dX6_set_54 : decode cX6_set 54 = .ok (.iload_n 2, 1) := by decide +kernel
theorem dX6_set_55 : decode cX6_set 55 = .ok (.iconst 1, 1) := by decide +kernel
theorem dX6_set_56 : decode cX6_set 56 = .ok (.if_icmp .ne 33, 3) := by decide +kernel
theorem dX6_set_59 : decode cX6_set 59 = .ok (.iload_n 3, 1) := by decide +kernel
theorem dX6_set_60 : decode cX6_set 60 = .ok (.iconst 0, 1) := by decide +kernel
theorem dX6_set_61 : decode cX6_set 61 = .ok (.iconst 4, 1) := by decide +kernel
theorem dX6_set_62 : decode cX6_set 62 = .ok (.invokestatic 66, 3) := by decide +kernel
theorem dX6_set_65 : decode cX6_set 65 = .ok (.ifCond .eq 24, 3) := by decide +kernel
theorem dX6_set_68 : decode cX6_set 68 = .ok (.aload_n 0, 1) := by decide +kernel
theorem dX6_set_69 : decode cX6_set 69 = .ok (.getfield 10, 3) := by decide +kernel
theorem dX6_set_72 : decode cX6_set 72 = .ok (.getfield 150, 3) := by decide +kernel
theorem dX6_set_75 : decode cX6_set 75 = .ok (.iload_n 1, 1) := by decide +kernel
theorem dX6_set_76 : decode cX6_set 76 = .ok (.iaload, 1) := by decide +kernel
theorem dX6_set_77 : decode cX6_set 77 = .ok (.istore 4, 2) := by decide +kernel
theorem dX6_set_79 : decode cX6_set 79 = .ok (.aload_n 0, 1) := by decide +kernel
theorem dX6_set_80 : decode cX6_set 80 = .ok (.getfield 10, 3) := by decide +kernel
theorem dX6_set_83 : decode cX6_set 83 = .ok (.getfield 150, 3) := by decide +kernel
theorem dX6_set_86 : decode cX6_set 86 = .ok (.iload_n 1, 1) := by decide +kernel
theorem dX6_set_87 : decode cX6_set 87 = .ok (.iload_n 3, 1) := by decide +kernel
theorem dX6_set_88 : decode cX6_set 88 = .ok (.iastore, 1) := by decide +kernel
theorem dX6_set_89 : decode cX6_set 89 = .ok (.iload 4, 2) := by decide +kernel
theorem dX6_set_91 : decode cX6_set 91 = .ok (.ireturn, 1) := by decide +kernel
theorem dX6_open_0 : decode cX6_open 0 = .ok (.iconst 0, 1) := by decide +kernel
theorem dX6_open_1 : decode cX6_open 1 = .ok (.iload_n 1, 1) := by decide +kernel
theorem dX6_open_2 : decode cX6_open 2 = .ok (.invokestatic 153, 3) := by decide +kernel
theorem dX6_open_5 : decode cX6_open 5 = .ok (.ifCond .eq 19, 3) := by decide +kernel
theorem dX6_open_8 : decode cX6_open 8 = .ok (.iconst 1, 1) := by decide +kernel
theorem dX6_open_9 : decode cX6_open 9 = .ok (.iload_n 2, 1) := by decide +kernel
theorem dX6_open_10 : decode cX6_open 10 = .ok (.invokestatic 153, 3) := by decide +kernel
theorem dX6_open_13 : decode cX6_open 13 = .ok (.ifCond .eq 11, 3) := by decide +kernel
theorem dX6_open_16 : decode cX6_open 16 = .ok (.iconst 2, 1) := by decide +kernel
theorem dX6_open_17 : decode cX6_open 17 = .ok (.iload_n 3, 1) := by decide +kernel
theorem dX6_open_18 : decode cX6_open 18 = .ok (.invokestatic 153, 3) := by decide +kernel
theorem dX6_open_21 : decode cX6_open 21 = .ok (.ifCond .ne 5, 3) := by decide +kernel
theorem dX6_open_24 : decode cX6_open 24 = .ok (.iconst (-1), 1) := by decide +kernel
theorem dX6_open_25 : decode cX6_open 25 = .ok (.ireturn, 1) := by decide +kernel
theorem dX6_open_26 : decode cX6_open 26 = .ok (.aload_n 0, 1) := by decide +kernel
theorem dX6_open_27 : decode cX6_open 27 = .ok (.getfield 10, 3) := by decide +kernel
theorem dX6_open_30 : decode cX6_open 30 = .ok (.iload_n 1, 1) := by decide +kernel
theorem dX6_open_31 : decode cX6_open 31 = .ok (.iload_n 2, 1) := by decide +kernel
theorem dX6_open_32 : decode cX6_open 32 = .ok (.iload_n 3, 1) := by decide +kernel
theorem dX6_open_33 : decode cX6_open 33 = .ok (.invokevirtual 161, 3) := by decide +kernel
theorem dX6_open_36 : decode cX6_open 36 = .ok (.ifCond .eq 13, 3) := by decide +kernel
theorem dX6_open_39 : decode cX6_open 39 = .ok (.aload_n 0, 1) := by decide +kernel
theorem dX6_open_40 : decode cX6_open 40 = .ok (.getfield 10, 3) := by decide +kernel
theorem dX6_open_43 : decode cX6_open 43 = .ok (.getfield 100, 3) := by decide +kernel
theorem dX6_open_46 : decode cX6_open 46 = .ok (.goto 5, 3) := by decide +kernel
theorem dX6_open_49 : decode cX6_open 49 = .ok (.bipush (-3), 2) := by decide +kernel
theorem dX6_open_51 : decode cX6_open 51 = .ok (.ireturn, 1) := by decide +kernel
theorem dX6_cut_0 : decode cX6_cut 0 = .ok (.iload_n 1, 1) := by decide +kernel
theorem dX6_cut_1 : decode cX6_cut 1 = .ok (.iconst 0, 1) := by decide +kernel
theorem dX6_cut_2 : decode cX6_cut 2 = .ok (.aload_n 0, 1) := by decide +kernel
theorem dX6_cut_3 : decode cX6_cut 3 = .ok (.getfield 10, 3) := by decide +kernel
theorem dX6_cut_6 : decode cX6_cut 6 = .ok (.getfield 100, 3) := by decide +kernel
theorem dX6_cut_9 : decode cX6_cut 9 = .ok (.invokestatic 66, 3) := by decide +kernel
theorem dX6_cut_12 : decode cX6_cut 12 = .ok (.ifCond .ne 5, 3) := by decide +kernel
theorem dX6_cut_15 : decode cX6_cut 15 = .ok (.iconst (-1), 1) := by decide +kernel
theorem dX6_cut_16 : decode cX6_cut 16 = .ok (.ireturn, 1) := by decide +kernel
theorem dX6_cut_17 : decode cX6_cut 17 = .ok (.aload_n 0, 1) := by decide +kernel
theorem dX6_cut_18 : decode cX6_cut 18 = .ok (.getfield 10, 3) := by decide +kernel
theorem dX6_cut_21 : decode cX6_cut 21 = .ok (.getfield 100, 3) := by decide +kernel
theorem dX6_cut_24 : decode cX6_cut 24 = .ok (.istore_n 2, 1) := by decide +kernel
theorem dX6_cut_25 : decode cX6_cut 25 = .ok (.aload_n 0, 1) := by decide +kernel
theorem dX6_cut_26 : decode cX6_cut 26 = .ok (.getfield 10, 3) := by decide +kernel
theorem dX6_cut_29 : decode cX6_cut 29 = .ok (.iload_n 1, 1) := by decide +kernel
theorem dX6_cut_30 : decode cX6_cut 30 = .ok (.putfield 100, 3) := by decide +kernel
theorem dX6_cut_33 : decode cX6_cut 33 = .ok (.iload_n 2, 1) := by decide +kernel
theorem dX6_cut_34 : decode cX6_cut 34 = .ok (.ireturn, 1) := by decide +kernel
theorem dX6_add_0 : decode cX6_add 0 = .ok (.aload_n 0, 1) := by decide +kernel
theorem dX6_add_1 : decode cX6_add 1 = .ok (.getfield 10, 3) := by decide +kernel
theorem dX6_add_4 : decode cX6_add 4 = .ok (.iload_n 1, 1) := by decide +kernel
theorem dX6_add_5 : decode cX6_add 5 = .ok (.iload_n 2, 1) := by decide +kernel
theorem dX6_add_6 : decode cX6_add 6 = .ok (.invokestatic 164, 3) := by decide +kernel
theorem dX6_add_9 : decode cX6_add 9 = .ok (.ireturn, 1) := by decide +kernel
theorem dX6_addTo_0 : decode cX6_addTo 0 = .ok (.iload_n 1, 1) := by decide +kernel
theorem dX6_addTo_1 : decode cX6_addTo 1 = .ok (.iconst 0, 1) := by decide +kernel
theorem dX6_addTo_2 : decode cX6_addTo 2 = .ok (.bipush 9, 2) := by decide +kernel
theorem dX6_addTo_4 : decode cX6_addTo 4 = .ok (.invokestatic 66, 3) := by decide +kernel
theorem dX6_addTo_7 : decode cX6_addTo 7 = .ok (.ifCond .eq 12, 3) := by decide +kernel
theorem dX6_addTo_10 : decode cX6_addTo 10 = .ok (.iload_n 2, 1) := by decide +kernel
theorem dX6_addTo_11 : decode cX6_addTo 11 = .ok (.iconst 0, 1) := by decide +kernel
theorem dX6_addTo_12 : decode cX6_addTo 12 = .ok (.iconst 4, 1) := by decide +kernel
theorem dX6_addTo_13 : decode cX6_addTo 13 = .ok (.invokestatic 66, 3) := by decide +kernel
theorem dX6_addTo_16 : decode cX6_addTo 16 = .ok (.ifCond .ne 5, 3) := by decide +kernel
theorem dX6_addTo_19 : decode cX6_addTo 19 = .ok (.iconst (-1), 1) := by decide +kernel
theorem dX6_addTo_20 : decode cX6_addTo 20 = .ok (.ireturn, 1) := by decide +kernel
theorem dX6_addTo_21 : decode cX6_addTo 21 = .ok (.aload_n 0, 1) := by decide +kernel
theorem dX6_addTo_22 : decode cX6_addTo 22 = .ok (.iload_n 1, 1) := by decide +kernel
theorem dX6_addTo_23 : decode cX6_addTo 23 = .ok (.iload_n 2, 1) := by decide +kernel
theorem dX6_addTo_24 : decode cX6_addTo 24 = .ok (.invokevirtual 168, 3) := by decide +kernel
theorem dX6_addTo_27 : decode cX6_addTo 27 = .ok (.ifCond .eq 10, 3) := by decide +kernel
theorem dX6_addTo_30 : decode cX6_addTo 30 = .ok (.aload_n 0, 1) := by decide +kernel
theorem dX6_addTo_31 : decode cX6_addTo 31 = .ok (.getfield 103, 3) := by decide +kernel
theorem dX6_addTo_34 : decode cX6_addTo 34 = .ok (.goto 5, 3) := by decide +kernel
theorem dX6_addTo_37 : decode cX6_addTo 37 = .ok (.bipush (-3), 2) := by decide +kernel
theorem dX6_addTo_39 : decode cX6_addTo 39 = .ok (.ireturn, 1) := by decide +kernel
theorem dX6_drop_0 : decode cX6_drop 0 = .ok (.iload_n 1, 1) := by decide +kernel
theorem dX6_drop_1 : decode cX6_drop 1 = .ok (.iconst 0, 1) := by decide +kernel
theorem dX6_drop_2 : decode cX6_drop 2 = .ok (.aload_n 0, 1) := by decide +kernel
theorem dX6_drop_3 : decode cX6_drop 3 = .ok (.getfield 10, 3) := by decide +kernel
theorem dX6_drop_6 : decode cX6_drop 6 = .ok (.getfield 103, 3) := by decide +kernel
theorem dX6_drop_9 : decode cX6_drop 9 = .ok (.invokestatic 66, 3) := by decide +kernel
theorem dX6_drop_12 : decode cX6_drop 12 = .ok (.ifCond .ne 5, 3) := by decide +kernel
theorem dX6_drop_15 : decode cX6_drop 15 = .ok (.iconst (-1), 1) := by decide +kernel
theorem dX6_drop_16 : decode cX6_drop 16 = .ok (.ireturn, 1) := by decide +kernel
theorem dX6_drop_17 : decode cX6_drop 17 = .ok (.aload_n 0, 1) := by decide +kernel
theorem dX6_drop_18 : decode cX6_drop 18 = .ok (.getfield 10, 3) := by decide +kernel
theorem dX6_drop_21 : decode cX6_drop 21 = .ok (.getfield 103, 3) := by decide +kernel
theorem dX6_drop_24 : decode cX6_drop 24 = .ok (.istore_n 2, 1) := by decide +kernel
theorem dX6_drop_25 : decode cX6_drop 25 = .ok (.aload_n 0, 1) := by decide +kernel
theorem dX6_drop_26 : decode cX6_drop 26 = .ok (.getfield 10, 3) := by decide +kernel
theorem dX6_drop_29 : decode cX6_drop 29 = .ok (.iload_n 1, 1) := by decide +kernel
theorem dX6_drop_30 : decode cX6_drop 30 = .ok (.putfield 103, 3) := by decide +kernel
theorem dX6_drop_33 : decode cX6_drop 33 = .ok (.iload_n 2, 1) := by decide +kernel
theorem dX6_drop_34 : decode cX6_drop 34 = .ok (.ireturn, 1) := by decide +kernel
theorem dX6_hours_0 : decode cX6_hours 0 = .ok (.iload_n 1, 1) := by decide +kernel
theorem dX6_hours_1 : decode cX6_hours 1 = .ok (.iconst 0, 1) := by decide +kernel
theorem dX6_hours_2 : decode cX6_hours 2 = .ok (.bipush 100, 2) := by decide +kernel
theorem dX6_hours_4 : decode cX6_hours 4 = .ok (.invokestatic 66, 3) := by decide +kernel
theorem dX6_hours_7 : decode cX6_hours 7 = .ok (.ifCond .ne 5, 3) := by decide +kernel
theorem dX6_hours_10 : decode cX6_hours 10 = .ok (.iconst (-1), 1) := by decide +kernel
theorem dX6_hours_11 : decode cX6_hours 11 = .ok (.ireturn, 1) := by decide +kernel
theorem dX6_hours_12 : decode cX6_hours 12 = .ok (.aload_n 0, 1) := by decide +kernel
theorem dX6_hours_13 : decode cX6_hours 13 = .ok (.getfield 10, 3) := by decide +kernel
theorem dX6_hours_16 : decode cX6_hours 16 = .ok (.getfield 106, 3) := by decide +kernel
theorem dX6_hours_19 : decode cX6_hours 19 = .ok (.iload_n 1, 1) := by decide +kernel
theorem dX6_hours_20 : decode cX6_hours 20 = .ok (.iadd, 1) := by decide +kernel
theorem dX6_hours_21 : decode cX6_hours 21 = .ok (.sipush 10000, 3) := by decide +kernel
theorem dX6_hours_24 : decode cX6_hours 24 = .ok (.if_icmp .lt 8, 3) := by decide +kernel
theorem dX6_hours_27 : decode cX6_hours 27 = .ok (.bipush (-3), 2) := by decide +kernel
theorem dX6_hours_29 : decode cX6_hours 29 = .ok (.goto 11, 3) := by decide +kernel
theorem dX6_hours_32 : decode cX6_hours 32 = .ok (.aload_n 0, 1) := by decide +kernel
theorem dX6_hours_33 : decode cX6_hours 33 = .ok (.getfield 10, 3) := by decide +kernel
theorem dX6_hours_36 : decode cX6_hours 36 = .ok (.iload_n 1, 1) := by decide +kernel
theorem dX6_hours_37 : decode cX6_hours 37 = .ok (.invokevirtual 171, 3) := by decide +kernel
theorem dX6_hours_40 : decode cX6_hours 40 = .ok (.ireturn, 1) := by decide +kernel
theorem dX6_runs_0 : decode cX6_runs 0 = .ok (.iload_n 1, 1) := by decide +kernel
theorem dX6_runs_1 : decode cX6_runs 1 = .ok (.invokestatic 174, 3) := by decide +kernel
theorem dX6_runs_4 : decode cX6_runs 4 = .ok (.ifCond .eq 12, 3) := by decide +kernel
theorem dX6_runs_7 : decode cX6_runs 7 = .ok (.iload_n 2, 1) := by decide +kernel
theorem dX6_runs_8 : decode cX6_runs 8 = .ok (.iconst 0, 1) := by decide +kernel
theorem dX6_runs_9 : decode cX6_runs 9 = .ok (.iconst 4, 1) := by decide +kernel
theorem dX6_runs_10 : decode cX6_runs 10 = .ok (.invokestatic 66, 3) := by decide +kernel
theorem dX6_runs_13 : decode cX6_runs 13 = .ok (.ifCond .ne 5, 3) := by decide +kernel
theorem dX6_runs_16 : decode cX6_runs 16 = .ok (.iconst (-1), 1) := by decide +kernel
theorem dX6_runs_17 : decode cX6_runs 17 = .ok (.ireturn, 1) := by decide +kernel
theorem dX6_runs_18 : decode cX6_runs 18 = .ok (.aload_n 0, 1) := by decide +kernel
theorem dX6_runs_19 : decode cX6_runs 19 = .ok (.invokevirtual 177, 3) := by decide +kernel
theorem dX6_runs_22 : decode cX6_runs 22 = .ok (.iload_n 1, 1) := by decide +kernel
theorem dX6_runs_23 : decode cX6_runs 23 = .ok (.iload_n 2, 1) := by decide +kernel
theorem dX6_runs_24 : decode cX6_runs 24 = .ok (.invokevirtual 181, 3) := by decide +kernel
theorem dX6_runs_27 : decode cX6_runs 27 = .ok (.ireturn, 1) := by decide +kernel
theorem dX6_ahead_0 : decode cX6_ahead 0 = .ok (.aload_n 0, 1) := by decide +kernel
theorem dX6_ahead_1 : decode cX6_ahead 1 = .ok (.getfield 10, 3) := by decide +kernel
theorem dX6_ahead_4 : decode cX6_ahead 4 = .ok (.iload_n 1, 1) := by decide +kernel
theorem dX6_ahead_5 : decode cX6_ahead 5 = .ok (.invokevirtual 126, 3) := by decide +kernel
theorem dX6_ahead_8 : decode cX6_ahead 8 = .ok (.ifCond .eq 19, 3) := by decide +kernel
theorem dX6_ahead_11 : decode cX6_ahead 11 = .ok (.iload_n 2, 1) := by decide +kernel
theorem dX6_ahead_12 : decode cX6_ahead 12 = .ok (.invokestatic 174, 3) := by decide +kernel
theorem dX6_ahead_15 : decode cX6_ahead 15 = .ok (.ifCond .eq 12, 3) := by decide +kernel
theorem dX6_ahead_18 : decode cX6_ahead 18 = .ok (.iload_n 3, 1) := by decide +kernel
theorem dX6_ahead_19 : decode cX6_ahead 19 = .ok (.iconst 0, 1) := by decide +kernel
theorem dX6_ahead_20 : decode cX6_ahead 20 = .ok (.iconst 2, 1) := by decide +kernel
theorem dX6_ahead_21 : decode cX6_ahead 21 = .ok (.invokestatic 66, 3) := by decide +kernel
theorem dX6_ahead_24 : decode cX6_ahead 24 = .ok (.ifCond .ne 5, 3) := by decide +kernel
theorem dX6_ahead_27 : decode cX6_ahead 27 = .ok (.iconst (-1), 1) := by decide +kernel
theorem dX6_ahead_28 : decode cX6_ahead 28 = .ok (.ireturn, 1) := by decide +kernel
theorem dX6_ahead_29 : decode cX6_ahead 29 = .ok (.aload_n 0, 1) := by decide +kernel
theorem dX6_ahead_30 : decode cX6_ahead 30 = .ok (.invokevirtual 177, 3) := by decide +kernel
theorem dX6_ahead_33 : decode cX6_ahead 33 = .ok (.astore 4, 2) := by decide +kernel
theorem dX6_ahead_35 : decode cX6_ahead 35 = .ok (.aload 4, 2) := by decide +kernel
theorem dX6_ahead_37 : decode cX6_ahead 37 = .ok (.iload_n 1, 1) := by decide +kernel
theorem dX6_ahead_38 : decode cX6_ahead 38 = .ok (.iload_n 2, 1) := by decide +kernel
theorem dX6_ahead_39 : decode cX6_ahead 39 = .ok (.invokevirtual 185, 3) := by decide +kernel
theorem dX6_ahead_42 : decode cX6_ahead 42 = .ok (.istore 5, 2) := by decide +kernel
theorem dX6_ahead_44 : decode cX6_ahead 44 = .ok (.aload 4, 2) := by decide +kernel
theorem dX6_ahead_46 : decode cX6_ahead 46 = .ok (.getfield 132, 3) := by decide +kernel
theorem dX6_ahead_49 : decode cX6_ahead 49 = .ok (.iload_n 1, 1) := by decide +kernel
theorem dX6_ahead_50 : decode cX6_ahead 50 = .ok (.aaload, 1) := by decide +kernel
theorem dX6_ahead_51 : decode cX6_ahead 51 = .ok (.astore 6, 2) := by decide +kernel
theorem dX6_ahead_53 : decode cX6_ahead 53 = .ok (.iload_n 3, 1) := by decide +kernel
theorem dX6_ahead_54 : decode cX6_ahead 54 = .ok (.ifCond .ne 11, 3) := by decide +kernel
theorem dX6_ahead_57 : decode cX6_ahead 57 = .ok (.aload 6, 2) := by decide +kernel
theorem dX6_ahead_59 : decode cX6_ahead 59 = .ok (.getfield 188, 3) := by decide +kernel
theorem dX6_ahead_62 : decode cX6_ahead 62 = .ok (.goto 18, 3) := by decide +kernel
theorem dX6_ahead_65 : decode cX6_ahead 65 = .ok (.iload_n 3, 1) := by decide +kernel
theorem dX6_ahead_66 : decode cX6_ahead 66 = .ok (.iconst 1, 1) := by decide +kernel
theorem dX6_ahead_67 : decode cX6_ahead 67 = .ok (.if_icmp .ne 11, 3) := by decide +kernel
theorem dX6_ahead_70 : decode cX6_ahead 70 = .ok (.aload 6, 2) := by decide +kernel
theorem dX6_ahead_72 : decode cX6_ahead 72 = .ok (.getfield 191, 3) := by decide +kernel
theorem dX6_ahead_75 : decode cX6_ahead 75 = .ok (.goto 5, 3) := by decide +kernel
theorem dX6_ahead_78 : decode cX6_ahead 78 = .ok (.iload 5, 2) := by decide +kernel
theorem dX6_ahead_80 : decode cX6_ahead 80 = .ok (.ireturn, 1) := by decide +kernel
theorem dX6_ups_0 : decode cX6_ups 0 = .ok (.iload_n 1, 1) := by decide +kernel
theorem dX6_ups_1 : decode cX6_ups 1 = .ok (.invokestatic 174, 3) := by decide +kernel
theorem dX6_ups_4 : decode cX6_ups 4 = .ok (.ifCond .ne 5, 3) := by decide +kernel
theorem dX6_ups_7 : decode cX6_ups 7 = .ok (.iconst (-1), 1) := by decide +kernel
theorem dX6_ups_8 : decode cX6_ups 8 = .ok (.ireturn, 1) := by decide +kernel
theorem dX6_ups_9 : decode cX6_ups 9 = .ok (.aload_n 0, 1) := by decide +kernel
theorem dX6_ups_10 : decode cX6_ups 10 = .ok (.invokevirtual 177, 3) := by decide +kernel
theorem dX6_ups_13 : decode cX6_ups 13 = .ok (.astore_n 2, 1) := by decide +kernel
theorem dX6_ups_14 : decode cX6_ups 14 = .ok (.aload_n 2, 1) := by decide +kernel
theorem dX6_ups_15 : decode cX6_ups 15 = .ok (.iload_n 1, 1) := by decide +kernel
theorem dX6_ups_16 : decode cX6_ups 16 = .ok (.invokevirtual 171, 3) := by decide +kernel
theorem dX6_ups_19 : decode cX6_ups 19 = .ok (.pop, 1) := by decide +kernel
theorem dX6_ups_20 : decode cX6_ups 20 = .ok (.aload_n 2, 1) := by decide +kernel
theorem dX6_ups_21 : decode cX6_ups 21 = .ok (.invokevirtual 194, 3) := by decide +kernel
theorem dX6_ups_24 : decode cX6_ups 24 = .ok (.ireturn, 1) := by decide +kernel
theorem dX6_when_0 : decode cX6_when 0 = .ok (.aload_n 0, 1) := by decide +kernel
theorem dX6_when_1 : decode cX6_when 1 = .ok (.getfield 10, 3) := by decide +kernel
theorem dX6_when_4 : decode cX6_when 4 = .ok (.iload_n 1, 1) := by decide +kernel
theorem dX6_when_5 : decode cX6_when 5 = .ok (.invokevirtual 126, 3) := by decide +kernel
theorem dX6_when_8 : decode cX6_when 8 = .ok (.ifCond .ne 5, 3) := by decide +kernel
theorem dX6_when_11 : decode cX6_when 11 = .ok (.iconst (-1), 1) := by decide +kernel
theorem dX6_when_12 : decode cX6_when 12 = .ok (.ireturn, 1) := by decide +kernel
theorem dX6_when_13 : decode cX6_when 13 = .ok (.aload_n 0, 1) := by decide +kernel
theorem dX6_when_14 : decode cX6_when 14 = .ok (.invokevirtual 177, 3) := by decide +kernel
theorem dX6_when_17 : decode cX6_when 17 = .ok (.astore_n 2, 1) := by decide +kernel
theorem dX6_when_18 : decode cX6_when 18 = .ok (.iconst 0, 1) := by decide +kernel
theorem dX6_when_19 : decode cX6_when 19 = .ok (.istore_n 3, 1) := by decide +kernel
theorem dX6_when_20 : decode cX6_when 20 = .ok (.iload_n 3, 1) := by decide +kernel
theorem dX6_when_21 : decode cX6_when 21 = .ok (.sipush 200, 3) := by decide +kernel
theorem dX6_when_24 : decode cX6_when 24 = .ok (.if_icmp .gt 23, 3) := by decide +kernel
theorem dX6_when_27 : decode cX6_when 27 = .ok (.aload_n 2, 1) := by decide +kernel
theorem dX6_when_28 : decode cX6_when 28 = .ok (.invokevirtual 194, 3) := by decide +kernel
theorem dX6_when_31 : decode cX6_when 31 = .ok (.iload_n 1, 1) := by decide +kernel
theorem dX6_when_32 : decode cX6_when 32 = .ok (.invokestatic 197, 3) := by decide +kernel
theorem dX6_when_35 : decode cX6_when 35 = .ok (.iconst 1, 1) := by decide +kernel
theorem dX6_when_36 : decode cX6_when 36 = .ok (.if_icmp .ne 5, 3) := by decide +kernel
theorem dX6_when_39 : decode cX6_when 39 = .ok (.iload_n 3, 1) := by decide +kernel
theorem dX6_when_40 : decode cX6_when 40 = .ok (.ireturn, 1) := by decide +kernel
theorem dX6_when_41 : decode cX6_when 41 = .ok (.iinc 3 1, 3) := by decide +kernel
theorem dX6_when_44 : decode cX6_when 44 = .ok (.goto (-24), 3) := by decide +kernel
theorem dX6_when_47 : decode cX6_when 47 = .ok (.bipush (-4), 2) := by decide +kernel
theorem dX6_when_49 : decode cX6_when 49 = .ok (.ireturn, 1) := by decide +kernel
theorem dX6_again_0 : decode cX6_again 0 = .ok (.aload_n 0, 1) := by decide +kernel
theorem dX6_again_1 : decode cX6_again 1 = .ok (.invokevirtual 177, 3) := by decide +kernel
theorem dX6_again_4 : decode cX6_again 4 = .ok (.astore_n 1, 1) := by decide +kernel
theorem dX6_again_5 : decode cX6_again 5 = .ok (.iconst 1, 1) := by decide +kernel
theorem dX6_again_6 : decode cX6_again 6 = .ok (.istore_n 2, 1) := by decide +kernel
theorem dX6_again_7 : decode cX6_again 7 = .ok (.iload_n 2, 1) := by decide +kernel
theorem dX6_again_8 : decode cX6_again 8 = .ok (.sipush 200, 3) := by decide +kernel
theorem dX6_again_11 : decode cX6_again 11 = .ok (.if_icmp .gt 27, 3) := by decide +kernel
theorem dX6_again_14 : decode cX6_again 14 = .ok (.aload_n 1, 1) := by decide +kernel
theorem dX6_again_15 : decode cX6_again 15 = .ok (.invokevirtual 194, 3) := by decide +kernel
theorem dX6_again_18 : decode cX6_again 18 = .ok (.pop, 1) := by decide +kernel
theorem dX6_again_19 : decode cX6_again 19 = .ok (.aload_n 1, 1) := by decide +kernel
theorem dX6_again_20 : decode cX6_again 20 = .ok (.aload_n 0, 1) := by decide +kernel
theorem dX6_again_21 : decode cX6_again 21 = .ok (.getfield 10, 3) := by decide +kernel
theorem dX6_again_24 : decode cX6_again 24 = .ok (.invokevirtual 200, 3) := by decide +kernel
theorem dX6_again_27 : decode cX6_again 27 = .ok (.ifCond .eq 5, 3) := by decide +kernel
theorem dX6_again_30 : decode cX6_again 30 = .ok (.iload_n 2, 1) := by decide +kernel
theorem dX6_again_31 : decode cX6_again 31 = .ok (.ireturn, 1) := by decide +kernel
theorem dX6_again_32 : decode cX6_again 32 = .ok (.iinc 2 1, 3) := by decide +kernel
theorem dX6_again_35 : decode cX6_again 35 = .ok (.goto (-28), 3) := by decide +kernel
theorem dX6_again_38 : decode cX6_again 38 = .ok (.bipush (-4), 2) := by decide +kernel
theorem dX6_again_40 : decode cX6_again 40 = .ok (.ireturn, 1) := by decide +kernel
theorem dX6_whom_0 : decode cX6_whom 0 = .ok (.aload_n 0, 1) := by decide +kernel
theorem dX6_whom_1 : decode cX6_whom 1 = .ok (.getfield 10, 3) := by decide +kernel
theorem dX6_whom_4 : decode cX6_whom 4 = .ok (.iload_n 1, 1) := by decide +kernel
theorem dX6_whom_5 : decode cX6_whom 5 = .ok (.invokevirtual 144, 3) := by decide +kernel
theorem dX6_whom_8 : decode cX6_whom 8 = .ok (.ifCond .eq 19, 3) := by decide +kernel
theorem dX6_whom_11 : decode cX6_whom 11 = .ok (.iload_n 2, 1) := by decide +kernel
theorem dX6_whom_12 : decode cX6_whom 12 = .ok (.invokestatic 174, 3) := by decide +kernel
theorem dX6_whom_15 : decode cX6_whom 15 = .ok (.ifCond .eq 12, 3) := by decide +kernel
theorem dX6_whom_18 : decode cX6_whom 18 = .ok (.iload_n 3, 1) := by decide +kernel
theorem dX6_whom_19 : decode cX6_whom 19 = .ok (.iconst 0, 1) := by decide +kernel
theorem dX6_whom_20 : decode cX6_whom 20 = .ok (.iconst 1, 1) := by decide +kernel
theorem dX6_whom_21 : decode cX6_whom 21 = .ok (.invokestatic 66, 3) := by decide +kernel
theorem dX6_whom_24 : decode cX6_whom 24 = .ok (.ifCond .ne 5, 3) := by decide +kernel
theorem dX6_whom_27 : decode cX6_whom 27 = .ok (.iconst (-1), 1) := by decide +kernel
theorem dX6_whom_28 : decode cX6_whom 28 = .ok (.ireturn, 1) := by decide +kernel
theorem dX6_whom_29 : decode cX6_whom 29 = .ok (.iconst 4, 1) := by decide +kernel
theorem dX6_whom_30 : decode cX6_whom 30 = .ok (.istore 4, 2) := by decide +kernel
theorem dX6_whom_32 : decode cX6_whom 32 = .ok (.iconst (-1), 1) := by decide +kernel
theorem dX6_whom_33 : decode cX6_whom 33 = .ok (.istore 5, 2) := by decide +kernel
theorem dX6_whom_35 : decode cX6_whom 35 = .ok (.iconst 0, 1) := by decide +kernel
theorem dX6_whom_36 : decode cX6_whom 36 = .ok (.istore 6, 2) := by decide +kernel
theorem dX6_whom_38 : decode cX6_whom 38 = .ok (.iload 6, 2) := by decide +kernel
theorem dX6_whom_40 : decode cX6_whom 40 = .ok (.aload_n 0, 1) := by decide +kernel
theorem dX6_whom_41 : decode cX6_whom 41 = .ok (.getfield 10, 3) := by decide +kernel
theorem dX6_whom_44 : decode cX6_whom 44 = .ok (.getfield 100, 3) := by decide +kernel
theorem dX6_whom_47 : decode cX6_whom 47 = .ok (.if_icmp .gt 61, 3) := by decide +kernel
theorem dX6_whom_50 : decode cX6_whom 50 = .ok (.aload_n 0, 1) := by decide +kernel
theorem dX6_whom_51 : decode cX6_whom 51 = .ok (.invokevirtual 177, 3) := by decide +kernel
theorem dX6_whom_54 : decode cX6_whom 54 = .ok (.astore 7, 2) := by decide +kernel
theorem dX6_whom_56 : decode cX6_whom 56 = .ok (.aload 7, 2) := by decide +kernel
theorem dX6_whom_58 : decode cX6_whom 58 = .ok (.getfield 150, 3) := by decide +kernel
theorem dX6_whom_61 : decode cX6_whom 61 = .ok (.iload_n 1, 1) := by decide +kernel
theorem dX6_whom_62 : decode cX6_whom 62 = .ok (.aload_n 0, 1) := by decide +kernel
theorem dX6_whom_63 : decode cX6_whom 63 = .ok (.getfield 10, 3) := by decide +kernel
theorem dX6_whom_66 : decode cX6_whom 66 = .ok (.iload 6, 2) := by decide +kernel
theorem dX6_whom_68 : decode cX6_whom 68 = .ok (.invokevirtual 204, 3) := by decide +kernel
theorem dX6_whom_71 : decode cX6_whom 71 = .ok (.iastore, 1) := by decide +kernel
theorem dX6_whom_72 : decode cX6_whom 72 = .ok (.aload 7, 2) := by decide +kernel
theorem dX6_whom_74 : decode cX6_whom 74 = .ok (.iload_n 2, 1) := by decide +kernel
theorem dX6_whom_75 : decode cX6_whom 75 = .ok (.invokevirtual 171, 3) := by decide +kernel
theorem dX6_whom_78 : decode cX6_whom 78 = .ok (.istore 8, 2) := by decide +kernel
theorem dX6_whom_80 : decode cX6_whom 80 = .ok (.iload 8, 2) := by decide +kernel
theorem dX6_whom_82 : decode cX6_whom 82 = .ok (.iload 5, 2) := by decide +kernel
theorem dX6_whom_84 : decode cX6_whom 84 = .ok (.if_icmp .le 18, 3) := by decide +kernel
theorem dX6_whom_87 : decode cX6_whom 87 = .ok (.iload 8, 2) := by decide +kernel
theorem dX6_whom_89 : decode cX6_whom 89 = .ok (.istore 5, 2) := by decide +kernel
theorem dX6_whom_91 : decode cX6_whom 91 = .ok (.aload_n 0, 1) := by decide +kernel
theorem dX6_whom_92 : decode cX6_whom 92 = .ok (.getfield 10, 3) := by decide +kernel
theorem dX6_whom_95 : decode cX6_whom 95 = .ok (.iload 6, 2) := by decide +kernel
theorem dX6_whom_97 : decode cX6_whom 97 = .ok (.invokevirtual 204, 3) := by decide +kernel
theorem dX6_whom_100 : decode cX6_whom 100 = .ok (.istore 4, 2) := by decide +kernel
theorem dX6_whom_102 : decode cX6_whom 102 = .ok (.iinc 6 1, 3) := by decide +kernel
theorem dX6_whom_105 : decode cX6_whom 105 = .ok (.goto (-67), 3) := by decide +kernel
theorem dX6_whom_108 : decode cX6_whom 108 = .ok (.iload_n 3, 1) := by decide +kernel
theorem dX6_whom_109 : decode cX6_whom 109 = .ok (.ifCond .ne 8, 3) := by decide +kernel
theorem dX6_whom_112 : decode cX6_whom 112 = .ok (.iload 4, 2) := by decide +kernel
theorem dX6_whom_114 : decode cX6_whom 114 = .ok (.goto 5, 3) := by decide +kernel
theorem dX6_whom_117 : decode cX6_whom 117 = .ok (.iload 5, 2) := by decide +kernel
theorem dX6_whom_119 : decode cX6_whom 119 = .ok (.ireturn, 1) := by decide +kernel
theorem dX6_route_0 : decode cX6_route 0 = .ok (.iload_n 1, 1) := by decide +kernel
theorem dX6_route_1 : decode cX6_route 1 = .ok (.iconst 0, 1) := by decide +kernel
theorem dX6_route_2 : decode cX6_route 2 = .ok (.iconst 4, 1) := by decide +kernel
theorem dX6_route_3 : decode cX6_route 3 = .ok (.invokestatic 66, 3) := by decide +kernel
theorem dX6_route_6 : decode cX6_route 6 = .ok (.ifCond .eq 20, 3) := by decide +kernel
theorem dX6_route_9 : decode cX6_route 9 = .ok (.iload_n 2, 1) := by decide +kernel
theorem dX6_route_10 : decode cX6_route 10 = .ok (.ifCond .eq 18, 3) := by decide +kernel
theorem dX6_route_13 : decode cX6_route 13 = .ok (.iload_n 2, 1) := by decide +kernel
theorem dX6_route_14 : decode cX6_route 14 = .ok (.bipush 10, 2) := by decide +kernel
theorem dX6_route_16 : decode cX6_route 16 = .ok (.bipush 9, 2) := by decide +kernel
theorem dX6_route_18 : decode cX6_route 18 = .ok (.iload_n 1, 1) := by decide +kernel
theorem dX6_route_19 : decode cX6_route 19 = .ok (.iadd, 1) := by decide +kernel
theorem dX6_route_20 : decode cX6_route 20 = .ok (.invokestatic 66, 3) := by decide +kernel
theorem dX6_route_23 : decode cX6_route 23 = .ok (.ifCond .ne 5, 3) := by decide +kernel
theorem dX6_route_26 : decode cX6_route 26 = .ok (.iconst (-1), 1) := by decide +kernel
theorem dX6_route_27 : decode cX6_route 27 = .ok (.ireturn, 1) := by decide +kernel
theorem dX6_route_28 : decode cX6_route 28 = .ok (.iconst 1, 1) := by decide +kernel
theorem dX6_route_29 : decode cX6_route 29 = .ok (.istore_n 3, 1) := by decide +kernel
theorem dX6_route_30 : decode cX6_route 30 = .ok (.iconst 0, 1) := by decide +kernel
theorem dX6_route_31 : decode cX6_route 31 = .ok (.istore 4, 2) := by decide +kernel
theorem dX6_route_33 : decode cX6_route 33 = .ok (.iload 4, 2) := by decide +kernel
theorem dX6_route_35 : decode cX6_route 35 = .ok (.iload_n 1, 1) := by decide +kernel
theorem dX6_route_36 : decode cX6_route 36 = .ok (.if_icmp .ge 21, 3) := by decide +kernel
theorem dX6_route_39 : decode cX6_route 39 = .ok (.iload_n 3, 1) := by decide +kernel
theorem dX6_route_40 : decode cX6_route 40 = .ok (.aload_n 0, 1) := by decide +kernel
theorem dX6_route_41 : decode cX6_route 41 = .ok (.getfield 10, 3) := by decide +kernel
theorem dX6_route_44 : decode cX6_route 44 = .ok (.getfield 100, 3) := by decide +kernel
theorem dX6_route_47 : decode cX6_route 47 = .ok (.iconst 1, 1) := by decide +kernel
theorem dX6_route_48 : decode cX6_route 48 = .ok (.iadd, 1) := by decide +kernel
theorem dX6_route_49 : decode cX6_route 49 = .ok (.imul, 1) := by decide +kernel
theorem dX6_route_50 : decode cX6_route 50 = .ok (.istore_n 3, 1) := by decide +kernel
theorem dX6_route_51 : decode cX6_route 51 = .ok (.iinc 4 1, 3) := by decide +kernel
theorem dX6_route_54 : decode cX6_route 54 = .ok (.goto (-21), 3) := by decide +kernel
theorem dX6_route_57 : decode cX6_route 57 = .ok (.iconst 0, 1) := by decide +kernel
theorem dX6_route_58 : decode cX6_route 58 = .ok (.istore 4, 2) := by decide +kernel
theorem dX6_route_60 : decode cX6_route 60 = .ok (.iconst (-1), 1) := by decide +kernel
theorem dX6_route_61 : decode cX6_route 61 = .ok (.istore 5, 2) := by decide +kernel
theorem dX6_route_63 : decode cX6_route 63 = .ok (.iconst 0, 1) := by decide +kernel
theorem dX6_route_64 : decode cX6_route 64 = .ok (.istore 6, 2) := by decide +kernel
theorem dX6_route_66 : decode cX6_route 66 = .ok (.iload 6, 2) := by decide +kernel
theorem dX6_route_68 : decode cX6_route 68 = .ok (.iload_n 3, 1) := by decide +kernel
theorem dX6_route_69 : decode cX6_route 69 = .ok (.if_icmp .ge 33, 3) := by decide +kernel
theorem dX6_route_72 : decode cX6_route 72 = .ok (.aload_n 0, 1) := by decide +kernel
theorem dX6_route_73 : decode cX6_route 73 = .ok (.iload 6, 2) := by decide +kernel
theorem dX6_route_75 : decode cX6_route 75 = .ok (.iload_n 1, 1) := by decide +kernel
theorem dX6_route_76 : decode cX6_route 76 = .ok (.invokevirtual 207, 3) := by decide +kernel
theorem dX6_route_79 : decode cX6_route 79 = .ok (.istore 7, 2) := by decide +kernel
theorem dX6_route_81 : decode cX6_route 81 = .ok (.iload 7, 2) := by decide +kernel
theorem dX6_route_83 : decode cX6_route 83 = .ok (.iload 5, 2) := by decide +kernel
theorem dX6_route_85 : decode cX6_route 85 = .ok (.if_icmp .le 11, 3) := by decide +kernel
theorem dX6_route_88 : decode cX6_route 88 = .ok (.iload 7, 2) := by decide +kernel
theorem dX6_route_90 : decode cX6_route 90 = .ok (.istore 5, 2) := by decide +kernel
theorem dX6_route_92 : decode cX6_route 92 = .ok (.iload 6, 2) := by decide +kernel
theorem dX6_route_94 : decode cX6_route 94 = .ok (.istore 4, 2) := by decide +kernel
theorem dX6_route_96 : decode cX6_route 96 = .ok (.iinc 6 1, 3) := by decide +kernel
theorem dX6_route_99 : decode cX6_route 99 = .ok (.goto (-33), 3) := by decide +kernel
theorem dX6_route_102 : decode cX6_route 102 = .ok (.iload_n 2, 1) := by decide +kernel
theorem dX6_route_103 : decode cX6_route 103 = .ok (.ifCond .ne 8, 3) := by decide +kernel
theorem dX6_route_106 : decode cX6_route 106 = .ok (.iload 5, 2) := by decide +kernel
theorem dX6_route_108 : decode cX6_route 108 = .ok (.goto 14, 3) := by decide +kernel
theorem dX6_route_111 : decode cX6_route 111 = .ok (.aload_n 0, 1) := by decide +kernel
theorem dX6_route_112 : decode cX6_route 112 = .ok (.iload 4, 2) := by decide +kernel
theorem dX6_route_114 : decode cX6_route 114 = .ok (.iload_n 1, 1) := by decide +kernel
theorem dX6_route_115 : decode cX6_route 115 = .ok (.iload_n 2, 1) := by decide +kernel
theorem dX6_route_116 : decode cX6_route 116 = .ok (.bipush 10, 2) := by decide +kernel
theorem dX6_route_118 : decode cX6_route 118 = .ok (.isub, 1) := by decide +kernel
theorem dX6_route_119 : decode cX6_route 119 = .ok (.invokevirtual 210, 3) := by decide +kernel
theorem dX6_route_122 : decode cX6_route 122 = .ok (.ireturn, 1) := by decide +kernel
theorem dX6_upsByRoute_0 : decode cX6_upsByRoute 0 = .ok (.aload_n 0, 1) := by decide +kernel
theorem dX6_upsByRoute_1 : decode cX6_upsByRoute 1 = .ok (.invokevirtual 177, 3) := by decide +kernel
theorem dX6_upsByRoute_4 : decode cX6_upsByRoute 4 = .ok (.astore_n 3, 1) := by decide +kernel
theorem dX6_upsByRoute_5 : decode cX6_upsByRoute 5 = .ok (.iconst 0, 1) := by decide +kernel
theorem dX6_upsByRoute_6 : decode cX6_upsByRoute 6 = .ok (.istore 4, 2) := by decide +kernel
theorem dX6_upsByRoute_8 : decode cX6_upsByRoute 8 = .ok (.iconst 0, 1) := by decide +kernel
theorem dX6_upsByRoute_9 : decode cX6_upsByRoute 9 = .ok (.istore 5, 2) := by decide +kernel
theorem dX6_upsByRoute_11 : decode cX6_upsByRoute 11 = .ok (.iload 5, 2) := by decide +kernel
theorem dX6_upsByRoute_13 : decode cX6_upsByRoute 13 = .ok (.iload_n 2, 1) := by decide +kernel
theorem dX6_upsByRoute_14 : decode cX6_upsByRoute 14 = .ok (.if_icmp .ge 33, 3) := by decide +kernel
theorem dX6_upsByRoute_17 : decode cX6_upsByRoute 17 = .ok (.iload 4, 2) := by decide +kernel
theorem dX6_upsByRoute_19 : decode cX6_upsByRoute 19 = .ok (.aload_n 3, 1) := by decide +kernel
theorem dX6_upsByRoute_20 : decode cX6_upsByRoute 20 = .ok (.aload_n 3, 1) := by decide +kernel
theorem dX6_upsByRoute_21 : decode cX6_upsByRoute 21 = .ok (.invokevirtual 119, 3) := by decide +kernel
theorem dX6_upsByRoute_24 : decode cX6_upsByRoute 24 = .ok (.aload_n 0, 1) := by decide +kernel
theorem dX6_upsByRoute_25 : decode cX6_upsByRoute 25 = .ok (.iload_n 1, 1) := by decide +kernel
theorem dX6_upsByRoute_26 : decode cX6_upsByRoute 26 = .ok (.iload_n 2, 1) := by decide +kernel
theorem dX6_upsByRoute_27 : decode cX6_upsByRoute 27 = .ok (.iload 5, 2) := by decide +kernel
theorem dX6_upsByRoute_29 : decode cX6_upsByRoute 29 = .ok (.invokevirtual 210, 3) := by decide +kernel
theorem dX6_upsByRoute_32 : decode cX6_upsByRoute 32 = .ok (.invokevirtual 214, 3) := by decide +kernel
theorem dX6_upsByRoute_35 : decode cX6_upsByRoute 35 = .ok (.invokestatic 217, 3) := by decide +kernel
theorem dX6_upsByRoute_38 : decode cX6_upsByRoute 38 = .ok (.iadd, 1) := by decide +kernel
theorem dX6_upsByRoute_39 : decode cX6_upsByRoute 39 = .ok (.istore 4, 2) := by decide +kernel
theorem dX6_upsByRoute_41 : decode cX6_upsByRoute 41 = .ok (.iinc 5 1, 3) := by decide +kernel
theorem dX6_upsByRoute_44 : decode cX6_upsByRoute 44 = .ok (.goto (-33), 3) := by decide +kernel
theorem dX6_upsByRoute_47 : decode cX6_upsByRoute 47 = .ok (.iload 4, 2) := by decide +kernel
theorem dX6_upsByRoute_49 : decode cX6_upsByRoute 49 = .ok (.ireturn, 1) := by decide +kernel
theorem dX6_companyOnRoute_0 : decode cX6_companyOnRoute 0 = .ok (.iconst 1, 1) := by decide +kernel
theorem dX6_companyOnRoute_1 : decode cX6_companyOnRoute 1 = .ok (.aload_n 0, 1) := by decide +kernel
theorem dX6_companyOnRoute_2 : decode cX6_companyOnRoute 2 = .ok (.getfield 10, 3) := by decide +kernel
theorem dX6_companyOnRoute_5 : decode cX6_companyOnRoute 5 = .ok (.getfield 100, 3) := by decide +kernel
theorem dX6_companyOnRoute_8 : decode cX6_companyOnRoute 8 = .ok (.iconst 1, 1) := by decide +kernel
theorem dX6_companyOnRoute_9 : decode cX6_companyOnRoute 9 = .ok (.iadd, 1) := by decide +kernel
theorem dX6_companyOnRoute_10 : decode cX6_companyOnRoute 10 = .ok (.invokestatic 222, 3) := by decide +kernel
theorem dX6_companyOnRoute_13 : decode cX6_companyOnRoute 13 = .ok (.istore 4, 2) := by decide +kernel
theorem dX6_companyOnRoute_15 : decode cX6_companyOnRoute 15 = .ok (.iload_n 1, 1) := by decide +kernel
theorem dX6_companyOnRoute_16 : decode cX6_companyOnRoute 16 = .ok (.istore 5, 2) := by decide +kernel
theorem dX6_companyOnRoute_18 : decode cX6_companyOnRoute 18 = .ok (.iload_n 2, 1) := by decide +kernel
theorem dX6_companyOnRoute_19 : decode cX6_companyOnRoute 19 = .ok (.iconst 1, 1) := by decide +kernel
theorem dX6_companyOnRoute_20 : decode cX6_companyOnRoute 20 = .ok (.isub, 1) := by decide +kernel
theorem dX6_companyOnRoute_21 : decode cX6_companyOnRoute 21 = .ok (.istore 6, 2) := by decide +kernel
theorem dX6_companyOnRoute_23 : decode cX6_companyOnRoute 23 = .ok (.iload 6, 2) := by decide +kernel
theorem dX6_companyOnRoute_25 : decode cX6_companyOnRoute 25 = .ok (.iload_n 3, 1) := by decide +kernel
theorem dX6_companyOnRoute_26 : decode cX6_companyOnRoute 26 = .ok (.if_icmp .le 16, 3) := by decide +kernel
theorem dX6_companyOnRoute_29 : decode cX6_companyOnRoute 29 = .ok (.iload 5, 2) := by decide +kernel
theorem dX6_companyOnRoute_31 : decode cX6_companyOnRoute 31 = .ok (.iload 4, 2) := by decide +kernel
theorem dX6_companyOnRoute_33 : decode cX6_companyOnRoute 33 = .ok (.idiv, 1) := by decide +kernel
theorem dX6_companyOnRoute_34 : decode cX6_companyOnRoute 34 = .ok (.istore 5, 2) := by decide +kernel
theorem dX6_companyOnRoute_36 : decode cX6_companyOnRoute 36 = .ok (.iinc 6 (-1), 3) := by decide +kernel
theorem dX6_companyOnRoute_39 : decode cX6_companyOnRoute 39 = .ok (.goto (-16), 3) := by decide +kernel
theorem dX6_companyOnRoute_42 : decode cX6_companyOnRoute 42 = .ok (.aload_n 0, 1) := by decide +kernel
theorem dX6_companyOnRoute_43 : decode cX6_companyOnRoute 43 = .ok (.getfield 10, 3) := by decide +kernel
theorem dX6_companyOnRoute_46 : decode cX6_companyOnRoute 46 = .ok (.iload 5, 2) := by decide +kernel
theorem dX6_companyOnRoute_48 : decode cX6_companyOnRoute 48 = .ok (.iload 4, 2) := by decide +kernel
theorem dX6_companyOnRoute_50 : decode cX6_companyOnRoute 50 = .ok (.irem, 1) := by decide +kernel
theorem dX6_companyOnRoute_51 : decode cX6_companyOnRoute 51 = .ok (.invokevirtual 204, 3) := by decide +kernel
theorem dX6_companyOnRoute_54 : decode cX6_companyOnRoute 54 = .ok (.ireturn, 1) := by decide +kernel
theorem dX6_swap_0 : decode cX6_swap 0 = .ok (.iload_n 1, 1) := by decide +kernel
theorem dX6_swap_1 : decode cX6_swap 1 = .ok (.invokestatic 174, 3) := by decide +kernel
theorem dX6_swap_4 : decode cX6_swap 4 = .ok (.ifCond .eq 12, 3) := by decide +kernel
theorem dX6_swap_7 : decode cX6_swap 7 = .ok (.iload_n 2, 1) := by decide +kernel
theorem dX6_swap_8 : decode cX6_swap 8 = .ok (.iconst 0, 1) := by decide +kernel
theorem dX6_swap_9 : decode cX6_swap 9 = .ok (.iconst 1, 1) := by decide +kernel
theorem dX6_swap_10 : decode cX6_swap 10 = .ok (.invokestatic 66, 3) := by decide +kernel
theorem dX6_swap_13 : decode cX6_swap 13 = .ok (.ifCond .ne 5, 3) := by decide +kernel
theorem dX6_swap_16 : decode cX6_swap 16 = .ok (.iconst (-1), 1) := by decide +kernel
theorem dX6_swap_17 : decode cX6_swap 17 = .ok (.ireturn, 1) := by decide +kernel
theorem dX6_swap_18 : decode cX6_swap 18 = .ok (.bipush (-4), 2) := by decide +kernel
theorem dX6_swap_20 : decode cX6_swap 20 = .ok (.istore_n 3, 1) := by decide +kernel
theorem dX6_swap_21 : decode cX6_swap 21 = .ok (.aload_n 0, 1) := by decide +kernel
theorem dX6_swap_22 : decode cX6_swap 22 = .ok (.invokevirtual 177, 3) := by decide +kernel
theorem dX6_swap_25 : decode cX6_swap 25 = .ok (.iload_n 1, 1) := by decide +kernel
theorem dX6_swap_26 : decode cX6_swap 26 = .ok (.iconst 1, 1) := by decide +kernel
theorem dX6_swap_27 : decode cX6_swap 27 = .ok (.invokevirtual 181, 3) := by decide +kernel
theorem dX6_swap_30 : decode cX6_swap 30 = .ok (.istore 4, 2) := by decide +kernel
theorem dX6_swap_32 : decode cX6_swap 32 = .ok (.iconst 0, 1) := by decide +kernel
theorem dX6_swap_33 : decode cX6_swap 33 = .ok (.istore 5, 2) := by decide +kernel
theorem dX6_swap_35 : decode cX6_swap 35 = .ok (.iload 5, 2) := by decide +kernel
theorem dX6_swap_37 : decode cX6_swap 37 = .ok (.aload_n 0, 1) := by decide +kernel
theorem dX6_swap_38 : decode cX6_swap 38 = .ok (.getfield 10, 3) := by decide +kernel
theorem dX6_swap_41 : decode cX6_swap 41 = .ok (.getfield 103, 3) := by decide +kernel
theorem dX6_swap_44 : decode cX6_swap 44 = .ok (.if_icmp .ge 77, 3) := by decide +kernel
theorem dX6_swap_47 : decode cX6_swap 47 = .ok (.iload 5, 2) := by decide +kernel
theorem dX6_swap_49 : decode cX6_swap 49 = .ok (.iconst 1, 1) := by decide +kernel
theorem dX6_swap_50 : decode cX6_swap 50 = .ok (.iadd, 1) := by decide +kernel
theorem dX6_swap_51 : decode cX6_swap 51 = .ok (.istore 6, 2) := by decide +kernel
theorem dX6_swap_53 : decode cX6_swap 53 = .ok (.iload 6, 2) := by decide +kernel
theorem dX6_swap_55 : decode cX6_swap 55 = .ok (.aload_n 0, 1) := by decide +kernel
theorem dX6_swap_56 : decode cX6_swap 56 = .ok (.getfield 10, 3) := by decide +kernel
theorem dX6_swap_59 : decode cX6_swap 59 = .ok (.getfield 103, 3) := by decide +kernel
theorem dX6_swap_62 : decode cX6_swap 62 = .ok (.if_icmp .ge 53, 3) := by decide +kernel
theorem dX6_swap_65 : decode cX6_swap 65 = .ok (.aload_n 0, 1) := by decide +kernel
theorem dX6_swap_66 : decode cX6_swap 66 = .ok (.invokevirtual 177, 3) := by decide +kernel
theorem dX6_swap_69 : decode cX6_swap 69 = .ok (.astore 7, 2) := by decide +kernel
theorem dX6_swap_71 : decode cX6_swap 71 = .ok (.aload 7, 2) := by decide +kernel
theorem dX6_swap_73 : decode cX6_swap 73 = .ok (.iload 5, 2) := by decide +kernel
theorem dX6_swap_75 : decode cX6_swap 75 = .ok (.iload 6, 2) := by decide +kernel
theorem dX6_swap_77 : decode cX6_swap 77 = .ok (.invokevirtual 227, 3) := by decide +kernel
theorem dX6_swap_80 : decode cX6_swap 80 = .ok (.aload 7, 2) := by decide +kernel
theorem dX6_swap_82 : decode cX6_swap 82 = .ok (.iload_n 1, 1) := by decide +kernel
theorem dX6_swap_83 : decode cX6_swap 83 = .ok (.iconst 1, 1) := by decide +kernel
theorem dX6_swap_84 : decode cX6_swap 84 = .ok (.invokevirtual 181, 3) := by decide +kernel
theorem dX6_swap_87 : decode cX6_swap 87 = .ok (.istore 8, 2) := by decide +kernel
theorem dX6_swap_89 : decode cX6_swap 89 = .ok (.iload 8, 2) := by decide +kernel
theorem dX6_swap_91 : decode cX6_swap 91 = .ok (.iload 4, 2) := by decide +kernel
theorem dX6_swap_93 : decode cX6_swap 93 = .ok (.if_icmp .le 16, 3) := by decide +kernel
theorem dX6_swap_96 : decode cX6_swap 96 = .ok (.iload 8, 2) := by decide +kernel
theorem dX6_swap_98 : decode cX6_swap 98 = .ok (.istore 4, 2) := by decide +kernel
theorem dX6_swap_100 : decode cX6_swap 100 = .ok (.bipush 100, 2) := by decide +kernel
theorem dX6_swap_102 : decode cX6_swap 102 = .ok (.iload 5, 2) := by decide +kernel
theorem dX6_swap_104 : decode cX6_swap 104 = .ok (.imul, 1) := by decide +kernel
theorem dX6_swap_105 : decode cX6_swap 105 = .ok (.iload 6, 2) := by decide +kernel
theorem dX6_swap_107 : decode cX6_swap 107 = .ok (.iadd, 1) := by decide +kernel
theorem dX6_swap_108 : decode cX6_swap 108 = .ok (.istore_n 3, 1) := by decide +kernel
theorem dX6_swap_109 : decode cX6_swap 109 = .ok (.iinc 6 1, 3) := by decide +kernel
theorem dX6_swap_112 : decode cX6_swap 112 = .ok (.goto (-59), 3) := by decide +kernel
theorem dX6_swap_115 : decode cX6_swap 115 = .ok (.iinc 5 1, 3) := by decide +kernel
theorem dX6_swap_118 : decode cX6_swap 118 = .ok (.goto (-83), 3) := by decide +kernel
theorem dX6_swap_121 : decode cX6_swap 121 = .ok (.iload_n 3, 1) := by decide +kernel
theorem dX6_swap_122 : decode cX6_swap 122 = .ok (.bipush (-4), 2) := by decide +kernel
theorem dX6_swap_124 : decode cX6_swap 124 = .ok (.if_icmp .eq 7, 3) := by decide +kernel
theorem dX6_swap_127 : decode cX6_swap 127 = .ok (.iload_n 2, 1) := by decide +kernel
theorem dX6_swap_128 : decode cX6_swap 128 = .ok (.ifCond .ne 7, 3) := by decide +kernel
theorem dX6_swap_131 : decode cX6_swap 131 = .ok (.iload_n 3, 1) := by decide +kernel
theorem dX6_swap_132 : decode cX6_swap 132 = .ok (.goto 5, 3) := by decide +kernel
theorem dX6_swap_135 : decode cX6_swap 135 = .ok (.iload 4, 2) := by decide +kernel
theorem dX6_swap_137 : decode cX6_swap 137 = .ok (.ireturn, 1) := by decide +kernel
theorem dX6_bears_0 : decode cX6_bears 0 = .ok (.aload_n 0, 1) := by decide +kernel
theorem dX6_bears_1 : decode cX6_bears 1 = .ok (.getfield 10, 3) := by decide +kernel
theorem dX6_bears_4 : decode cX6_bears 4 = .ok (.iload_n 1, 1) := by decide +kernel
theorem dX6_bears_5 : decode cX6_bears 5 = .ok (.invokevirtual 144, 3) := by decide +kernel
theorem dX6_bears_8 : decode cX6_bears 8 = .ok (.ifCond .eq 10, 3) := by decide +kernel
theorem dX6_bears_11 : decode cX6_bears 11 = .ok (.iload_n 2, 1) := by decide +kernel
theorem dX6_bears_12 : decode cX6_bears 12 = .ok (.invokestatic 174, 3) := by decide +kernel
theorem dX6_bears_15 : decode cX6_bears 15 = .ok (.ifCond .ne 5, 3) := by decide +kernel
theorem dX6_bears_18 : decode cX6_bears 18 = .ok (.iconst (-1), 1) := by decide +kernel
theorem dX6_bears_19 : decode cX6_bears 19 = .ok (.ireturn, 1) := by decide +kernel
theorem dX6_bears_20 : decode cX6_bears 20 = .ok (.aload_n 0, 1) := by decide +kernel
theorem dX6_bears_21 : decode cX6_bears 21 = .ok (.iload_n 1, 1) := by decide +kernel
theorem dX6_bears_22 : decode cX6_bears 22 = .ok (.iconst 0, 1) := by decide +kernel
theorem dX6_bears_23 : decode cX6_bears 23 = .ok (.iload_n 2, 1) := by decide +kernel
theorem dX6_bears_24 : decode cX6_bears 24 = .ok (.invokevirtual 230, 3) := by decide +kernel
theorem dX6_bears_27 : decode cX6_bears 27 = .ok (.istore_n 3, 1) := by decide +kernel
theorem dX6_bears_28 : decode cX6_bears 28 = .ok (.iconst 0, 1) := by decide +kernel
theorem dX6_bears_29 : decode cX6_bears 29 = .ok (.istore 4, 2) := by decide +kernel
theorem dX6_bears_31 : decode cX6_bears 31 = .ok (.iconst 1, 1) := by decide +kernel
theorem dX6_bears_32 : decode cX6_bears 32 = .ok (.istore 5, 2) := by decide +kernel
theorem dX6_bears_34 : decode cX6_bears 34 = .ok (.iload 5, 2) := by decide +kernel
theorem dX6_bears_36 : decode cX6_bears 36 = .ok (.bipush 9, 2) := by decide +kernel
theorem dX6_bears_38 : decode cX6_bears 38 = .ok (.if_icmp .gt 25, 3) := by decide +kernel
theorem dX6_bears_41 : decode cX6_bears 41 = .ok (.aload_n 0, 1) := by decide +kernel
theorem dX6_bears_42 : decode cX6_bears 42 = .ok (.iload_n 1, 1) := by decide +kernel
theorem dX6_bears_43 : decode cX6_bears 43 = .ok (.iload 5, 2) := by decide +kernel
theorem dX6_bears_45 : decode cX6_bears 45 = .ok (.iload_n 2, 1) := by decide +kernel
theorem dX6_bears_46 : decode cX6_bears 46 = .ok (.invokevirtual 230, 3) := by decide +kernel
theorem dX6_bears_49 : decode cX6_bears 49 = .ok (.iload_n 3, 1) := by decide +kernel
theorem dX6_bears_50 : decode cX6_bears 50 = .ok (.if_icmp .lt 7, 3) := by decide +kernel
theorem dX6_bears_53 : decode cX6_bears 53 = .ok (.iload 5, 2) := by decide +kernel
theorem dX6_bears_55 : decode cX6_bears 55 = .ok (.istore 4, 2) := by decide +kernel
theorem dX6_bears_57 : decode cX6_bears 57 = .ok (.iinc 5 1, 3) := by decide +kernel
theorem dX6_bears_60 : decode cX6_bears 60 = .ok (.goto (-26), 3) := by decide +kernel
theorem dX6_bears_63 : decode cX6_bears 63 = .ok (.iload 4, 2) := by decide +kernel
theorem dX6_bears_65 : decode cX6_bears 65 = .ok (.ireturn, 1) := by decide +kernel
theorem dX6_upsWithWatchers_0 : decode cX6_upsWithWatchers 0 = .ok (.aload_n 0, 1) := by decide +kernel
theorem dX6_upsWithWatchers_1 : decode cX6_upsWithWatchers 1 = .ok (.invokevirtual 177, 3) := by decide +kernel
theorem dX6_upsWithWatchers_4 : decode cX6_upsWithWatchers 4 = .ok (.astore 4, 2) := by decide +kernel
theorem dX6_upsWithWatchers_6 : decode cX6_upsWithWatchers 6 = .ok (.aload 4, 2) := by decide +kernel
theorem dX6_upsWithWatchers_8 : decode cX6_upsWithWatchers 8 = .ok (.iload_n 1, 1) := by decide +kernel
theorem dX6_upsWithWatchers_9 : decode cX6_upsWithWatchers 9 = .ok (.invokevirtual 144, 3) := by decide +kernel
theorem dX6_upsWithWatchers_12 : decode cX6_upsWithWatchers 12 = .ok (.ifCond .eq 11, 3) := by decide +kernel
theorem dX6_upsWithWatchers_15 : decode cX6_upsWithWatchers 15 = .ok (.aload 4, 2) := by decide +kernel
theorem dX6_upsWithWatchers_17 : decode cX6_upsWithWatchers 17 = .ok (.getfield 147, 3) := by decide +kernel
theorem dX6_upsWithWatchers_20 : decode cX6_upsWithWatchers 20 = .ok (.iload_n 1, 1) := by decide +kernel
theorem dX6_upsWithWatchers_21 : decode cX6_upsWithWatchers 21 = .ok (.iload_n 2, 1) := by decide +kernel
theorem dX6_upsWithWatchers_22 : decode cX6_upsWithWatchers 22 = .ok (.iastore, 1) := by decide +kernel
theorem dX6_upsWithWatchers_23 : decode cX6_upsWithWatchers 23 = .ok (.aload 4, 2) := by decide +kernel
theorem dX6_upsWithWatchers_25 : decode cX6_upsWithWatchers 25 = .ok (.iload_n 3, 1) := by decide +kernel
theorem dX6_upsWithWatchers_26 : decode cX6_upsWithWatchers 26 = .ok (.invokevirtual 171, 3) := by decide +kernel
theorem dX6_upsWithWatchers_29 : decode cX6_upsWithWatchers 29 = .ok (.ireturn, 1) := by decide +kernel
theorem dX6_flow_0 : decode cX6_flow 0 = .ok (.aload_n 0, 1) := by decide +kernel
theorem dX6_flow_1 : decode cX6_flow 1 = .ok (.getfield 10, 3) := by decide +kernel
theorem dX6_flow_4 : decode cX6_flow 4 = .ok (.iload_n 1, 1) := by decide +kernel
theorem dX6_flow_5 : decode cX6_flow 5 = .ok (.invokevirtual 126, 3) := by decide +kernel
theorem dX6_flow_8 : decode cX6_flow 8 = .ok (.ifCond .eq 20, 3) := by decide +kernel
theorem dX6_flow_11 : decode cX6_flow 11 = .ok (.iload_n 2, 1) := by decide +kernel
theorem dX6_flow_12 : decode cX6_flow 12 = .ok (.invokestatic 174, 3) := by decide +kernel
theorem dX6_flow_15 : decode cX6_flow 15 = .ok (.ifCond .eq 13, 3) := by decide +kernel
theorem dX6_flow_18 : decode cX6_flow 18 = .ok (.iload_n 3, 1) := by decide +kernel
theorem dX6_flow_19 : decode cX6_flow 19 = .ok (.iconst 0, 1) := by decide +kernel
theorem dX6_flow_20 : decode cX6_flow 20 = .ok (.bipush 20, 2) := by decide +kernel
theorem dX6_flow_22 : decode cX6_flow 22 = .ok (.invokestatic 66, 3) := by decide +kernel
theorem dX6_flow_25 : decode cX6_flow 25 = .ok (.ifCond .ne 5, 3) := by decide +kernel
theorem dX6_flow_28 : decode cX6_flow 28 = .ok (.iconst (-1), 1) := by decide +kernel
theorem dX6_flow_29 : decode cX6_flow 29 = .ok (.ireturn, 1) := by decide +kernel
theorem dX6_flow_30 : decode cX6_flow 30 = .ok (.iconst 0, 1) := by decide +kernel
theorem dX6_flow_31 : decode cX6_flow 31 = .ok (.istore 4, 2) := by decide +kernel
theorem dX6_flow_33 : decode cX6_flow 33 = .ok (.iload 4, 2) := by decide +kernel
theorem dX6_flow_35 : decode cX6_flow 35 = .ok (.bipush 40, 2) := by decide +kernel
theorem dX6_flow_37 : decode cX6_flow 37 = .ok (.if_icmp .gt 36, 3) := by decide +kernel
theorem dX6_flow_40 : decode cX6_flow 40 = .ok (.aload_n 0, 1) := by decide +kernel
theorem dX6_flow_41 : decode cX6_flow 41 = .ok (.invokevirtual 177, 3) := by decide +kernel
theorem dX6_flow_44 : decode cX6_flow 44 = .ok (.astore 5, 2) := by decide +kernel
theorem dX6_flow_46 : decode cX6_flow 46 = .ok (.aload 5, 2) := by decide +kernel
theorem dX6_flow_48 : decode cX6_flow 48 = .ok (.iload 4, 2) := by decide +kernel
theorem dX6_flow_50 : decode cX6_flow 50 = .ok (.putfield 109, 3) := by decide +kernel
theorem dX6_flow_53 : decode cX6_flow 53 = .ok (.aload 5, 2) := by decide +kernel
theorem dX6_flow_55 : decode cX6_flow 55 = .ok (.iload_n 1, 1) := by decide +kernel
theorem dX6_flow_56 : decode cX6_flow 56 = .ok (.iload_n 2, 1) := by decide +kernel
theorem dX6_flow_57 : decode cX6_flow 57 = .ok (.invokevirtual 185, 3) := by decide +kernel
theorem dX6_flow_60 : decode cX6_flow 60 = .ok (.iload_n 3, 1) := by decide +kernel
theorem dX6_flow_61 : decode cX6_flow 61 = .ok (.if_icmp .lt 6, 3) := by decide +kernel
theorem dX6_flow_64 : decode cX6_flow 64 = .ok (.iload 4, 2) := by decide +kernel
theorem dX6_flow_66 : decode cX6_flow 66 = .ok (.ireturn, 1) := by decide +kernel
theorem dX6_flow_67 : decode cX6_flow 67 = .ok (.iinc 4 1, 3) := by decide +kernel
theorem dX6_flow_70 : decode cX6_flow 70 = .ok (.goto (-37), 3) := by decide +kernel
theorem dX6_flow_73 : decode cX6_flow 73 = .ok (.bipush (-4), 2) := by decide +kernel
theorem dX6_flow_75 : decode cX6_flow 75 = .ok (.ireturn, 1) := by decide +kernel
theorem dX6_kind_0 : decode cX6_kind 0 = .ok (.aload_n 0, 1) := by decide +kernel
theorem dX6_kind_1 : decode cX6_kind 1 = .ok (.getfield 10, 3) := by decide +kernel
theorem dX6_kind_4 : decode cX6_kind 4 = .ok (.iload_n 1, 1) := by decide +kernel
theorem dX6_kind_5 : decode cX6_kind 5 = .ok (.invokevirtual 126, 3) := by decide +kernel
theorem dX6_kind_8 : decode cX6_kind 8 = .ok (.ifCond .eq 19, 3) := by decide +kernel
theorem dX6_kind_11 : decode cX6_kind 11 = .ok (.iload_n 2, 1) := by decide +kernel
theorem dX6_kind_12 : decode cX6_kind 12 = .ok (.invokestatic 174, 3) := by decide +kernel
theorem dX6_kind_15 : decode cX6_kind 15 = .ok (.ifCond .eq 12, 3) := by decide +kernel
theorem dX6_kind_18 : decode cX6_kind 18 = .ok (.iload_n 3, 1) := by decide +kernel
theorem dX6_kind_19 : decode cX6_kind 19 = .ok (.iconst 0, 1) := by decide +kernel
theorem dX6_kind_20 : decode cX6_kind 20 = .ok (.iconst 1, 1) := by decide +kernel
theorem dX6_kind_21 : decode cX6_kind 21 = .ok (.invokestatic 66, 3) := by decide +kernel
theorem dX6_kind_24 : decode cX6_kind 24 = .ok (.ifCond .ne 5, 3) := by decide +kernel
theorem dX6_kind_27 : decode cX6_kind 27 = .ok (.iconst (-1), 1) := by decide +kernel
theorem dX6_kind_28 : decode cX6_kind 28 = .ok (.ireturn, 1) := by decide +kernel
theorem dX6_kind_29 : decode cX6_kind 29 = .ok (.iconst 0, 1) := by decide +kernel
theorem dX6_kind_30 : decode cX6_kind 30 = .ok (.istore 4, 2) := by decide +kernel
theorem dX6_kind_32 : decode cX6_kind 32 = .ok (.iconst (-1), 1) := by decide +kernel
theorem dX6_kind_33 : decode cX6_kind 33 = .ok (.istore 5, 2) := by decide +kernel
theorem dX6_kind_35 : decode cX6_kind 35 = .ok (.iconst 0, 1) := by decide +kernel
theorem dX6_kind_36 : decode cX6_kind 36 = .ok (.istore 6, 2) := by decide +kernel
theorem dX6_kind_38 : decode cX6_kind 38 = .ok (.iload 6, 2) := by decide +kernel
theorem dX6_kind_40 : decode cX6_kind 40 = .ok (.iconst 3, 1) := by decide +kernel
theorem dX6_kind_41 : decode cX6_kind 41 = .ok (.if_icmp .gt 51, 3) := by decide +kernel
theorem dX6_kind_44 : decode cX6_kind 44 = .ok (.aload_n 0, 1) := by decide +kernel
theorem dX6_kind_45 : decode cX6_kind 45 = .ok (.invokevirtual 177, 3) := by decide +kernel
theorem dX6_kind_48 : decode cX6_kind 48 = .ok (.astore 7, 2) := by decide +kernel
theorem dX6_kind_50 : decode cX6_kind 50 = .ok (.aload 7, 2) := by decide +kernel
theorem dX6_kind_52 : decode cX6_kind 52 = .ok (.getfield 132, 3) := by decide +kernel
theorem dX6_kind_55 : decode cX6_kind 55 = .ok (.iload_n 1, 1) := by decide +kernel
theorem dX6_kind_56 : decode cX6_kind 56 = .ok (.aaload, 1) := by decide +kernel
theorem dX6_kind_57 : decode cX6_kind 57 = .ok (.iload 6, 2) := by decide +kernel
theorem dX6_kind_59 : decode cX6_kind 59 = .ok (.putfield 233, 3) := by decide +kernel
theorem dX6_kind_62 : decode cX6_kind 62 = .ok (.aload 7, 2) := by decide +kernel
theorem dX6_kind_64 : decode cX6_kind 64 = .ok (.iload_n 1, 1) := by decide +kernel
theorem dX6_kind_65 : decode cX6_kind 65 = .ok (.iload_n 2, 1) := by decide +kernel
theorem dX6_kind_66 : decode cX6_kind 66 = .ok (.invokevirtual 185, 3) := by decide +kernel
theorem dX6_kind_69 : decode cX6_kind 69 = .ok (.istore 8, 2) := by decide +kernel
theorem dX6_kind_71 : decode cX6_kind 71 = .ok (.iload 8, 2) := by decide +kernel
theorem dX6_kind_73 : decode cX6_kind 73 = .ok (.iload 5, 2) := by decide +kernel
theorem dX6_kind_75 : decode cX6_kind 75 = .ok (.if_icmp .le 11, 3) := by decide +kernel
theorem dX6_kind_78 : decode cX6_kind 78 = .ok (.iload 8, 2) := by decide +kernel
theorem dX6_kind_80 : decode cX6_kind 80 = .ok (.istore 5, 2) := by decide +kernel
theorem dX6_kind_82 : decode cX6_kind 82 = .ok (.iload 6, 2) := by decide +kernel
theorem dX6_kind_84 : decode cX6_kind 84 = .ok (.istore 4, 2) := by decide +kernel
theorem dX6_kind_86 : decode cX6_kind 86 = .ok (.iinc 6 1, 3) := by decide +kernel
theorem dX6_kind_89 : decode cX6_kind 89 = .ok (.goto (-51), 3) := by decide +kernel
theorem dX6_kind_92 : decode cX6_kind 92 = .ok (.iload_n 3, 1) := by decide +kernel
theorem dX6_kind_93 : decode cX6_kind 93 = .ok (.ifCond .ne 8, 3) := by decide +kernel
theorem dX6_kind_96 : decode cX6_kind 96 = .ok (.iload 4, 2) := by decide +kernel
theorem dX6_kind_98 : decode cX6_kind 98 = .ok (.goto 5, 3) := by decide +kernel
theorem dX6_kind_101 : decode cX6_kind 101 = .ok (.iload 5, 2) := by decide +kernel
theorem dX6_kind_103 : decode cX6_kind 103 = .ok (.ireturn, 1) := by decide +kernel
theorem dX6_play_0 : decode cX6_play 0 = .ok (.iload_n 1, 1) := by decide +kernel
theorem dX6_play_1 : decode cX6_play 1 = .ok (.iconst 0, 1) := by decide +kernel
theorem dX6_play_2 : decode cX6_play 2 = .ok (.iconst 4, 1) := by decide +kernel
theorem dX6_play_3 : decode cX6_play 3 = .ok (.invokestatic 66, 3) := by decide +kernel
theorem dX6_play_6 : decode cX6_play 6 = .ok (.ifCond .eq 12, 3) := by decide +kernel
theorem dX6_play_9 : decode cX6_play 9 = .ok (.iload_n 2, 1) := by decide +kernel
theorem dX6_play_10 : decode cX6_play 10 = .ok (.iconst 0, 1) := by decide +kernel
theorem dX6_play_11 : decode cX6_play 11 = .ok (.iconst 1, 1) := by decide +kernel
theorem dX6_play_12 : decode cX6_play 12 = .ok (.invokestatic 66, 3) := by decide +kernel
theorem dX6_play_15 : decode cX6_play 15 = .ok (.ifCond .ne 5, 3) := by decide +kernel
theorem dX6_play_18 : decode cX6_play 18 = .ok (.iconst (-1), 1) := by decide +kernel
theorem dX6_play_19 : decode cX6_play 19 = .ok (.ireturn, 1) := by decide +kernel
theorem dX6_play_20 : decode cX6_play 20 = .ok (.iload_n 1, 1) := by decide +kernel
theorem dX6_play_21 : decode cX6_play 21 = .ok (.ifCond .ne 14, 3) := by decide +kernel
theorem dX6_play_24 : decode cX6_play 24 = .ok (.iload_n 2, 1) := by decide +kernel
theorem dX6_play_25 : decode cX6_play 25 = .ok (.ifCond .ne 7, 3) := by decide +kernel
theorem dX6_play_28 : decode cX6_play 28 = .ok (.iconst 0, 1) := by decide +kernel
theorem dX6_play_29 : decode cX6_play 29 = .ok (.goto 5, 3) := by decide +kernel
theorem dX6_play_32 : decode cX6_play 32 = .ok (.bipush (-4), 2) := by decide +kernel
theorem dX6_play_34 : decode cX6_play 34 = .ok (.ireturn, 1) := by decide +kernel
theorem dX6_play_35 : decode cX6_play 35 = .ok (.iconst 0, 1) := by decide +kernel
theorem dX6_play_36 : decode cX6_play 36 = .ok (.istore_n 3, 1) := by decide +kernel
theorem dX6_play_37 : decode cX6_play 37 = .ok (.iload_n 3, 1) := by decide +kernel
theorem dX6_play_38 : decode cX6_play 38 = .ok (.aload_n 0, 1) := by decide +kernel
theorem dX6_play_39 : decode cX6_play 39 = .ok (.getfield 19, 3) := by decide +kernel
theorem dX6_play_42 : decode cX6_play 42 = .ok (.arraylength, 1) := by decide +kernel
theorem dX6_play_43 : decode cX6_play 43 = .ok (.if_icmp .ge 22, 3) := by decide +kernel
theorem dX6_play_46 : decode cX6_play 46 = .ok (.aload_n 0, 1) := by decide +kernel
theorem dX6_play_47 : decode cX6_play 47 = .ok (.getfield 19, 3) := by decide +kernel
theorem dX6_play_50 : decode cX6_play 50 = .ok (.iload_n 3, 1) := by decide +kernel
theorem dX6_play_51 : decode cX6_play 51 = .ok (.aaload, 1) := by decide +kernel
theorem dX6_play_52 : decode cX6_play 52 = .ok (.aload_n 0, 1) := by decide +kernel
theorem dX6_play_53 : decode cX6_play 53 = .ok (.getfield 10, 3) := by decide +kernel
theorem dX6_play_56 : decode cX6_play 56 = .ok (.invokevirtual 93, 3) := by decide +kernel
theorem dX6_play_59 : decode cX6_play 59 = .ok (.iinc 3 1, 3) := by decide +kernel
theorem dX6_play_62 : decode cX6_play 62 = .ok (.goto (-25), 3) := by decide +kernel
theorem dX6_play_65 : decode cX6_play 65 = .ok (.iconst 4, 1) := by decide +kernel
theorem dX6_play_66 : decode cX6_play 66 = .ok (.istore_n 3, 1) := by decide +kernel
theorem dX6_play_67 : decode cX6_play 67 = .ok (.iconst (-1), 1) := by decide +kernel
theorem dX6_play_68 : decode cX6_play 68 = .ok (.istore 4, 2) := by decide +kernel
theorem dX6_play_70 : decode cX6_play 70 = .ok (.iconst 0, 1) := by decide +kernel
theorem dX6_play_71 : decode cX6_play 71 = .ok (.istore 5, 2) := by decide +kernel
theorem dX6_play_73 : decode cX6_play 73 = .ok (.iload 5, 2) := by decide +kernel
theorem dX6_play_75 : decode cX6_play 75 = .ok (.aload_n 0, 1) := by decide +kernel
theorem dX6_play_76 : decode cX6_play 76 = .ok (.getfield 10, 3) := by decide +kernel
theorem dX6_play_79 : decode cX6_play 79 = .ok (.getfield 100, 3) := by decide +kernel
theorem dX6_play_82 : decode cX6_play 82 = .ok (.if_icmp .gt 49, 3) := by decide +kernel
theorem dX6_play_85 : decode cX6_play 85 = .ok (.aload_n 0, 1) := by decide +kernel
theorem dX6_play_86 : decode cX6_play 86 = .ok (.iconst 0, 1) := by decide +kernel
theorem dX6_play_87 : decode cX6_play 87 = .ok (.iload_n 1, 1) := by decide +kernel
theorem dX6_play_88 : decode cX6_play 88 = .ok (.aload_n 0, 1) := by decide +kernel
theorem dX6_play_89 : decode cX6_play 89 = .ok (.getfield 10, 3) := by decide +kernel
theorem dX6_play_92 : decode cX6_play 92 = .ok (.iload 5, 2) := by decide +kernel
theorem dX6_play_94 : decode cX6_play 94 = .ok (.invokevirtual 204, 3) := by decide +kernel
theorem dX6_play_97 : decode cX6_play 97 = .ok (.iload 4, 2) := by decide +kernel
theorem dX6_play_99 : decode cX6_play 99 = .ok (.invokevirtual 236, 3) := by decide +kernel
theorem dX6_play_102 : decode cX6_play 102 = .ok (.istore 6, 2) := by decide +kernel
theorem dX6_play_104 : decode cX6_play 104 = .ok (.iload 6, 2) := by decide +kernel
theorem dX6_play_106 : decode cX6_play 106 = .ok (.iload 4, 2) := by decide +kernel
theorem dX6_play_108 : decode cX6_play 108 = .ok (.if_icmp .le 17, 3) := by decide +kernel
theorem dX6_play_111 : decode cX6_play 111 = .ok (.iload 6, 2) := by decide +kernel
theorem dX6_play_113 : decode cX6_play 113 = .ok (.istore 4, 2) := by decide +kernel
theorem dX6_play_115 : decode cX6_play 115 = .ok (.aload_n 0, 1) := by decide +kernel
theorem dX6_play_116 : decode cX6_play 116 = .ok (.getfield 10, 3) := by decide +kernel
theorem dX6_play_119 : decode cX6_play 119 = .ok (.iload 5, 2) := by decide +kernel
theorem dX6_play_121 : decode cX6_play 121 = .ok (.invokevirtual 204, 3) := by decide +kernel
theorem dX6_play_124 : decode cX6_play 124 = .ok (.istore_n 3, 1) := by decide +kernel
theorem dX6_play_125 : decode cX6_play 125 = .ok (.iinc 5 1, 3) := by decide +kernel
theorem dX6_play_128 : decode cX6_play 128 = .ok (.goto (-55), 3) := by decide +kernel
theorem dX6_play_131 : decode cX6_play 131 = .ok (.iload_n 2, 1) := by decide +kernel
theorem dX6_play_132 : decode cX6_play 132 = .ok (.ifCond .ne 8, 3) := by decide +kernel
theorem dX6_play_135 : decode cX6_play 135 = .ok (.iload 4, 2) := by decide +kernel
theorem dX6_play_137 : decode cX6_play 137 = .ok (.goto 4, 3) := by decide +kernel
theorem dX6_play_140 : decode cX6_play 140 = .ok (.iload_n 3, 1) := by decide +kernel
theorem dX6_play_141 : decode cX6_play 141 = .ok (.ireturn, 1) := by decide +kernel
theorem dX6_mostFrom_0 : decode cX6_mostFrom 0 = .ok (.iconst 0, 1) := by decide +kernel
theorem dX6_mostFrom_1 : decode cX6_mostFrom 1 = .ok (.istore_n 3, 1) := by decide +kernel
theorem dX6_mostFrom_2 : decode cX6_mostFrom 2 = .ok (.iload_n 1, 1) := by decide +kernel
theorem dX6_mostFrom_3 : decode cX6_mostFrom 3 = .ok (.iload_n 2, 1) := by decide +kernel
theorem dX6_mostFrom_4 : decode cX6_mostFrom 4 = .ok (.if_icmp .ge 45, 3) := by decide +kernel
theorem dX6_mostFrom_7 : decode cX6_mostFrom 7 = .ok (.iconst 0, 1) := by decide +kernel
theorem dX6_mostFrom_8 : decode cX6_mostFrom 8 = .ok (.istore 4, 2) := by decide +kernel
theorem dX6_mostFrom_10 : decode cX6_mostFrom 10 = .ok (.iload 4, 2) := by decide +kernel
theorem dX6_mostFrom_12 : decode cX6_mostFrom 12 = .ok (.aload_n 0, 1) := by decide +kernel
theorem dX6_mostFrom_13 : decode cX6_mostFrom 13 = .ok (.getfield 10, 3) := by decide +kernel
theorem dX6_mostFrom_16 : decode cX6_mostFrom 16 = .ok (.getfield 100, 3) := by decide +kernel
theorem dX6_mostFrom_19 : decode cX6_mostFrom 19 = .ok (.if_icmp .gt 30, 3) := by decide +kernel
theorem dX6_mostFrom_22 : decode cX6_mostFrom 22 = .ok (.iload_n 3, 1) := by decide +kernel
theorem dX6_mostFrom_23 : decode cX6_mostFrom 23 = .ok (.aload_n 0, 1) := by decide +kernel
theorem dX6_mostFrom_24 : decode cX6_mostFrom 24 = .ok (.iload_n 1, 1) := by decide +kernel
theorem dX6_mostFrom_25 : decode cX6_mostFrom 25 = .ok (.iload_n 2, 1) := by decide +kernel
theorem dX6_mostFrom_26 : decode cX6_mostFrom 26 = .ok (.aload_n 0, 1) := by decide +kernel
theorem dX6_mostFrom_27 : decode cX6_mostFrom 27 = .ok (.getfield 10, 3) := by decide +kernel
theorem dX6_mostFrom_30 : decode cX6_mostFrom 30 = .ok (.iload 4, 2) := by decide +kernel
theorem dX6_mostFrom_32 : decode cX6_mostFrom 32 = .ok (.invokevirtual 204, 3) := by decide +kernel
theorem dX6_mostFrom_35 : decode cX6_mostFrom 35 = .ok (.iload_n 3, 1) := by decide +kernel
theorem dX6_mostFrom_36 : decode cX6_mostFrom 36 = .ok (.invokevirtual 236, 3) := by decide +kernel
theorem dX6_mostFrom_39 : decode cX6_mostFrom 39 = .ok (.invokestatic 222, 3) := by decide +kernel
theorem dX6_mostFrom_42 : decode cX6_mostFrom 42 = .ok (.istore_n 3, 1) := by decide +kernel
theorem dX6_mostFrom_43 : decode cX6_mostFrom 43 = .ok (.iinc 4 1, 3) := by decide +kernel
theorem dX6_mostFrom_46 : decode cX6_mostFrom 46 = .ok (.goto (-36), 3) := by decide +kernel
theorem dX6_mostFrom_49 : decode cX6_mostFrom 49 = .ok (.iload_n 3, 1) := by decide +kernel
theorem dX6_mostFrom_50 : decode cX6_mostFrom 50 = .ok (.ireturn, 1) := by decide +kernel
theorem dX6_leastFor_0 : decode cX6_leastFor 0 = .ok (.iload_n 1, 1) := by decide +kernel
theorem dX6_leastFor_1 : decode cX6_leastFor 1 = .ok (.ifCond .lt 8, 3) := by decide +kernel
theorem dX6_leastFor_4 : decode cX6_leastFor 4 = .ok (.iload_n 1, 1) := by decide +kernel
theorem dX6_leastFor_5 : decode cX6_leastFor 5 = .ok (.iconst 4, 1) := by decide +kernel
theorem dX6_leastFor_6 : decode cX6_leastFor 6 = .ok (.if_icmp .lt 5, 3) := by decide +kernel
theorem dX6_leastFor_9 : decode cX6_leastFor 9 = .ok (.iconst 0, 1) := by decide +kernel
theorem dX6_leastFor_10 : decode cX6_leastFor 10 = .ok (.ireturn, 1) := by decide +kernel
theorem dX6_leastFor_11 : decode cX6_leastFor 11 = .ok (.aload_n 0, 1) := by decide +kernel
theorem dX6_leastFor_12 : decode cX6_leastFor 12 = .ok (.getfield 19, 3) := by decide +kernel
theorem dX6_leastFor_15 : decode cX6_leastFor 15 = .ok (.iload_n 1, 1) := by decide +kernel
theorem dX6_leastFor_16 : decode cX6_leastFor 16 = .ok (.iconst 1, 1) := by decide +kernel
theorem dX6_leastFor_17 : decode cX6_leastFor 17 = .ok (.iadd, 1) := by decide +kernel
theorem dX6_leastFor_18 : decode cX6_leastFor 18 = .ok (.aaload, 1) := by decide +kernel
theorem dX6_leastFor_19 : decode cX6_leastFor 19 = .ok (.astore 5, 2) := by decide +kernel
theorem dX6_leastFor_21 : decode cX6_leastFor 21 = .ok (.aload 5, 2) := by decide +kernel
theorem dX6_leastFor_23 : decode cX6_leastFor 23 = .ok (.aload_n 0, 1) := by decide +kernel
theorem dX6_leastFor_24 : decode cX6_leastFor 24 = .ok (.getfield 19, 3) := by decide +kernel
theorem dX6_leastFor_27 : decode cX6_leastFor 27 = .ok (.iload_n 1, 1) := by decide +kernel
theorem dX6_leastFor_28 : decode cX6_leastFor 28 = .ok (.aaload, 1) := by decide +kernel
theorem dX6_leastFor_29 : decode cX6_leastFor 29 = .ok (.invokevirtual 240, 3) := by decide +kernel
theorem dX6_leastFor_32 : decode cX6_leastFor 32 = .ok (.aload 5, 2) := by decide +kernel
theorem dX6_leastFor_34 : decode cX6_leastFor 34 = .ok (.bipush 9, 2) := by decide +kernel
theorem dX6_leastFor_36 : decode cX6_leastFor 36 = .ok (.iload_n 3, 1) := by decide +kernel
theorem dX6_leastFor_37 : decode cX6_leastFor 37 = .ok (.invokevirtual 214, 3) := by decide +kernel
theorem dX6_leastFor_40 : decode cX6_leastFor 40 = .ok (.invokestatic 217, 3) := by decide +kernel
theorem dX6_leastFor_43 : decode cX6_leastFor 43 = .ok (.aload_n 0, 1) := by decide +kernel
theorem dX6_leastFor_44 : decode cX6_leastFor 44 = .ok (.iload_n 1, 1) := by decide +kernel
theorem dX6_leastFor_45 : decode cX6_leastFor 45 = .ok (.iconst 1, 1) := by decide +kernel
theorem dX6_leastFor_46 : decode cX6_leastFor 46 = .ok (.iadd, 1) := by decide +kernel
theorem dX6_leastFor_47 : decode cX6_leastFor 47 = .ok (.iload_n 2, 1) := by decide +kernel
theorem dX6_leastFor_48 : decode cX6_leastFor 48 = .ok (.invokevirtual 243, 3) := by decide +kernel
theorem dX6_leastFor_51 : decode cX6_leastFor 51 = .ok (.iadd, 1) := by decide +kernel
theorem dX6_leastFor_52 : decode cX6_leastFor 52 = .ok (.istore 6, 2) := by decide +kernel
theorem dX6_leastFor_54 : decode cX6_leastFor 54 = .ok (.iload 6, 2) := by decide +kernel
theorem dX6_leastFor_56 : decode cX6_leastFor 56 = .ok (.iload 4, 2) := by decide +kernel
theorem dX6_leastFor_58 : decode cX6_leastFor 58 = .ok (.if_icmp .gt 6, 3) := by decide +kernel
theorem dX6_leastFor_61 : decode cX6_leastFor 61 = .ok (.iload 6, 2) := by decide +kernel
theorem dX6_leastFor_63 : decode cX6_leastFor 63 = .ok (.ireturn, 1) := by decide +kernel
theorem dX6_leastFor_64 : decode cX6_leastFor 64 = .ok (.aload 5, 2) := by decide +kernel
theorem dX6_leastFor_66 : decode cX6_leastFor 66 = .ok (.aload_n 0, 1) := by decide +kernel
theorem dX6_leastFor_67 : decode cX6_leastFor 67 = .ok (.getfield 19, 3) := by decide +kernel
theorem dX6_leastFor_70 : decode cX6_leastFor 70 = .ok (.iload_n 1, 1) := by decide +kernel
theorem dX6_leastFor_71 : decode cX6_leastFor 71 = .ok (.aaload, 1) := by decide +kernel
theorem dX6_leastFor_72 : decode cX6_leastFor 72 = .ok (.invokevirtual 240, 3) := by decide +kernel
theorem dX6_leastFor_75 : decode cX6_leastFor 75 = .ok (.aload 5, 2) := by decide +kernel
theorem dX6_leastFor_77 : decode cX6_leastFor 77 = .ok (.iconst 0, 1) := by decide +kernel
theorem dX6_leastFor_78 : decode cX6_leastFor 78 = .ok (.iload_n 3, 1) := by decide +kernel
theorem dX6_leastFor_79 : decode cX6_leastFor 79 = .ok (.invokevirtual 214, 3) := by decide +kernel
theorem dX6_leastFor_82 : decode cX6_leastFor 82 = .ok (.invokestatic 217, 3) := by decide +kernel
theorem dX6_leastFor_85 : decode cX6_leastFor 85 = .ok (.aload_n 0, 1) := by decide +kernel
theorem dX6_leastFor_86 : decode cX6_leastFor 86 = .ok (.iload_n 1, 1) := by decide +kernel
theorem dX6_leastFor_87 : decode cX6_leastFor 87 = .ok (.iconst 1, 1) := by decide +kernel
theorem dX6_leastFor_88 : decode cX6_leastFor 88 = .ok (.iadd, 1) := by decide +kernel
theorem dX6_leastFor_89 : decode cX6_leastFor 89 = .ok (.iload_n 2, 1) := by decide +kernel
theorem dX6_leastFor_90 : decode cX6_leastFor 90 = .ok (.invokevirtual 243, 3) := by decide +kernel
theorem dX6_leastFor_93 : decode cX6_leastFor 93 = .ok (.iadd, 1) := by decide +kernel
theorem dX6_leastFor_94 : decode cX6_leastFor 94 = .ok (.istore 7, 2) := by decide +kernel
theorem dX6_leastFor_96 : decode cX6_leastFor 96 = .ok (.iload 6, 2) := by decide +kernel
theorem dX6_leastFor_98 : decode cX6_leastFor 98 = .ok (.iload 7, 2) := by decide +kernel
theorem dX6_leastFor_100 : decode cX6_leastFor 100 = .ok (.invokestatic 246, 3) := by decide +kernel
theorem dX6_leastFor_103 : decode cX6_leastFor 103 = .ok (.ireturn, 1) := by decide +kernel
theorem dX6_luck_0 : decode cX6_luck 0 = .ok (.aload_n 0, 1) := by decide +kernel
theorem dX6_luck_1 : decode cX6_luck 1 = .ok (.getfield 10, 3) := by decide +kernel
theorem dX6_luck_4 : decode cX6_luck 4 = .ok (.iload_n 2, 1) := by decide +kernel
theorem dX6_luck_5 : decode cX6_luck 5 = .ok (.invokevirtual 126, 3) := by decide +kernel
theorem dX6_luck_8 : decode cX6_luck 8 = .ok (.ifCond .eq 13, 3) := by decide +kernel
theorem dX6_luck_11 : decode cX6_luck 11 = .ok (.iload_n 1, 1) := by decide +kernel
theorem dX6_luck_12 : decode cX6_luck 12 = .ok (.iload_n 3, 1) := by decide +kernel
theorem dX6_luck_13 : decode cX6_luck 13 = .ok (.iload 4, 2) := by decide +kernel
theorem dX6_luck_15 : decode cX6_luck 15 = .ok (.invokestatic 249, 3) := by decide +kernel
theorem dX6_luck_18 : decode cX6_luck 18 = .ok (.ifCond .ne 7, 3) := by decide +kernel
theorem dX6_luck_21 : decode cX6_luck 21 = .ok (.ldc2_w 252, 3) := by decide +kernel
theorem dX6_luck_24 : decode cX6_luck 24 = .ok (.lreturn, 1) := by decide +kernel
theorem dX6_luck_25 : decode cX6_luck 25 = .ok (.lconst 0, 1) := by decide +kernel
theorem dX6_luck_26 : decode cX6_luck 26 = .ok (.lstore 5, 2) := by decide +kernel
theorem dX6_luck_28 : decode cX6_luck 28 = .ok (.iconst 0, 1) := by decide +kernel
theorem dX6_luck_29 : decode cX6_luck 29 = .ok (.istore 7, 2) := by decide +kernel
theorem dX6_luck_31 : decode cX6_luck 31 = .ok (.iload 7, 2) := by decide +kernel
theorem dX6_luck_33 : decode cX6_luck 33 = .ok (.iconst 1, 1) := by decide +kernel
theorem dX6_luck_34 : decode cX6_luck 34 = .ok (.iload_n 3, 1) := by decide +kernel
theorem dX6_luck_35 : decode cX6_luck 35 = .ok (.ishl, 1) := by decide +kernel
theorem dX6_luck_36 : decode cX6_luck 36 = .ok (.if_icmp .ge 34, 3) := by decide +kernel
theorem dX6_luck_39 : decode cX6_luck 39 = .ok (.aload_n 0, 1) := by decide +kernel
theorem dX6_luck_40 : decode cX6_luck 40 = .ok (.iload 7, 2) := by decide +kernel
theorem dX6_luck_42 : decode cX6_luck 42 = .ok (.iload_n 3, 1) := by decide +kernel
theorem dX6_luck_43 : decode cX6_luck 43 = .ok (.iconst 1, 1) := by decide +kernel
theorem dX6_luck_44 : decode cX6_luck 44 = .ok (.iload_n 2, 1) := by decide +kernel
theorem dX6_luck_45 : decode cX6_luck 45 = .ok (.ishl, 1) := by decide +kernel
theorem dX6_luck_46 : decode cX6_luck 46 = .ok (.invokevirtual 254, 3) := by decide +kernel
theorem dX6_luck_49 : decode cX6_luck 49 = .ok (.ifCond .le 15, 3) := by decide +kernel
theorem dX6_luck_52 : decode cX6_luck 52 = .ok (.lload 5, 2) := by decide +kernel
theorem dX6_luck_54 : decode cX6_luck 54 = .ok (.iload 7, 2) := by decide +kernel
theorem dX6_luck_56 : decode cX6_luck 56 = .ok (.iload_n 3, 1) := by decide +kernel
theorem dX6_luck_57 : decode cX6_luck 57 = .ok (.iload_n 1, 1) := by decide +kernel
theorem dX6_luck_58 : decode cX6_luck 58 = .ok (.invokestatic 257, 3) := by decide +kernel
theorem dX6_luck_61 : decode cX6_luck 61 = .ok (.ladd, 1) := by decide +kernel
theorem dX6_luck_62 : decode cX6_luck 62 = .ok (.lstore 5, 2) := by decide +kernel
theorem dX6_luck_64 : decode cX6_luck 64 = .ok (.iinc 7 1, 3) := by decide +kernel
theorem dX6_luck_67 : decode cX6_luck 67 = .ok (.goto (-36), 3) := by decide +kernel
theorem dX6_luck_70 : decode cX6_luck 70 = .ok (.lload 5, 2) := by decide +kernel
theorem dX6_luck_72 : decode cX6_luck 72 = .ok (.bipush 10, 2) := by decide +kernel
theorem dX6_luck_74 : decode cX6_luck 74 = .ok (.iload_n 3, 1) := by decide +kernel
theorem dX6_luck_75 : decode cX6_luck 75 = .ok (.invokestatic 261, 3) := by decide +kernel
theorem dX6_luck_78 : decode cX6_luck 78 = .ok (.iload 4, 2) := by decide +kernel
theorem dX6_luck_80 : decode cX6_luck 80 = .ok (.invokestatic 265, 3) := by decide +kernel
theorem dX6_luck_83 : decode cX6_luck 83 = .ok (.lreturn, 1) := by decide +kernel
theorem dX6_mean_0 : decode cX6_mean 0 = .ok (.iload_n 1, 1) := by decide +kernel
theorem dX6_mean_1 : decode cX6_mean 1 = .ok (.iload_n 2, 1) := by decide +kernel
theorem dX6_mean_2 : decode cX6_mean 2 = .ok (.iload_n 3, 1) := by decide +kernel
theorem dX6_mean_3 : decode cX6_mean 3 = .ok (.invokestatic 249, 3) := by decide +kernel
theorem dX6_mean_6 : decode cX6_mean 6 = .ok (.ifCond .ne 7, 3) := by decide +kernel
theorem dX6_mean_9 : decode cX6_mean 9 = .ok (.ldc2_w 252, 3) := by decide +kernel
theorem dX6_mean_12 : decode cX6_mean 12 = .ok (.lreturn, 1) := by decide +kernel
theorem dX6_mean_13 : decode cX6_mean 13 = .ok (.lconst 0, 1) := by decide +kernel
theorem dX6_mean_14 : decode cX6_mean 14 = .ok (.lstore 4, 2) := by decide +kernel
theorem dX6_mean_16 : decode cX6_mean 16 = .ok (.iconst 0, 1) := by decide +kernel
theorem dX6_mean_17 : decode cX6_mean 17 = .ok (.istore 6, 2) := by decide +kernel
theorem dX6_mean_19 : decode cX6_mean 19 = .ok (.iload 6, 2) := by decide +kernel
theorem dX6_mean_21 : decode cX6_mean 21 = .ok (.iconst 1, 1) := by decide +kernel
theorem dX6_mean_22 : decode cX6_mean 22 = .ok (.iload_n 2, 1) := by decide +kernel
theorem dX6_mean_23 : decode cX6_mean 23 = .ok (.ishl, 1) := by decide +kernel
theorem dX6_mean_24 : decode cX6_mean 24 = .ok (.if_icmp .ge 32, 3) := by decide +kernel
theorem dX6_mean_27 : decode cX6_mean 27 = .ok (.lload 4, 2) := by decide +kernel
theorem dX6_mean_29 : decode cX6_mean 29 = .ok (.aload_n 0, 1) := by decide +kernel
theorem dX6_mean_30 : decode cX6_mean 30 = .ok (.iload 6, 2) := by decide +kernel
theorem dX6_mean_32 : decode cX6_mean 32 = .ok (.iload_n 2, 1) := by decide +kernel
theorem dX6_mean_33 : decode cX6_mean 33 = .ok (.bipush 15, 2) := by decide +kernel
theorem dX6_mean_35 : decode cX6_mean 35 = .ok (.invokevirtual 254, 3) := by decide +kernel
theorem dX6_mean_38 : decode cX6_mean 38 = .ok (.i2l, 1) := by decide +kernel
theorem dX6_mean_39 : decode cX6_mean 39 = .ok (.iload 6, 2) := by decide +kernel
theorem dX6_mean_41 : decode cX6_mean 41 = .ok (.iload_n 2, 1) := by decide +kernel
theorem dX6_mean_42 : decode cX6_mean 42 = .ok (.iload_n 1, 1) := by decide +kernel
theorem dX6_mean_43 : decode cX6_mean 43 = .ok (.invokestatic 257, 3) := by decide +kernel
theorem dX6_mean_46 : decode cX6_mean 46 = .ok (.lmul, 1) := by decide +kernel
theorem dX6_mean_47 : decode cX6_mean 47 = .ok (.ladd, 1) := by decide +kernel
theorem dX6_mean_48 : decode cX6_mean 48 = .ok (.lstore 4, 2) := by decide +kernel
theorem dX6_mean_50 : decode cX6_mean 50 = .ok (.iinc 6 1, 3) := by decide +kernel
theorem dX6_mean_53 : decode cX6_mean 53 = .ok (.goto (-34), 3) := by decide +kernel
theorem dX6_mean_56 : decode cX6_mean 56 = .ok (.lload 4, 2) := by decide +kernel
theorem dX6_mean_58 : decode cX6_mean 58 = .ok (.bipush 10, 2) := by decide +kernel
theorem dX6_mean_60 : decode cX6_mean 60 = .ok (.iload_n 2, 1) := by decide +kernel
theorem dX6_mean_61 : decode cX6_mean 61 = .ok (.invokestatic 261, 3) := by decide +kernel
theorem dX6_mean_64 : decode cX6_mean 64 = .ok (.iload_n 3, 1) := by decide +kernel
theorem dX6_mean_65 : decode cX6_mean 65 = .ok (.invokestatic 265, 3) := by decide +kernel
theorem dX6_mean_68 : decode cX6_mean 68 = .ok (.lreturn, 1) := by decide +kernel
theorem dX6_areOdds_0 : decode cX6_areOdds 0 = .ok (.iload_n 0, 1) := by decide +kernel
theorem dX6_areOdds_1 : decode cX6_areOdds 1 = .ok (.iconst 0, 1) := by decide +kernel
theorem dX6_areOdds_2 : decode cX6_areOdds 2 = .ok (.bipush 10, 2) := by decide +kernel
theorem dX6_areOdds_4 : decode cX6_areOdds 4 = .ok (.invokestatic 66, 3) := by decide +kernel
theorem dX6_areOdds_7 : decode cX6_areOdds 7 = .ok (.ifCond .eq 26, 3) := by decide +kernel
theorem dX6_areOdds_10 : decode cX6_areOdds 10 = .ok (.iload_n 1, 1) := by decide +kernel
theorem dX6_areOdds_11 : decode cX6_areOdds 11 = .ok (.iconst 0, 1) := by decide +kernel
theorem dX6_areOdds_12 : decode cX6_areOdds 12 = .ok (.bipush 8, 2) := by decide +kernel
theorem dX6_areOdds_14 : decode cX6_areOdds 14 = .ok (.invokestatic 66, 3) := by decide +kernel
theorem dX6_areOdds_17 : decode cX6_areOdds 17 = .ok (.ifCond .eq 16, 3) := by decide +kernel
theorem dX6_areOdds_20 : decode cX6_areOdds 20 = .ok (.iload_n 2, 1) := by decide +kernel
theorem dX6_areOdds_21 : decode cX6_areOdds 21 = .ok (.iconst 0, 1) := by decide +kernel
theorem dX6_areOdds_22 : decode cX6_areOdds 22 = .ok (.iconst 1, 1) := by decide +kernel
theorem dX6_areOdds_23 : decode cX6_areOdds 23 = .ok (.invokestatic 66, 3) := by decide +kernel
theorem dX6_areOdds_26 : decode cX6_areOdds 26 = .ok (.ifCond .eq 7, 3) := by decide +kernel
theorem dX6_areOdds_29 : decode cX6_areOdds 29 = .ok (.iconst 1, 1) := by decide +kernel
theorem dX6_areOdds_30 : decode cX6_areOdds 30 = .ok (.goto 4, 3) := by decide +kernel
theorem dX6_areOdds_33 : decode cX6_areOdds 33 = .ok (.iconst 0, 1) := by decide +kernel
theorem dX6_areOdds_34 : decode cX6_areOdds 34 = .ok (.ireturn, 1) := by decide +kernel
theorem dX6_upsByOdds_0 : decode cX6_upsByOdds 0 = .ok (.aload_n 0, 1) := by decide +kernel
theorem dX6_upsByOdds_1 : decode cX6_upsByOdds 1 = .ok (.invokevirtual 177, 3) := by decide +kernel
theorem dX6_upsByOdds_4 : decode cX6_upsByOdds 4 = .ok (.astore 4, 2) := by decide +kernel
theorem dX6_upsByOdds_6 : decode cX6_upsByOdds 6 = .ok (.iconst 0, 1) := by decide +kernel
theorem dX6_upsByOdds_7 : decode cX6_upsByOdds 7 = .ok (.istore 5, 2) := by decide +kernel
theorem dX6_upsByOdds_9 : decode cX6_upsByOdds 9 = .ok (.iconst 0, 1) := by decide +kernel
theorem dX6_upsByOdds_10 : decode cX6_upsByOdds 10 = .ok (.istore 6, 2) := by decide +kernel
theorem dX6_upsByOdds_12 : decode cX6_upsByOdds 12 = .ok (.iload 6, 2) := by decide +kernel
theorem dX6_upsByOdds_14 : decode cX6_upsByOdds 14 = .ok (.iload_n 2, 1) := by decide +kernel
theorem dX6_upsByOdds_15 : decode cX6_upsByOdds 15 = .ok (.if_icmp .ge 52, 3) := by decide +kernel
theorem dX6_upsByOdds_18 : decode cX6_upsByOdds 18 = .ok (.iload_n 1, 1) := by decide +kernel
theorem dX6_upsByOdds_19 : decode cX6_upsByOdds 19 = .ok (.iload 6, 2) := by decide +kernel
theorem dX6_upsByOdds_21 : decode cX6_upsByOdds 21 = .ok (.invokestatic 197, 3) := by decide +kernel
theorem dX6_upsByOdds_24 : decode cX6_upsByOdds 24 = .ok (.iconst 1, 1) := by decide +kernel
theorem dX6_upsByOdds_25 : decode cX6_upsByOdds 25 = .ok (.if_icmp .ne 7, 3) := by decide +kernel
theorem dX6_upsByOdds_28 : decode cX6_upsByOdds 28 = .ok (.iconst 0, 1) := by decide +kernel
theorem dX6_upsByOdds_29 : decode cX6_upsByOdds 29 = .ok (.goto 8, 3) := by decide +kernel
theorem dX6_upsByOdds_32 : decode cX6_upsByOdds 32 = .ok (.aload 4, 2) := by decide +kernel
theorem dX6_upsByOdds_34 : decode cX6_upsByOdds 34 = .ok (.invokevirtual 119, 3) := by decide +kernel
theorem dX6_upsByOdds_37 : decode cX6_upsByOdds 37 = .ok (.istore 7, 2) := by decide +kernel
theorem dX6_upsByOdds_39 : decode cX6_upsByOdds 39 = .ok (.iload 5, 2) := by decide +kernel
theorem dX6_upsByOdds_41 : decode cX6_upsByOdds 41 = .ok (.aload 4, 2) := by decide +kernel
theorem dX6_upsByOdds_43 : decode cX6_upsByOdds 43 = .ok (.iload 7, 2) := by decide +kernel
theorem dX6_upsByOdds_45 : decode cX6_upsByOdds 45 = .ok (.aload 4, 2) := by decide +kernel
theorem dX6_upsByOdds_47 : decode cX6_upsByOdds 47 = .ok (.invokevirtual 123, 3) := by decide +kernel
theorem dX6_upsByOdds_50 : decode cX6_upsByOdds 50 = .ok (.invokevirtual 214, 3) := by decide +kernel
theorem dX6_upsByOdds_53 : decode cX6_upsByOdds 53 = .ok (.iload_n 3, 1) := by decide +kernel
theorem dX6_upsByOdds_54 : decode cX6_upsByOdds 54 = .ok (.iand, 1) := by decide +kernel
theorem dX6_upsByOdds_55 : decode cX6_upsByOdds 55 = .ok (.invokestatic 217, 3) := by decide +kernel
theorem dX6_upsByOdds_58 : decode cX6_upsByOdds 58 = .ok (.iadd, 1) := by decide +kernel
theorem dX6_upsByOdds_59 : decode cX6_upsByOdds 59 = .ok (.istore 5, 2) := by decide +kernel
theorem dX6_upsByOdds_61 : decode cX6_upsByOdds 61 = .ok (.iinc 6 1, 3) := by decide +kernel
theorem dX6_upsByOdds_64 : decode cX6_upsByOdds 64 = .ok (.goto (-52), 3) := by decide +kernel
theorem dX6_upsByOdds_67 : decode cX6_upsByOdds 67 = .ok (.iload 5, 2) := by decide +kernel
theorem dX6_upsByOdds_69 : decode cX6_upsByOdds 69 = .ok (.ireturn, 1) := by decide +kernel
theorem dX6_weight_0 : decode cX6_weight 0 = .ok (.iload_n 0, 1) := by decide +kernel
theorem dX6_weight_1 : decode cX6_weight 1 = .ok (.invokestatic 217, 3) := by decide +kernel
theorem dX6_weight_4 : decode cX6_weight 4 = .ok (.istore_n 3, 1) := by decide +kernel
theorem dX6_weight_5 : decode cX6_weight 5 = .ok (.iload_n 2, 1) := by decide +kernel
theorem dX6_weight_6 : decode cX6_weight 6 = .ok (.iload_n 3, 1) := by decide +kernel
theorem dX6_weight_7 : decode cX6_weight 7 = .ok (.invokestatic 261, 3) := by decide +kernel
theorem dX6_weight_10 : decode cX6_weight 10 = .ok (.bipush 10, 2) := by decide +kernel
theorem dX6_weight_12 : decode cX6_weight 12 = .ok (.iload_n 2, 1) := by decide +kernel
theorem dX6_weight_13 : decode cX6_weight 13 = .ok (.isub, 1) := by decide +kernel
theorem dX6_weight_14 : decode cX6_weight 14 = .ok (.iload_n 1, 1) := by decide +kernel
theorem dX6_weight_15 : decode cX6_weight 15 = .ok (.iload_n 3, 1) := by decide +kernel
theorem dX6_weight_16 : decode cX6_weight 16 = .ok (.isub, 1) := by decide +kernel
theorem dX6_weight_17 : decode cX6_weight 17 = .ok (.invokestatic 261, 3) := by decide +kernel
theorem dX6_weight_20 : decode cX6_weight 20 = .ok (.lmul, 1) := by decide +kernel
theorem dX6_weight_21 : decode cX6_weight 21 = .ok (.lreturn, 1) := by decide +kernel
theorem dX6_power_0 : decode cX6_power 0 = .ok (.lconst 1, 1) := by decide +kernel
theorem dX6_power_1 : decode cX6_power 1 = .ok (.lstore_n 2, 1) := by decide +kernel
theorem dX6_power_2 : decode cX6_power 2 = .ok (.iconst 0, 1) := by decide +kernel
theorem dX6_power_3 : decode cX6_power 3 = .ok (.istore 4, 2) := by decide +kernel
theorem dX6_power_5 : decode cX6_power 5 = .ok (.iload 4, 2) := by decide +kernel
theorem dX6_power_7 : decode cX6_power 7 = .ok (.iload_n 1, 1) := by decide +kernel
theorem dX6_power_8 : decode cX6_power 8 = .ok (.if_icmp .ge 14, 3) := by decide +kernel
theorem dX6_power_11 : decode cX6_power 11 = .ok (.lload_n 2, 1) := by decide +kernel
theorem dX6_power_12 : decode cX6_power 12 = .ok (.iload_n 0, 1) := by decide +kernel
theorem dX6_power_13 : decode cX6_power 13 = .ok (.i2l, 1) := by decide +kernel
theorem dX6_power_14 : decode cX6_power 14 = .ok (.lmul, 1) := by decide +kernel
theorem dX6_power_15 : decode cX6_power 15 = .ok (.lstore_n 2, 1) := by decide +kernel
theorem dX6_power_16 : decode cX6_power 16 = .ok (.iinc 4 1, 3) := by decide +kernel
theorem dX6_power_19 : decode cX6_power 19 = .ok (.goto (-14), 3) := by decide +kernel
theorem dX6_power_22 : decode cX6_power 22 = .ok (.lload_n 2, 1) := by decide +kernel
theorem dX6_power_23 : decode cX6_power 23 = .ok (.lreturn, 1) := by decide +kernel
theorem dX6_lowest_0 : decode cX6_lowest 0 = .ok (.lload_n 2, 1) := by decide +kernel
theorem dX6_lowest_1 : decode cX6_lowest 1 = .ok (.lstore 5, 2) := by decide +kernel
theorem dX6_lowest_3 : decode cX6_lowest 3 = .ok (.lload_n 0, 1) := by decide +kernel
theorem dX6_lowest_4 : decode cX6_lowest 4 = .ok (.lstore 7, 2) := by decide +kernel
theorem dX6_lowest_6 : decode cX6_lowest 6 = .ok (.iconst 0, 1) := by decide +kernel
theorem dX6_lowest_7 : decode cX6_lowest 7 = .ok (.istore 9, 2) := by decide +kernel
theorem dX6_lowest_9 : decode cX6_lowest 9 = .ok (.iload 9, 2) := by decide +kernel
theorem dX6_lowest_11 : decode cX6_lowest 11 = .ok (.bipush 100, 2) := by decide +kernel
theorem dX6_lowest_13 : decode cX6_lowest 13 = .ok (.if_icmp .ge 31, 3) := by decide +kernel
theorem dX6_lowest_16 : decode cX6_lowest 16 = .ok (.lload 7, 2) := by decide +kernel
theorem dX6_lowest_18 : decode cX6_lowest 18 = .ok (.lconst 0, 1) := by decide +kernel
theorem dX6_lowest_19 : decode cX6_lowest 19 = .ok (.lcmp, 1) := by decide +kernel
theorem dX6_lowest_20 : decode cX6_lowest 20 = .ok (.ifCond .eq 24, 3) := by decide +kernel
theorem dX6_lowest_23 : decode cX6_lowest 23 = .ok (.lload 5, 2) := by decide +kernel
theorem dX6_lowest_25 : decode cX6_lowest 25 = .ok (.lload 7, 2) := by decide +kernel
theorem dX6_lowest_27 : decode cX6_lowest 27 = .ok (.lrem, 1) := by decide +kernel
theorem dX6_lowest_28 : decode cX6_lowest 28 = .ok (.lstore 10, 2) := by decide +kernel
theorem dX6_lowest_30 : decode cX6_lowest 30 = .ok (.lload 7, 2) := by decide +kernel
theorem dX6_lowest_32 : decode cX6_lowest 32 = .ok (.lstore 5, 2) := by decide +kernel
theorem dX6_lowest_34 : decode cX6_lowest 34 = .ok (.lload 10, 2) := by decide +kernel
theorem dX6_lowest_36 : decode cX6_lowest 36 = .ok (.lstore 7, 2) := by decide +kernel
theorem dX6_lowest_38 : decode cX6_lowest 38 = .ok (.iinc 9 1, 3) := by decide +kernel
theorem dX6_lowest_41 : decode cX6_lowest 41 = .ok (.goto (-32), 3) := by decide +kernel
theorem dX6_lowest_44 : decode cX6_lowest 44 = .ok (.lload 5, 2) := by decide +kernel
theorem dX6_lowest_46 : decode cX6_lowest 46 = .ok (.lconst 0, 1) := by decide +kernel
theorem dX6_lowest_47 : decode cX6_lowest 47 = .ok (.lcmp, 1) := by decide +kernel
theorem dX6_lowest_48 : decode cX6_lowest 48 = .ok (.ifCond .gt 7, 3) := by decide +kernel
theorem dX6_lowest_51 : decode cX6_lowest 51 = .ok (.ldc2_w 252, 3) := by decide +kernel
theorem dX6_lowest_54 : decode cX6_lowest 54 = .ok (.lreturn, 1) := by decide +kernel
theorem dX6_lowest_55 : decode cX6_lowest 55 = .ok (.iload 4, 2) := by decide +kernel
theorem dX6_lowest_57 : decode cX6_lowest 57 = .ok (.ifCond .ne 10, 3) := by decide +kernel
theorem dX6_lowest_60 : decode cX6_lowest 60 = .ok (.lload_n 0, 1) := by decide +kernel
theorem dX6_lowest_61 : decode cX6_lowest 61 = .ok (.lload 5, 2) := by decide +kernel
theorem dX6_lowest_63 : decode cX6_lowest 63 = .ok (.ldiv, 1) := by decide +kernel
theorem dX6_lowest_64 : decode cX6_lowest 64 = .ok (.goto 7, 3) := by decide +kernel
theorem dX6_lowest_67 : decode cX6_lowest 67 = .ok (.lload_n 2, 1) := by decide +kernel
theorem dX6_lowest_68 : decode cX6_lowest 68 = .ok (.lload 5, 2) := by decide +kernel
theorem dX6_lowest_70 : decode cX6_lowest 70 = .ok (.ldiv, 1) := by decide +kernel
theorem dX6_lowest_71 : decode cX6_lowest 71 = .ok (.lreturn, 1) := by decide +kernel
theorem dX6_see_0 : decode cX6_see 0 = .ok (.iload_n 1, 1) := by decide +kernel
theorem dX6_see_1 : decode cX6_see 1 = .ok (.iconst 0, 1) := by decide +kernel
theorem dX6_see_2 : decode cX6_see 2 = .ok (.bipush 40, 2) := by decide +kernel
theorem dX6_see_4 : decode cX6_see 4 = .ok (.invokestatic 66, 3) := by decide +kernel
theorem dX6_see_7 : decode cX6_see 7 = .ok (.ifCond .eq 23, 3) := by decide +kernel
theorem dX6_see_10 : decode cX6_see 10 = .ok (.aload_n 0, 1) := by decide +kernel
theorem dX6_see_11 : decode cX6_see 11 = .ok (.getfield 10, 3) := by decide +kernel
theorem dX6_see_14 : decode cX6_see 14 = .ok (.iload_n 2, 1) := by decide +kernel
theorem dX6_see_15 : decode cX6_see 15 = .ok (.invokevirtual 126, 3) := by decide +kernel
theorem dX6_see_18 : decode cX6_see 18 = .ok (.ifCond .eq 12, 3) := by decide +kernel
theorem dX6_see_21 : decode cX6_see 21 = .ok (.iload_n 3, 1) := by decide +kernel
theorem dX6_see_22 : decode cX6_see 22 = .ok (.iconst 0, 1) := by decide +kernel
theorem dX6_see_23 : decode cX6_see 23 = .ok (.iconst 1, 1) := by decide +kernel
theorem dX6_see_24 : decode cX6_see 24 = .ok (.invokestatic 66, 3) := by decide +kernel
theorem dX6_see_27 : decode cX6_see 27 = .ok (.ifCond .ne 5, 3) := by decide +kernel
theorem dX6_see_30 : decode cX6_see 30 = .ok (.iconst (-1), 1) := by decide +kernel
theorem dX6_see_31 : decode cX6_see 31 = .ok (.ireturn, 1) := by decide +kernel
theorem dX6_see_32 : decode cX6_see 32 = .ok (.aload_n 0, 1) := by decide +kernel
theorem dX6_see_33 : decode cX6_see 33 = .ok (.getfield 47, 3) := by decide +kernel
theorem dX6_see_36 : decode cX6_see 36 = .ok (.iload_n 1, 1) := by decide +kernel
theorem dX6_see_37 : decode cX6_see 37 = .ok (.iload_n 2, 1) := by decide +kernel
theorem dX6_see_38 : decode cX6_see 38 = .ok (.iload_n 3, 1) := by decide +kernel
theorem dX6_see_39 : decode cX6_see 39 = .ok (.invokevirtual 269, 3) := by decide +kernel
theorem dX6_see_42 : decode cX6_see 42 = .ok (.ifCond .eq 13, 3) := by decide +kernel
theorem dX6_see_45 : decode cX6_see 45 = .ok (.aload_n 0, 1) := by decide +kernel
theorem dX6_see_46 : decode cX6_see 46 = .ok (.getfield 47, 3) := by decide +kernel
theorem dX6_see_49 : decode cX6_see 49 = .ok (.getfield 97, 3) := by decide +kernel
theorem dX6_see_52 : decode cX6_see 52 = .ok (.goto 5, 3) := by decide +kernel
theorem dX6_see_55 : decode cX6_see 55 = .ok (.bipush (-3), 2) := by decide +kernel
theorem dX6_see_57 : decode cX6_see 57 = .ok (.ireturn, 1) := by decide +kernel
theorem dX6_forget_0 : decode cX6_forget 0 = .ok (.iload_n 1, 1) := by decide +kernel
theorem dX6_forget_1 : decode cX6_forget 1 = .ok (.iconst 0, 1) := by decide +kernel
theorem dX6_forget_2 : decode cX6_forget 2 = .ok (.aload_n 0, 1) := by decide +kernel
theorem dX6_forget_3 : decode cX6_forget 3 = .ok (.getfield 47, 3) := by decide +kernel
theorem dX6_forget_6 : decode cX6_forget 6 = .ok (.getfield 97, 3) := by decide +kernel
theorem dX6_forget_9 : decode cX6_forget 9 = .ok (.invokestatic 66, 3) := by decide +kernel
theorem dX6_forget_12 : decode cX6_forget 12 = .ok (.ifCond .ne 5, 3) := by decide +kernel
theorem dX6_forget_15 : decode cX6_forget 15 = .ok (.iconst (-1), 1) := by decide +kernel
theorem dX6_forget_16 : decode cX6_forget 16 = .ok (.ireturn, 1) := by decide +kernel
theorem dX6_forget_17 : decode cX6_forget 17 = .ok (.aload_n 0, 1) := by decide +kernel
theorem dX6_forget_18 : decode cX6_forget 18 = .ok (.getfield 47, 3) := by decide +kernel
theorem dX6_forget_21 : decode cX6_forget 21 = .ok (.getfield 97, 3) := by decide +kernel
theorem dX6_forget_24 : decode cX6_forget 24 = .ok (.istore_n 2, 1) := by decide +kernel
theorem dX6_forget_25 : decode cX6_forget 25 = .ok (.aload_n 0, 1) := by decide +kernel
theorem dX6_forget_26 : decode cX6_forget 26 = .ok (.getfield 47, 3) := by decide +kernel
theorem dX6_forget_29 : decode cX6_forget 29 = .ok (.iload_n 1, 1) := by decide +kernel
theorem dX6_forget_30 : decode cX6_forget 30 = .ok (.putfield 97, 3) := by decide +kernel
theorem dX6_forget_33 : decode cX6_forget 33 = .ok (.iload_n 2, 1) := by decide +kernel
theorem dX6_forget_34 : decode cX6_forget 34 = .ok (.ireturn, 1) := by decide +kernel
theorem dX6_kinds_0 : decode cX6_kinds 0 = .ok (.aload_n 0, 1) := by decide +kernel
theorem dX6_kinds_1 : decode cX6_kinds 1 = .ok (.getfield 10, 3) := by decide +kernel
theorem dX6_kinds_4 : decode cX6_kinds 4 = .ok (.iload_n 1, 1) := by decide +kernel
theorem dX6_kinds_5 : decode cX6_kinds 5 = .ok (.invokevirtual 126, 3) := by decide +kernel
theorem dX6_kinds_8 : decode cX6_kinds 8 = .ok (.ifCond .ne 5, 3) := by decide +kernel
theorem dX6_kinds_11 : decode cX6_kinds 11 = .ok (.iconst (-1), 1) := by decide +kernel
theorem dX6_kinds_12 : decode cX6_kinds 12 = .ok (.ireturn, 1) := by decide +kernel
theorem dX6_kinds_13 : decode cX6_kinds 13 = .ok (.iconst 0, 1) := by decide +kernel
theorem dX6_kinds_14 : decode cX6_kinds 14 = .ok (.istore_n 2, 1) := by decide +kernel
theorem dX6_kinds_15 : decode cX6_kinds 15 = .ok (.iconst 0, 1) := by decide +kernel
theorem dX6_kinds_16 : decode cX6_kinds 16 = .ok (.istore_n 3, 1) := by decide +kernel
theorem dX6_kinds_17 : decode cX6_kinds 17 = .ok (.iload_n 3, 1) := by decide +kernel
theorem dX6_kinds_18 : decode cX6_kinds 18 = .ok (.iconst 3, 1) := by decide +kernel
theorem dX6_kinds_19 : decode cX6_kinds 19 = .ok (.if_icmp .gt 41, 3) := by decide +kernel
theorem dX6_kinds_22 : decode cX6_kinds 22 = .ok (.aload_n 0, 1) := by decide +kernel
theorem dX6_kinds_23 : decode cX6_kinds 23 = .ok (.invokevirtual 177, 3) := by decide +kernel
theorem dX6_kinds_26 : decode cX6_kinds 26 = .ok (.astore 4, 2) := by decide +kernel
theorem dX6_kinds_28 : decode cX6_kinds 28 = .ok (.aload 4, 2) := by decide +kernel
theorem dX6_kinds_30 : decode cX6_kinds 30 = .ok (.getfield 132, 3) := by decide +kernel
theorem dX6_kinds_33 : decode cX6_kinds 33 = .ok (.iload_n 1, 1) := by decide +kernel
theorem dX6_kinds_34 : decode cX6_kinds 34 = .ok (.aaload, 1) := by decide +kernel
theorem dX6_kinds_35 : decode cX6_kinds 35 = .ok (.iload_n 3, 1) := by decide +kernel
theorem dX6_kinds_36 : decode cX6_kinds 36 = .ok (.putfield 233, 3) := by decide +kernel
theorem dX6_kinds_39 : decode cX6_kinds 39 = .ok (.aload_n 0, 1) := by decide +kernel
theorem dX6_kinds_40 : decode cX6_kinds 40 = .ok (.aload 4, 2) := by decide +kernel
theorem dX6_kinds_42 : decode cX6_kinds 42 = .ok (.invokevirtual 271, 3) := by decide +kernel
theorem dX6_kinds_45 : decode cX6_kinds 45 = .ok (.ifCond .eq 9, 3) := by decide +kernel
theorem dX6_kinds_48 : decode cX6_kinds 48 = .ok (.iload_n 2, 1) := by decide +kernel
theorem dX6_kinds_49 : decode cX6_kinds 49 = .ok (.iconst 1, 1) := by decide +kernel
theorem dX6_kinds_50 : decode cX6_kinds 50 = .ok (.iload_n 3, 1) := by decide +kernel
theorem dX6_kinds_51 : decode cX6_kinds 51 = .ok (.ishl, 1) := by decide +kernel
theorem dX6_kinds_52 : decode cX6_kinds 52 = .ok (.ior, 1) := by decide +kernel
theorem dX6_kinds_53 : decode cX6_kinds 53 = .ok (.istore_n 2, 1) := by decide +kernel
theorem dX6_kinds_54 : decode cX6_kinds 54 = .ok (.iinc 3 1, 3) := by decide +kernel
theorem dX6_kinds_57 : decode cX6_kinds 57 = .ok (.goto (-40), 3) := by decide +kernel
theorem dX6_kinds_60 : decode cX6_kinds 60 = .ok (.iload_n 2, 1) := by decide +kernel
theorem dX6_kinds_61 : decode cX6_kinds 61 = .ok (.ireturn, 1) := by decide +kernel
theorem dX6_nerves_0 : decode cX6_nerves 0 = .ok (.aload_n 0, 1) := by decide +kernel
theorem dX6_nerves_1 : decode cX6_nerves 1 = .ok (.getfield 10, 3) := by decide +kernel
theorem dX6_nerves_4 : decode cX6_nerves 4 = .ok (.iload_n 1, 1) := by decide +kernel
theorem dX6_nerves_5 : decode cX6_nerves 5 = .ok (.invokevirtual 126, 3) := by decide +kernel
theorem dX6_nerves_8 : decode cX6_nerves 8 = .ok (.ifCond .ne 5, 3) := by decide +kernel
theorem dX6_nerves_11 : decode cX6_nerves 11 = .ok (.iconst (-1), 1) := by decide +kernel
theorem dX6_nerves_12 : decode cX6_nerves 12 = .ok (.ireturn, 1) := by decide +kernel
theorem dX6_nerves_13 : decode cX6_nerves 13 = .ok (.iconst 0, 1) := by decide +kernel
theorem dX6_nerves_14 : decode cX6_nerves 14 = .ok (.istore_n 2, 1) := by decide +kernel
theorem dX6_nerves_15 : decode cX6_nerves 15 = .ok (.iconst 0, 1) := by decide +kernel
theorem dX6_nerves_16 : decode cX6_nerves 16 = .ok (.istore_n 3, 1) := by decide +kernel
theorem dX6_nerves_17 : decode cX6_nerves 17 = .ok (.iload_n 3, 1) := by decide +kernel
theorem dX6_nerves_18 : decode cX6_nerves 18 = .ok (.bipush 9, 2) := by decide +kernel
theorem dX6_nerves_20 : decode cX6_nerves 20 = .ok (.if_icmp .gt 24, 3) := by decide +kernel
theorem dX6_nerves_23 : decode cX6_nerves 23 = .ok (.aload_n 0, 1) := by decide +kernel
theorem dX6_nerves_24 : decode cX6_nerves 24 = .ok (.iload_n 1, 1) := by decide +kernel
theorem dX6_nerves_25 : decode cX6_nerves 25 = .ok (.iload_n 3, 1) := by decide +kernel
theorem dX6_nerves_26 : decode cX6_nerves 26 = .ok (.invokevirtual 274, 3) := by decide +kernel
theorem dX6_nerves_29 : decode cX6_nerves 29 = .ok (.ifCond .eq 9, 3) := by decide +kernel
theorem dX6_nerves_32 : decode cX6_nerves 32 = .ok (.iload_n 2, 1) := by decide +kernel
theorem dX6_nerves_33 : decode cX6_nerves 33 = .ok (.iconst 1, 1) := by decide +kernel
theorem dX6_nerves_34 : decode cX6_nerves 34 = .ok (.iload_n 3, 1) := by decide +kernel
theorem dX6_nerves_35 : decode cX6_nerves 35 = .ok (.ishl, 1) := by decide +kernel
theorem dX6_nerves_36 : decode cX6_nerves 36 = .ok (.ior, 1) := by decide +kernel
theorem dX6_nerves_37 : decode cX6_nerves 37 = .ok (.istore_n 2, 1) := by decide +kernel
theorem dX6_nerves_38 : decode cX6_nerves 38 = .ok (.iinc 3 1, 3) := by decide +kernel
theorem dX6_nerves_41 : decode cX6_nerves 41 = .ok (.goto (-24), 3) := by decide +kernel
theorem dX6_nerves_44 : decode cX6_nerves 44 = .ok (.iload_n 2, 1) := by decide +kernel
theorem dX6_nerves_45 : decode cX6_nerves 45 = .ok (.ireturn, 1) := by decide +kernel
theorem dX6_goesAsSeenByNerve_0 : decode cX6_goesAsSeenByNerve 0 = .ok (.aload_n 0, 1) := by decide +kernel
theorem dX6_goesAsSeenByNerve_1 : decode cX6_goesAsSeenByNerve 1 = .ok (.invokevirtual 177, 3) := by decide +kernel
theorem dX6_goesAsSeenByNerve_4 : decode cX6_goesAsSeenByNerve 4 = .ok (.astore_n 3, 1) := by decide +kernel
theorem dX6_goesAsSeenByNerve_5 : decode cX6_goesAsSeenByNerve 5 = .ok (.aload_n 3, 1) := by decide +kernel
theorem dX6_goesAsSeenByNerve_6 : decode cX6_goesAsSeenByNerve 6 = .ok (.iload_n 1, 1) := by decide +kernel
theorem dX6_goesAsSeenByNerve_7 : decode cX6_goesAsSeenByNerve 7 = .ok (.invokevirtual 126, 3) := by decide +kernel
theorem dX6_goesAsSeenByNerve_10 : decode cX6_goesAsSeenByNerve 10 = .ok (.ifCond .eq 13, 3) := by decide +kernel
theorem dX6_goesAsSeenByNerve_13 : decode cX6_goesAsSeenByNerve 13 = .ok (.aload_n 3, 1) := by decide +kernel
theorem dX6_goesAsSeenByNerve_14 : decode cX6_goesAsSeenByNerve 14 = .ok (.getfield 132, 3) := by decide +kernel
theorem dX6_goesAsSeenByNerve_17 : decode cX6_goesAsSeenByNerve 17 = .ok (.iload_n 1, 1) := by decide +kernel
theorem dX6_goesAsSeenByNerve_18 : decode cX6_goesAsSeenByNerve 18 = .ok (.aaload, 1) := by decide +kernel
theorem dX6_goesAsSeenByNerve_19 : decode cX6_goesAsSeenByNerve 19 = .ok (.iload_n 2, 1) := by decide +kernel
theorem dX6_goesAsSeenByNerve_20 : decode cX6_goesAsSeenByNerve 20 = .ok (.putfield 277, 3) := by decide +kernel
theorem dX6_goesAsSeenByNerve_23 : decode cX6_goesAsSeenByNerve 23 = .ok (.aload_n 0, 1) := by decide +kernel
theorem dX6_goesAsSeenByNerve_24 : decode cX6_goesAsSeenByNerve 24 = .ok (.aload_n 3, 1) := by decide +kernel
theorem dX6_goesAsSeenByNerve_25 : decode cX6_goesAsSeenByNerve 25 = .ok (.invokevirtual 271, 3) := by decide +kernel
theorem dX6_goesAsSeenByNerve_28 : decode cX6_goesAsSeenByNerve 28 = .ok (.ireturn, 1) := by decide +kernel
theorem dX6_goesAsSeen_0 : decode cX6_goesAsSeen 0 = .ok (.iconst 0, 1) := by decide +kernel
theorem dX6_goesAsSeen_1 : decode cX6_goesAsSeen 1 = .ok (.istore_n 2, 1) := by decide +kernel
theorem dX6_goesAsSeen_2 : decode cX6_goesAsSeen 2 = .ok (.iload_n 2, 1) := by decide +kernel
theorem dX6_goesAsSeen_3 : decode cX6_goesAsSeen 3 = .ok (.aload_n 0, 1) := by decide +kernel
theorem dX6_goesAsSeen_4 : decode cX6_goesAsSeen 4 = .ok (.getfield 51, 3) := by decide +kernel
theorem dX6_goesAsSeen_7 : decode cX6_goesAsSeen 7 = .ok (.arraylength, 1) := by decide +kernel
theorem dX6_goesAsSeen_8 : decode cX6_goesAsSeen 8 = .ok (.if_icmp .ge 19, 3) := by decide +kernel
theorem dX6_goesAsSeen_11 : decode cX6_goesAsSeen 11 = .ok (.aload_n 0, 1) := by decide +kernel
theorem dX6_goesAsSeen_12 : decode cX6_goesAsSeen 12 = .ok (.getfield 51, 3) := by decide +kernel
theorem dX6_goesAsSeen_15 : decode cX6_goesAsSeen 15 = .ok (.iload_n 2, 1) := by decide +kernel
theorem dX6_goesAsSeen_16 : decode cX6_goesAsSeen 16 = .ok (.aload_n 1, 1) := by decide +kernel
theorem dX6_goesAsSeen_17 : decode cX6_goesAsSeen 17 = .ok (.invokevirtual 194, 3) := by decide +kernel
theorem dX6_goesAsSeen_20 : decode cX6_goesAsSeen 20 = .ok (.iastore, 1) := by decide +kernel
theorem dX6_goesAsSeen_21 : decode cX6_goesAsSeen 21 = .ok (.iinc 2 1, 3) := by decide +kernel
theorem dX6_goesAsSeen_24 : decode cX6_goesAsSeen 24 = .ok (.goto (-22), 3) := by decide +kernel
theorem dX6_goesAsSeen_27 : decode cX6_goesAsSeen 27 = .ok (.aload_n 0, 1) := by decide +kernel
theorem dX6_goesAsSeen_28 : decode cX6_goesAsSeen 28 = .ok (.getfield 47, 3) := by decide +kernel
theorem dX6_goesAsSeen_31 : decode cX6_goesAsSeen 31 = .ok (.aload_n 0, 1) := by decide +kernel
theorem dX6_goesAsSeen_32 : decode cX6_goesAsSeen 32 = .ok (.getfield 51, 3) := by decide +kernel
theorem dX6_goesAsSeen_35 : decode cX6_goesAsSeen 35 = .ok (.invokevirtual 280, 3) := by decide +kernel
theorem dX6_goesAsSeen_38 : decode cX6_goesAsSeen 38 = .ok (.ireturn, 1) := by decide +kernel
theorem dX6_ask_0 : decode cX6_ask 0 = .ok (.aload_n 0, 1) := by decide +kernel
theorem dX6_ask_1 : decode cX6_ask 1 = .ok (.getfield 10, 3) := by decide +kernel
theorem dX6_ask_4 : decode cX6_ask 4 = .ok (.iload_n 1, 1) := by decide +kernel
theorem dX6_ask_5 : decode cX6_ask 5 = .ok (.invokevirtual 126, 3) := by decide +kernel
theorem dX6_ask_8 : decode cX6_ask 8 = .ok (.ifCond .eq 12, 3) := by decide +kernel
theorem dX6_ask_11 : decode cX6_ask 11 = .ok (.iload_n 2, 1) := by decide +kernel
theorem dX6_ask_12 : decode cX6_ask 12 = .ok (.iconst 0, 1) := by decide +kernel
theorem dX6_ask_13 : decode cX6_ask 13 = .ok (.iconst 1, 1) := by decide +kernel
theorem dX6_ask_14 : decode cX6_ask 14 = .ok (.invokestatic 66, 3) := by decide +kernel
theorem dX6_ask_17 : decode cX6_ask 17 = .ok (.ifCond .ne 5, 3) := by decide +kernel
theorem dX6_ask_20 : decode cX6_ask 20 = .ok (.iconst (-1), 1) := by decide +kernel
theorem dX6_ask_21 : decode cX6_ask 21 = .ok (.ireturn, 1) := by decide +kernel
theorem dX6_ask_22 : decode cX6_ask 22 = .ok (.iconst 0, 1) := by decide +kernel
theorem dX6_ask_23 : decode cX6_ask 23 = .ok (.istore_n 3, 1) := by decide +kernel
theorem dX6_ask_24 : decode cX6_ask 24 = .ok (.iconst 0, 1) := by decide +kernel
theorem dX6_ask_25 : decode cX6_ask 25 = .ok (.istore 4, 2) := by decide +kernel
theorem dX6_ask_27 : decode cX6_ask 27 = .ok (.iload 4, 2) := by decide +kernel
theorem dX6_ask_29 : decode cX6_ask 29 = .ok (.bipush 9, 2) := by decide +kernel
theorem dX6_ask_31 : decode cX6_ask 31 = .ok (.if_icmp .gt 33, 3) := by decide +kernel
theorem dX6_ask_34 : decode cX6_ask 34 = .ok (.aload_n 0, 1) := by decide +kernel
theorem dX6_ask_35 : decode cX6_ask 35 = .ok (.iload_n 1, 1) := by decide +kernel
theorem dX6_ask_36 : decode cX6_ask 36 = .ok (.iload 4, 2) := by decide +kernel
theorem dX6_ask_38 : decode cX6_ask 38 = .ok (.invokevirtual 274, 3) := by decide +kernel
theorem dX6_ask_41 : decode cX6_ask 41 = .ok (.ifCond .eq 17, 3) := by decide +kernel
theorem dX6_ask_44 : decode cX6_ask 44 = .ok (.aload_n 0, 1) := by decide +kernel
theorem dX6_ask_45 : decode cX6_ask 45 = .ok (.getfield 55, 3) := by decide +kernel
theorem dX6_ask_48 : decode cX6_ask 48 = .ok (.iload_n 3, 1) := by decide +kernel
theorem dX6_ask_49 : decode cX6_ask 49 = .ok (.aload_n 0, 1) := by decide +kernel
theorem dX6_ask_50 : decode cX6_ask 50 = .ok (.iload_n 1, 1) := by decide +kernel
theorem dX6_ask_51 : decode cX6_ask 51 = .ok (.invokevirtual 284, 3) := by decide +kernel
theorem dX6_ask_54 : decode cX6_ask 54 = .ok (.lastore, 1) := by decide +kernel
theorem dX6_ask_55 : decode cX6_ask 55 = .ok (.iinc 3 1, 3) := by decide +kernel
theorem dX6_ask_58 : decode cX6_ask 58 = .ok (.iinc 4 1, 3) := by decide +kernel
theorem dX6_ask_61 : decode cX6_ask 61 = .ok (.goto (-34), 3) := by decide +kernel
theorem dX6_ask_64 : decode cX6_ask 64 = .ok (.bipush (-4), 2) := by decide +kernel
theorem dX6_ask_66 : decode cX6_ask 66 = .ok (.istore 4, 2) := by decide +kernel
theorem dX6_ask_68 : decode cX6_ask 68 = .ok (.iload_n 3, 1) := by decide +kernel
theorem dX6_ask_69 : decode cX6_ask 69 = .ok (.istore 5, 2) := by decide +kernel
theorem dX6_ask_71 : decode cX6_ask 71 = .ok (.iconst 0, 1) := by decide +kernel
theorem dX6_ask_72 : decode cX6_ask 72 = .ok (.istore 6, 2) := by decide +kernel
theorem dX6_ask_74 : decode cX6_ask 74 = .ok (.iload 6, 2) := by decide +kernel
theorem dX6_ask_76 : decode cX6_ask 76 = .ok (.bipush 40, 2) := by decide +kernel
theorem dX6_ask_78 : decode cX6_ask 78 = .ok (.if_icmp .gt 33, 3) := by decide +kernel
theorem dX6_ask_81 : decode cX6_ask 81 = .ok (.aload_n 0, 1) := by decide +kernel
theorem dX6_ask_82 : decode cX6_ask 82 = .ok (.iload 6, 2) := by decide +kernel
theorem dX6_ask_84 : decode cX6_ask 84 = .ok (.iload_n 3, 1) := by decide +kernel
theorem dX6_ask_85 : decode cX6_ask 85 = .ok (.invokevirtual 288, 3) := by decide +kernel
theorem dX6_ask_88 : decode cX6_ask 88 = .ok (.istore 7, 2) := by decide +kernel
theorem dX6_ask_90 : decode cX6_ask 90 = .ok (.iload 7, 2) := by decide +kernel
theorem dX6_ask_92 : decode cX6_ask 92 = .ok (.iload 5, 2) := by decide +kernel
theorem dX6_ask_94 : decode cX6_ask 94 = .ok (.if_icmp .ge 11, 3) := by decide +kernel
theorem dX6_ask_97 : decode cX6_ask 97 = .ok (.iload 7, 2) := by decide +kernel
theorem dX6_ask_99 : decode cX6_ask 99 = .ok (.istore 5, 2) := by decide +kernel
theorem dX6_ask_101 : decode cX6_ask 101 = .ok (.iload 6, 2) := by decide +kernel
theorem dX6_ask_103 : decode cX6_ask 103 = .ok (.istore 4, 2) := by decide +kernel
theorem dX6_ask_105 : decode cX6_ask 105 = .ok (.iinc 6 1, 3) := by decide +kernel
theorem dX6_ask_108 : decode cX6_ask 108 = .ok (.goto (-34), 3) := by decide +kernel
theorem dX6_ask_111 : decode cX6_ask 111 = .ok (.iload 4, 2) := by decide +kernel
theorem dX6_ask_113 : decode cX6_ask 113 = .ok (.bipush (-4), 2) := by decide +kernel
theorem dX6_ask_115 : decode cX6_ask 115 = .ok (.if_icmp .eq 7, 3) := by decide +kernel
theorem dX6_ask_118 : decode cX6_ask 118 = .ok (.iload_n 2, 1) := by decide +kernel
theorem dX6_ask_119 : decode cX6_ask 119 = .ok (.ifCond .ne 8, 3) := by decide +kernel
theorem dX6_ask_122 : decode cX6_ask 122 = .ok (.iload 4, 2) := by decide +kernel
theorem dX6_ask_124 : decode cX6_ask 124 = .ok (.goto 5, 3) := by decide +kernel
theorem dX6_ask_127 : decode cX6_ask 127 = .ok (.iload 5, 2) := by decide +kernel
theorem dX6_ask_129 : decode cX6_ask 129 = .ok (.ireturn, 1) := by decide +kernel
theorem dX6_hoursOf_0 : decode cX6_hoursOf 0 = .ok (.lconst 0, 1) := by decide +kernel
theorem dX6_hoursOf_1 : decode cX6_hoursOf 1 = .ok (.lstore_n 2, 1) := by decide +kernel
theorem dX6_hoursOf_2 : decode cX6_hoursOf 2 = .ok (.iconst 0, 1) := by decide +kernel
theorem dX6_hoursOf_3 : decode cX6_hoursOf 3 = .ok (.istore 4, 2) := by decide +kernel
theorem dX6_hoursOf_5 : decode cX6_hoursOf 5 = .ok (.iload 4, 2) := by decide +kernel
theorem dX6_hoursOf_7 : decode cX6_hoursOf 7 = .ok (.aload_n 0, 1) := by decide +kernel
theorem dX6_hoursOf_8 : decode cX6_hoursOf 8 = .ok (.getfield 51, 3) := by decide +kernel
theorem dX6_hoursOf_11 : decode cX6_hoursOf 11 = .ok (.arraylength, 1) := by decide +kernel
theorem dX6_hoursOf_12 : decode cX6_hoursOf 12 = .ok (.if_icmp .ge 27, 3) := by decide +kernel
theorem dX6_hoursOf_15 : decode cX6_hoursOf 15 = .ok (.lload_n 2, 1) := by decide +kernel
theorem dX6_hoursOf_16 : decode cX6_hoursOf 16 = .ok (.aload_n 0, 1) := by decide +kernel
theorem dX6_hoursOf_17 : decode cX6_hoursOf 17 = .ok (.getfield 51, 3) := by decide +kernel
theorem dX6_hoursOf_20 : decode cX6_hoursOf 20 = .ok (.iload 4, 2) := by decide +kernel
theorem dX6_hoursOf_22 : decode cX6_hoursOf 22 = .ok (.iaload, 1) := by decide +kernel
theorem dX6_hoursOf_23 : decode cX6_hoursOf 23 = .ok (.iload_n 1, 1) := by decide +kernel
theorem dX6_hoursOf_24 : decode cX6_hoursOf 24 = .ok (.invokestatic 197, 3) := by decide +kernel
theorem dX6_hoursOf_27 : decode cX6_hoursOf 27 = .ok (.i2l, 1) := by decide +kernel
theorem dX6_hoursOf_28 : decode cX6_hoursOf 28 = .ok (.iload 4, 2) := by decide +kernel
theorem dX6_hoursOf_30 : decode cX6_hoursOf 30 = .ok (.lshl, 1) := by decide +kernel
theorem dX6_hoursOf_31 : decode cX6_hoursOf 31 = .ok (.lor, 1) := by decide +kernel
theorem dX6_hoursOf_32 : decode cX6_hoursOf 32 = .ok (.lstore_n 2, 1) := by decide +kernel
theorem dX6_hoursOf_33 : decode cX6_hoursOf 33 = .ok (.iinc 4 1, 3) := by decide +kernel
theorem dX6_hoursOf_36 : decode cX6_hoursOf 36 = .ok (.goto (-31), 3) := by decide +kernel
theorem dX6_hoursOf_39 : decode cX6_hoursOf 39 = .ok (.lload_n 2, 1) := by decide +kernel
theorem dX6_hoursOf_40 : decode cX6_hoursOf 40 = .ok (.lreturn, 1) := by decide +kernel
theorem dX6_leftAtWorst_0 : decode cX6_leftAtWorst 0 = .ok (.iconst 0, 1) := by decide +kernel
theorem dX6_leftAtWorst_1 : decode cX6_leftAtWorst 1 = .ok (.istore_n 3, 1) := by decide +kernel
theorem dX6_leftAtWorst_2 : decode cX6_leftAtWorst 2 = .ok (.iconst 0, 1) := by decide +kernel
theorem dX6_leftAtWorst_3 : decode cX6_leftAtWorst 3 = .ok (.istore 4, 2) := by decide +kernel
theorem dX6_leftAtWorst_5 : decode cX6_leftAtWorst 5 = .ok (.iload 4, 2) := by decide +kernel
theorem dX6_leftAtWorst_7 : decode cX6_leftAtWorst 7 = .ok (.iload_n 2, 1) := by decide +kernel
theorem dX6_leftAtWorst_8 : decode cX6_leftAtWorst 8 = .ok (.if_icmp .ge 34, 3) := by decide +kernel
theorem dX6_leftAtWorst_11 : decode cX6_leftAtWorst 11 = .ok (.iload 4, 2) := by decide +kernel
theorem dX6_leftAtWorst_13 : decode cX6_leftAtWorst 13 = .ok (.aload_n 0, 1) := by decide +kernel
theorem dX6_leftAtWorst_14 : decode cX6_leftAtWorst 14 = .ok (.getfield 55, 3) := by decide +kernel
theorem dX6_leftAtWorst_17 : decode cX6_leftAtWorst 17 = .ok (.arraylength, 1) := by decide +kernel
theorem dX6_leftAtWorst_18 : decode cX6_leftAtWorst 18 = .ok (.if_icmp .ge 24, 3) := by decide +kernel
theorem dX6_leftAtWorst_21 : decode cX6_leftAtWorst 21 = .ok (.iload_n 3, 1) := by decide +kernel
theorem dX6_leftAtWorst_22 : decode cX6_leftAtWorst 22 = .ok (.aload_n 0, 1) := by decide +kernel
theorem dX6_leftAtWorst_23 : decode cX6_leftAtWorst 23 = .ok (.getfield 55, 3) := by decide +kernel
theorem dX6_leftAtWorst_26 : decode cX6_leftAtWorst 26 = .ok (.iload 4, 2) := by decide +kernel
theorem dX6_leftAtWorst_28 : decode cX6_leftAtWorst 28 = .ok (.laload, 1) := by decide +kernel
theorem dX6_leftAtWorst_29 : decode cX6_leftAtWorst 29 = .ok (.iload_n 1, 1) := by decide +kernel
theorem dX6_leftAtWorst_30 : decode cX6_leftAtWorst 30 = .ok (.lushr, 1) := by decide +kernel
theorem dX6_leftAtWorst_31 : decode cX6_leftAtWorst 31 = .ok (.lconst 1, 1) := by decide +kernel
theorem dX6_leftAtWorst_32 : decode cX6_leftAtWorst 32 = .ok (.land, 1) := by decide +kernel
theorem dX6_leftAtWorst_33 : decode cX6_leftAtWorst 33 = .ok (.l2i, 1) := by decide +kernel
theorem dX6_leftAtWorst_34 : decode cX6_leftAtWorst 34 = .ok (.iadd, 1) := by decide +kernel
theorem dX6_leftAtWorst_35 : decode cX6_leftAtWorst 35 = .ok (.istore_n 3, 1) := by decide +kernel
theorem dX6_leftAtWorst_36 : decode cX6_leftAtWorst 36 = .ok (.iinc 4 1, 3) := by decide +kernel
theorem dX6_leftAtWorst_39 : decode cX6_leftAtWorst 39 = .ok (.goto (-34), 3) := by decide +kernel
theorem dX6_leftAtWorst_42 : decode cX6_leftAtWorst 42 = .ok (.iload_n 3, 1) := by decide +kernel
theorem dX6_leftAtWorst_43 : decode cX6_leftAtWorst 43 = .ok (.iload_n 2, 1) := by decide +kernel
theorem dX6_leftAtWorst_44 : decode cX6_leftAtWorst 44 = .ok (.iload_n 3, 1) := by decide +kernel
theorem dX6_leftAtWorst_45 : decode cX6_leftAtWorst 45 = .ok (.isub, 1) := by decide +kernel
theorem dX6_leftAtWorst_46 : decode cX6_leftAtWorst 46 = .ok (.invokestatic 222, 3) := by decide +kernel
theorem dX6_leftAtWorst_49 : decode cX6_leftAtWorst 49 = .ok (.ireturn, 1) := by decide +kernel
theorem dX6_season_0 : decode cX6_season 0 = .ok (.iload_n 2, 1) := by decide +kernel
theorem dX6_season_1 : decode cX6_season 1 = .ok (.iconst 1, 1) := by decide +kernel
theorem dX6_season_2 : decode cX6_season 2 = .ok (.sipush 200, 3) := by decide +kernel
theorem dX6_season_5 : decode cX6_season 5 = .ok (.invokestatic 66, 3) := by decide +kernel
theorem dX6_season_8 : decode cX6_season 8 = .ok (.ifCond .eq 12, 3) := by decide +kernel
theorem dX6_season_11 : decode cX6_season 11 = .ok (.iload_n 3, 1) := by decide +kernel
theorem dX6_season_12 : decode cX6_season 12 = .ok (.iconst 0, 1) := by decide +kernel
theorem dX6_season_13 : decode cX6_season 13 = .ok (.iconst 1, 1) := by decide +kernel
theorem dX6_season_14 : decode cX6_season 14 = .ok (.invokestatic 66, 3) := by decide +kernel
theorem dX6_season_17 : decode cX6_season 17 = .ok (.ifCond .ne 5, 3) := by decide +kernel
theorem dX6_season_20 : decode cX6_season 20 = .ok (.iconst (-1), 1) := by decide +kernel
theorem dX6_season_21 : decode cX6_season 21 = .ok (.ireturn, 1) := by decide +kernel
theorem dX6_season_22 : decode cX6_season 22 = .ok (.aload_n 0, 1) := by decide +kernel
theorem dX6_season_23 : decode cX6_season 23 = .ok (.getfield 10, 3) := by decide +kernel
theorem dX6_season_26 : decode cX6_season 26 = .ok (.getfield 100, 3) := by decide +kernel
theorem dX6_season_29 : decode cX6_season 29 = .ok (.ifCond .ne 6, 3) := by decide +kernel
theorem dX6_season_32 : decode cX6_season 32 = .ok (.bipush (-2), 2) := by decide +kernel
theorem dX6_season_34 : decode cX6_season 34 = .ok (.ireturn, 1) := by decide +kernel
theorem dX6_season_35 : decode cX6_season 35 = .ok (.aload_n 0, 1) := by decide +kernel
theorem dX6_season_36 : decode cX6_season 36 = .ok (.invokevirtual 177, 3) := by decide +kernel
theorem dX6_season_39 : decode cX6_season 39 = .ok (.astore 4, 2) := by decide +kernel
theorem dX6_season_41 : decode cX6_season 41 = .ok (.iload_n 1, 1) := by decide +kernel
theorem dX6_season_42 : decode cX6_season 42 = .ok (.istore 5, 2) := by decide +kernel
theorem dX6_season_44 : decode cX6_season 44 = .ok (.iconst 0, 1) := by decide +kernel
theorem dX6_season_45 : decode cX6_season 45 = .ok (.istore 6, 2) := by decide +kernel
theorem dX6_season_47 : decode cX6_season 47 = .ok (.iconst 0, 1) := by decide +kernel
theorem dX6_season_48 : decode cX6_season 48 = .ok (.istore 7, 2) := by decide +kernel
theorem dX6_season_50 : decode cX6_season 50 = .ok (.iload 7, 2) := by decide +kernel
theorem dX6_season_52 : decode cX6_season 52 = .ok (.iload_n 2, 1) := by decide +kernel
theorem dX6_season_53 : decode cX6_season 53 = .ok (.if_icmp .ge 55, 3) := by decide +kernel
theorem dX6_season_56 : decode cX6_season 56 = .ok (.iload 5, 2) := by decide +kernel
theorem dX6_season_58 : decode cX6_season 58 = .ok (.ldc_w 291, 3) := by decide +kernel
theorem dX6_season_61 : decode cX6_season 61 = .ok (.imul, 1) := by decide +kernel
theorem dX6_season_62 : decode cX6_season 62 = .ok (.sipush 12345, 3) := by decide +kernel
theorem dX6_season_65 : decode cX6_season 65 = .ok (.iadd, 1) := by decide +kernel
theorem dX6_season_66 : decode cX6_season 66 = .ok (.istore 5, 2) := by decide +kernel
theorem dX6_season_68 : decode cX6_season 68 = .ok (.iload 5, 2) := by decide +kernel
theorem dX6_season_70 : decode cX6_season 70 = .ok (.bipush 16, 2) := by decide +kernel
theorem dX6_season_72 : decode cX6_season 72 = .ok (.iushr, 1) := by decide +kernel
theorem dX6_season_73 : decode cX6_season 73 = .ok (.sipush 32767, 3) := by decide +kernel
theorem dX6_season_76 : decode cX6_season 76 = .ok (.iand, 1) := by decide +kernel
theorem dX6_season_77 : decode cX6_season 77 = .ok (.istore 8, 2) := by decide +kernel
theorem dX6_season_79 : decode cX6_season 79 = .ok (.iload 6, 2) := by decide +kernel
theorem dX6_season_81 : decode cX6_season 81 = .ok (.aload 4, 2) := by decide +kernel
theorem dX6_season_83 : decode cX6_season 83 = .ok (.iload 8, 2) := by decide +kernel
theorem dX6_season_85 : decode cX6_season 85 = .ok (.bipush 10, 2) := by decide +kernel
theorem dX6_season_87 : decode cX6_season 87 = .ok (.irem, 1) := by decide +kernel
theorem dX6_season_88 : decode cX6_season 88 = .ok (.aload 4, 2) := by decide +kernel
theorem dX6_season_90 : decode cX6_season 90 = .ok (.invokevirtual 123, 3) := by decide +kernel
theorem dX6_season_93 : decode cX6_season 93 = .ok (.invokevirtual 214, 3) := by decide +kernel
theorem dX6_season_96 : decode cX6_season 96 = .ok (.invokestatic 217, 3) := by decide +kernel
theorem dX6_season_99 : decode cX6_season 99 = .ok (.iadd, 1) := by decide +kernel
theorem dX6_season_100 : decode cX6_season 100 = .ok (.istore 6, 2) := by decide +kernel
theorem dX6_season_102 : decode cX6_season 102 = .ok (.iinc 7 1, 3) := by decide +kernel
theorem dX6_season_105 : decode cX6_season 105 = .ok (.goto (-55), 3) := by decide +kernel
theorem dX6_season_108 : decode cX6_season 108 = .ok (.iload_n 3, 1) := by decide +kernel
theorem dX6_season_109 : decode cX6_season 109 = .ok (.ifCond .ne 8, 3) := by decide +kernel
theorem dX6_season_112 : decode cX6_season 112 = .ok (.iload 6, 2) := by decide +kernel
theorem dX6_season_114 : decode cX6_season 114 = .ok (.goto 9, 3) := by decide +kernel
theorem dX6_season_117 : decode cX6_season 117 = .ok (.aload 4, 2) := by decide +kernel
theorem dX6_season_119 : decode cX6_season 119 = .ok (.iconst 4, 1) := by decide +kernel
theorem dX6_season_120 : decode cX6_season 120 = .ok (.invokevirtual 115, 3) := by decide +kernel
theorem dX6_season_123 : decode cX6_season 123 = .ok (.ireturn, 1) := by decide +kernel
theorem dX6_keep_0 : decode cX6_keep 0 = .ok (.iload_n 1, 1) := by decide +kernel
theorem dX6_keep_1 : decode cX6_keep 1 = .ok (.iconst 0, 1) := by decide +kernel
theorem dX6_keep_2 : decode cX6_keep 2 = .ok (.iconst 1, 1) := by decide +kernel
theorem dX6_keep_3 : decode cX6_keep 3 = .ok (.invokestatic 66, 3) := by decide +kernel
theorem dX6_keep_6 : decode cX6_keep 6 = .ok (.ifCond .ne 5, 3) := by decide +kernel
theorem dX6_keep_9 : decode cX6_keep 9 = .ok (.iconst (-1), 1) := by decide +kernel
theorem dX6_keep_10 : decode cX6_keep 10 = .ok (.ireturn, 1) := by decide +kernel
theorem dX6_keep_11 : decode cX6_keep 11 = .ok (.aload_n 0, 1) := by decide +kernel
theorem dX6_keep_12 : decode cX6_keep 12 = .ok (.getfield 26, 3) := by decide +kernel
theorem dX6_keep_15 : decode cX6_keep 15 = .ok (.iload_n 1, 1) := by decide +kernel
theorem dX6_keep_16 : decode cX6_keep 16 = .ok (.baload, 1) := by decide +kernel
theorem dX6_keep_17 : decode cX6_keep 17 = .ok (.ifCond .eq 7, 3) := by decide +kernel
theorem dX6_keep_20 : decode cX6_keep 20 = .ok (.iconst 1, 1) := by decide +kernel
theorem dX6_keep_21 : decode cX6_keep 21 = .ok (.goto 4, 3) := by decide +kernel
theorem dX6_keep_24 : decode cX6_keep 24 = .ok (.iconst 0, 1) := by decide +kernel
theorem dX6_keep_25 : decode cX6_keep 25 = .ok (.istore_n 2, 1) := by decide +kernel
theorem dX6_keep_26 : decode cX6_keep 26 = .ok (.aload_n 0, 1) := by decide +kernel
theorem dX6_keep_27 : decode cX6_keep 27 = .ok (.getfield 23, 3) := by decide +kernel
theorem dX6_keep_30 : decode cX6_keep 30 = .ok (.iload_n 1, 1) := by decide +kernel
theorem dX6_keep_31 : decode cX6_keep 31 = .ok (.aaload, 1) := by decide +kernel
theorem dX6_keep_32 : decode cX6_keep 32 = .ok (.aload_n 0, 1) := by decide +kernel
theorem dX6_keep_33 : decode cX6_keep 33 = .ok (.getfield 10, 3) := by decide +kernel
theorem dX6_keep_36 : decode cX6_keep 36 = .ok (.invokevirtual 93, 3) := by decide +kernel
theorem dX6_keep_39 : decode cX6_keep 39 = .ok (.aload_n 0, 1) := by decide +kernel
theorem dX6_keep_40 : decode cX6_keep 40 = .ok (.getfield 26, 3) := by decide +kernel
theorem dX6_keep_43 : decode cX6_keep 43 = .ok (.iload_n 1, 1) := by decide +kernel
theorem dX6_keep_44 : decode cX6_keep 44 = .ok (.iconst 1, 1) := by decide +kernel
theorem dX6_keep_45 : decode cX6_keep 45 = .ok (.bastore, 1) := by decide +kernel
theorem dX6_keep_46 : decode cX6_keep 46 = .ok (.iload_n 2, 1) := by decide +kernel
theorem dX6_keep_47 : decode cX6_keep 47 = .ok (.ireturn, 1) := by decide +kernel
theorem dX6_back_0 : decode cX6_back 0 = .ok (.iload_n 1, 1) := by decide +kernel
theorem dX6_back_1 : decode cX6_back 1 = .ok (.iconst 0, 1) := by decide +kernel
theorem dX6_back_2 : decode cX6_back 2 = .ok (.iconst 1, 1) := by decide +kernel
theorem dX6_back_3 : decode cX6_back 3 = .ok (.invokestatic 66, 3) := by decide +kernel
theorem dX6_back_6 : decode cX6_back 6 = .ok (.ifCond .ne 5, 3) := by decide +kernel
theorem dX6_back_9 : decode cX6_back 9 = .ok (.iconst (-1), 1) := by decide +kernel
theorem dX6_back_10 : decode cX6_back 10 = .ok (.ireturn, 1) := by decide +kernel
theorem dX6_back_11 : decode cX6_back 11 = .ok (.aload_n 0, 1) := by decide +kernel
theorem dX6_back_12 : decode cX6_back 12 = .ok (.getfield 26, 3) := by decide +kernel
theorem dX6_back_15 : decode cX6_back 15 = .ok (.iload_n 1, 1) := by decide +kernel
theorem dX6_back_16 : decode cX6_back 16 = .ok (.baload, 1) := by decide +kernel
theorem dX6_back_17 : decode cX6_back 17 = .ok (.ifCond .ne 6, 3) := by decide +kernel
theorem dX6_back_20 : decode cX6_back 20 = .ok (.bipush (-2), 2) := by decide +kernel
theorem dX6_back_22 : decode cX6_back 22 = .ok (.ireturn, 1) := by decide +kernel
theorem dX6_back_23 : decode cX6_back 23 = .ok (.aload_n 0, 1) := by decide +kernel
theorem dX6_back_24 : decode cX6_back 24 = .ok (.getfield 10, 3) := by decide +kernel
theorem dX6_back_27 : decode cX6_back 27 = .ok (.aload_n 0, 1) := by decide +kernel
theorem dX6_back_28 : decode cX6_back 28 = .ok (.getfield 23, 3) := by decide +kernel
theorem dX6_back_31 : decode cX6_back 31 = .ok (.iload_n 1, 1) := by decide +kernel
theorem dX6_back_32 : decode cX6_back 32 = .ok (.aaload, 1) := by decide +kernel
theorem dX6_back_33 : decode cX6_back 33 = .ok (.invokevirtual 93, 3) := by decide +kernel
theorem dX6_back_36 : decode cX6_back 36 = .ok (.aload_n 0, 1) := by decide +kernel
theorem dX6_back_37 : decode cX6_back 37 = .ok (.getfield 10, 3) := by decide +kernel
theorem dX6_back_40 : decode cX6_back 40 = .ok (.getfield 106, 3) := by decide +kernel
theorem dX6_back_43 : decode cX6_back 43 = .ok (.ireturn, 1) := by decide +kernel
theorem dX6_sheet_0 : decode cX6_sheet 0 = .ok (.iload_n 1, 1) := by decide +kernel
theorem dX6_sheet_1 : decode cX6_sheet 1 = .ok (.iconst 0, 1) := by decide +kernel
theorem dX6_sheet_2 : decode cX6_sheet 2 = .ok (.iconst 3, 1) := by decide +kernel
theorem dX6_sheet_3 : decode cX6_sheet 3 = .ok (.invokestatic 66, 3) := by decide +kernel
theorem dX6_sheet_6 : decode cX6_sheet 6 = .ok (.ifCond .eq 16, 3) := by decide +kernel
theorem dX6_sheet_9 : decode cX6_sheet 9 = .ok (.iload_n 2, 1) := by decide +kernel
theorem dX6_sheet_10 : decode cX6_sheet 10 = .ok (.invokestatic 292, 3) := by decide +kernel
theorem dX6_sheet_13 : decode cX6_sheet 13 = .ok (.ifCond .eq 9, 3) := by decide +kernel
theorem dX6_sheet_16 : decode cX6_sheet 16 = .ok (.iload_n 3, 1) := by decide +kernel
theorem dX6_sheet_17 : decode cX6_sheet 17 = .ok (.bipush 40, 2) := by decide +kernel
theorem dX6_sheet_19 : decode cX6_sheet 19 = .ok (.if_icmp .le 5, 3) := by decide +kernel
theorem dX6_sheet_22 : decode cX6_sheet 22 = .ok (.iconst (-1), 1) := by decide +kernel
theorem dX6_sheet_23 : decode cX6_sheet 23 = .ok (.ireturn, 1) := by decide +kernel
theorem dX6_sheet_24 : decode cX6_sheet 24 = .ok (.iload_n 3, 1) := by decide +kernel
theorem dX6_sheet_25 : decode cX6_sheet 25 = .ok (.ifCond .ge 6, 3) := by decide +kernel
theorem dX6_sheet_28 : decode cX6_sheet 28 = .ok (.bipush (-14), 2) := by decide +kernel
theorem dX6_sheet_30 : decode cX6_sheet 30 = .ok (.ireturn, 1) := by decide +kernel
theorem dX6_sheet_31 : decode cX6_sheet 31 = .ok (.aload_n 0, 1) := by decide +kernel
theorem dX6_sheet_32 : decode cX6_sheet 32 = .ok (.getfield 61, 3) := by decide +kernel
theorem dX6_sheet_35 : decode cX6_sheet 35 = .ok (.iload_n 1, 1) := by decide +kernel
theorem dX6_sheet_36 : decode cX6_sheet 36 = .ok (.aaload, 1) := by decide +kernel
theorem dX6_sheet_37 : decode cX6_sheet 37 = .ok (.iload_n 2, 1) := by decide +kernel
theorem dX6_sheet_38 : decode cX6_sheet 38 = .ok (.iload_n 3, 1) := by decide +kernel
theorem dX6_sheet_39 : decode cX6_sheet 39 = .ok (.invokevirtual 295, 3) := by decide +kernel
theorem dX6_sheet_42 : decode cX6_sheet 42 = .ok (.iconst 1, 1) := by decide +kernel
theorem dX6_sheet_43 : decode cX6_sheet 43 = .ok (.ireturn, 1) := by decide +kernel
theorem dX6_lay_0 : decode cX6_lay 0 = .ok (.iload_n 1, 1) := by decide +kernel
theorem dX6_lay_1 : decode cX6_lay 1 = .ok (.iconst 0, 1) := by decide +kernel
theorem dX6_lay_2 : decode cX6_lay 2 = .ok (.iconst 3, 1) := by decide +kernel
theorem dX6_lay_3 : decode cX6_lay 3 = .ok (.invokestatic 66, 3) := by decide +kernel
theorem dX6_lay_6 : decode cX6_lay 6 = .ok (.ifCond .ne 5, 3) := by decide +kernel
theorem dX6_lay_9 : decode cX6_lay 9 = .ok (.iconst (-1), 1) := by decide +kernel
theorem dX6_lay_10 : decode cX6_lay 10 = .ok (.ireturn, 1) := by decide +kernel
theorem dX6_lay_11 : decode cX6_lay 11 = .ok (.aload_n 0, 1) := by decide +kernel
theorem dX6_lay_12 : decode cX6_lay 12 = .ok (.getfield 61, 3) := by decide +kernel
theorem dX6_lay_15 : decode cX6_lay 15 = .ok (.iload_n 1, 1) := by decide +kernel
theorem dX6_lay_16 : decode cX6_lay 16 = .ok (.aaload, 1) := by decide +kernel
theorem dX6_lay_17 : decode cX6_lay 17 = .ok (.aload_n 0, 1) := by decide +kernel
theorem dX6_lay_18 : decode cX6_lay 18 = .ok (.getfield 61, 3) := by decide +kernel
theorem dX6_lay_21 : decode cX6_lay 21 = .ok (.iload_n 1, 1) := by decide +kernel
theorem dX6_lay_22 : decode cX6_lay 22 = .ok (.aaload, 1) := by decide +kernel
theorem dX6_lay_23 : decode cX6_lay 23 = .ok (.getfield 298, 3) := by decide +kernel
theorem dX6_lay_26 : decode cX6_lay 26 = .ok (.iload_n 2, 1) := by decide +kernel
theorem dX6_lay_27 : decode cX6_lay 27 = .ok (.i2l, 1) := by decide +kernel
theorem dX6_lay_28 : decode cX6_lay 28 = .ok (.invokevirtual 301, 3) := by decide +kernel
theorem dX6_lay_31 : decode cX6_lay 31 = .ok (.istore 4, 2) := by decide +kernel
theorem dX6_lay_33 : decode cX6_lay 33 = .ok (.iload 4, 2) := by decide +kernel
theorem dX6_lay_35 : decode cX6_lay 35 = .ok (.ifCond .eq 9, 3) := by decide +kernel
theorem dX6_lay_38 : decode cX6_lay 38 = .ok (.bipush (-10), 2) := by decide +kernel
theorem dX6_lay_40 : decode cX6_lay 40 = .ok (.iload 4, 2) := by decide +kernel
theorem dX6_lay_42 : decode cX6_lay 42 = .ok (.isub, 1) := by decide +kernel
theorem dX6_lay_43 : decode cX6_lay 43 = .ok (.ireturn, 1) := by decide +kernel
theorem dX6_lay_44 : decode cX6_lay 44 = .ok (.aload_n 0, 1) := by decide +kernel
theorem dX6_lay_45 : decode cX6_lay 45 = .ok (.getfield 61, 3) := by decide +kernel
theorem dX6_lay_48 : decode cX6_lay 48 = .ok (.iload_n 1, 1) := by decide +kernel
theorem dX6_lay_49 : decode cX6_lay 49 = .ok (.aaload, 1) := by decide +kernel
theorem dX6_lay_50 : decode cX6_lay 50 = .ok (.iload_n 2, 1) := by decide +kernel
theorem dX6_lay_51 : decode cX6_lay 51 = .ok (.iload_n 3, 1) := by decide +kernel
theorem dX6_lay_52 : decode cX6_lay 52 = .ok (.invokevirtual 305, 3) := by decide +kernel
theorem dX6_lay_55 : decode cX6_lay 55 = .ok (.iconst 1, 1) := by decide +kernel
theorem dX6_lay_56 : decode cX6_lay 56 = .ok (.ireturn, 1) := by decide +kernel
theorem dX6_read_0 : decode cX6_read 0 = .ok (.iload_n 1, 1) := by decide +kernel
theorem dX6_read_1 : decode cX6_read 1 = .ok (.iconst 0, 1) := by decide +kernel
theorem dX6_read_2 : decode cX6_read 2 = .ok (.iconst 3, 1) := by decide +kernel
theorem dX6_read_3 : decode cX6_read 3 = .ok (.invokestatic 66, 3) := by decide +kernel
theorem dX6_read_6 : decode cX6_read 6 = .ok (.ifCond .eq 21, 3) := by decide +kernel
theorem dX6_read_9 : decode cX6_read 9 = .ok (.iload_n 2, 1) := by decide +kernel
theorem dX6_read_10 : decode cX6_read 10 = .ok (.invokestatic 292, 3) := by decide +kernel
theorem dX6_read_13 : decode cX6_read 13 = .ok (.ifCond .eq 14, 3) := by decide +kernel
theorem dX6_read_16 : decode cX6_read 16 = .ok (.iload 4, 2) := by decide +kernel
theorem dX6_read_18 : decode cX6_read 18 = .ok (.iconst 0, 1) := by decide +kernel
theorem dX6_read_19 : decode cX6_read 19 = .ok (.bipush 20, 2) := by decide +kernel
theorem dX6_read_21 : decode cX6_read 21 = .ok (.invokestatic 66, 3) := by decide +kernel
theorem dX6_read_24 : decode cX6_read 24 = .ok (.ifCond .ne 5, 3) := by decide +kernel
theorem dX6_read_27 : decode cX6_read 27 = .ok (.iconst (-1), 1) := by decide +kernel
theorem dX6_read_28 : decode cX6_read 28 = .ok (.ireturn, 1) := by decide +kernel
theorem dX6_read_29 : decode cX6_read 29 = .ok (.aload_n 0, 1) := by decide +kernel
theorem dX6_read_30 : decode cX6_read 30 = .ok (.invokevirtual 177, 3) := by decide +kernel
theorem dX6_read_33 : decode cX6_read 33 = .ok (.astore 5, 2) := by decide +kernel
theorem dX6_read_35 : decode cX6_read 35 = .ok (.iconst 0, 1) := by decide +kernel
theorem dX6_read_36 : decode cX6_read 36 = .ok (.istore 6, 2) := by decide +kernel
theorem dX6_read_38 : decode cX6_read 38 = .ok (.iconst 0, 1) := by decide +kernel
theorem dX6_read_39 : decode cX6_read 39 = .ok (.istore 7, 2) := by decide +kernel
theorem dX6_read_41 : decode cX6_read 41 = .ok (.iconst 0, 1) := by decide +kernel
theorem dX6_read_42 : decode cX6_read 42 = .ok (.istore 8, 2) := by decide +kernel
theorem dX6_read_44 : decode cX6_read 44 = .ok (.iload 8, 2) := by decide +kernel
theorem dX6_read_46 : decode cX6_read 46 = .ok (.iload 4, 2) := by decide +kernel
theorem dX6_read_48 : decode cX6_read 48 = .ok (.if_icmp .ge 86, 3) := by decide +kernel
theorem dX6_read_51 : decode cX6_read 51 = .ok (.iload 6, 2) := by decide +kernel
theorem dX6_read_53 : decode cX6_read 53 = .ok (.ifCond .ne 81, 3) := by decide +kernel
theorem dX6_read_56 : decode cX6_read 56 = .ok (.iload_n 3, 1) := by decide +kernel
theorem dX6_read_57 : decode cX6_read 57 = .ok (.i2l, 1) := by decide +kernel
theorem dX6_read_58 : decode cX6_read 58 = .ok (.ldc2_w 308, 3) := by decide +kernel
theorem dX6_read_61 : decode cX6_read 61 = .ok (.iload 8, 2) := by decide +kernel
theorem dX6_read_63 : decode cX6_read 63 = .ok (.i2l, 1) := by decide +kernel
theorem dX6_read_64 : decode cX6_read 64 = .ok (.lmul, 1) := by decide +kernel
theorem dX6_read_65 : decode cX6_read 65 = .ok (.ladd, 1) := by decide +kernel
theorem dX6_read_66 : decode cX6_read 66 = .ok (.lstore 9, 2) := by decide +kernel
theorem dX6_read_68 : decode cX6_read 68 = .ok (.aload_n 0, 1) := by decide +kernel
theorem dX6_read_69 : decode cX6_read 69 = .ok (.getfield 61, 3) := by decide +kernel
theorem dX6_read_72 : decode cX6_read 72 = .ok (.iload_n 1, 1) := by decide +kernel
theorem dX6_read_73 : decode cX6_read 73 = .ok (.aaload, 1) := by decide +kernel
theorem dX6_read_74 : decode cX6_read 74 = .ok (.iload_n 2, 1) := by decide +kernel
theorem dX6_read_75 : decode cX6_read 75 = .ok (.lload 9, 2) := by decide +kernel
theorem dX6_read_77 : decode cX6_read 77 = .ok (.invokevirtual 310, 3) := by decide +kernel
theorem dX6_read_80 : decode cX6_read 80 = .ok (.istore 6, 2) := by decide +kernel
theorem dX6_read_82 : decode cX6_read 82 = .ok (.iload 6, 2) := by decide +kernel
theorem dX6_read_84 : decode cX6_read 84 = .ok (.ifCond .ne 44, 3) := by decide +kernel
theorem dX6_read_87 : decode cX6_read 87 = .ok (.aload 5, 2) := by decide +kernel
theorem dX6_read_89 : decode cX6_read 89 = .ok (.aload_n 0, 1) := by decide +kernel
theorem dX6_read_90 : decode cX6_read 90 = .ok (.getfield 61, 3) := by decide +kernel
theorem dX6_read_93 : decode cX6_read 93 = .ok (.iload_n 1, 1) := by decide +kernel
theorem dX6_read_94 : decode cX6_read 94 = .ok (.aaload, 1) := by decide +kernel
theorem dX6_read_95 : decode cX6_read 95 = .ok (.lload 9, 2) := by decide +kernel
theorem dX6_read_97 : decode cX6_read 97 = .ok (.invokevirtual 313, 3) := by decide +kernel
theorem dX6_read_100 : decode cX6_read 100 = .ok (.aload_n 0, 1) := by decide +kernel
theorem dX6_read_101 : decode cX6_read 101 = .ok (.getfield 61, 3) := by decide +kernel
theorem dX6_read_104 : decode cX6_read 104 = .ok (.iload_n 1, 1) := by decide +kernel
theorem dX6_read_105 : decode cX6_read 105 = .ok (.aaload, 1) := by decide +kernel
theorem dX6_read_106 : decode cX6_read 106 = .ok (.lload 9, 2) := by decide +kernel
theorem dX6_read_108 : decode cX6_read 108 = .ok (.lconst 1, 1) := by decide +kernel
theorem dX6_read_109 : decode cX6_read 109 = .ok (.ladd, 1) := by decide +kernel
theorem dX6_read_110 : decode cX6_read 110 = .ok (.invokevirtual 313, 3) := by decide +kernel
theorem dX6_read_113 : decode cX6_read 113 = .ok (.invokestatic 164, 3) := by decide +kernel
theorem dX6_read_116 : decode cX6_read 116 = .ok (.ifCond .ge 9, 3) := by decide +kernel
theorem dX6_read_119 : decode cX6_read 119 = .ok (.bipush (-20), 2) := by decide +kernel
theorem dX6_read_121 : decode cX6_read 121 = .ok (.iload 8, 2) := by decide +kernel
theorem dX6_read_123 : decode cX6_read 123 = .ok (.isub, 1) := by decide +kernel
theorem dX6_read_124 : decode cX6_read 124 = .ok (.ireturn, 1) := by decide +kernel
theorem dX6_read_125 : decode cX6_read 125 = .ok (.iinc 7 1, 3) := by decide +kernel
theorem dX6_read_128 : decode cX6_read 128 = .ok (.iinc 8 1, 3) := by decide +kernel
theorem dX6_read_131 : decode cX6_read 131 = .ok (.goto (-87), 3) := by decide +kernel
theorem dX6_read_134 : decode cX6_read 134 = .ok (.aload_n 0, 1) := by decide +kernel
theorem dX6_read_135 : decode cX6_read 135 = .ok (.getfield 10, 3) := by decide +kernel
theorem dX6_read_138 : decode cX6_read 138 = .ok (.aload 5, 2) := by decide +kernel
theorem dX6_read_140 : decode cX6_read 140 = .ok (.invokevirtual 93, 3) := by decide +kernel
theorem dX6_read_143 : decode cX6_read 143 = .ok (.aload_n 0, 1) := by decide +kernel
theorem dX6_read_144 : decode cX6_read 144 = .ok (.iload 6, 2) := by decide +kernel
theorem dX6_read_146 : decode cX6_read 146 = .ok (.putfield 317, 3) := by decide +kernel
theorem dX6_read_149 : decode cX6_read 149 = .ok (.iload 7, 2) := by decide +kernel
theorem dX6_read_151 : decode cX6_read 151 = .ok (.ireturn, 1) := by decide +kernel
theorem dX6_isLane_0 : decode cX6_isLane 0 = .ok (.iload_n 0, 1) := by decide +kernel
theorem dX6_isLane_1 : decode cX6_isLane 1 = .ok (.iconst 0, 1) := by decide +kernel
theorem dX6_isLane_2 : decode cX6_isLane 2 = .ok (.iconst 2, 1) := by decide +kernel
theorem dX6_isLane_3 : decode cX6_isLane 3 = .ok (.invokestatic 66, 3) := by decide +kernel
theorem dX6_isLane_6 : decode cX6_isLane 6 = .ok (.ireturn, 1) := by decide +kernel
theorem dX6_torn_0 : decode cX6_torn 0 = .ok (.aload_n 0, 1) := by decide +kernel
theorem dX6_torn_1 : decode cX6_torn 1 = .ok (.getfield 317, 3) := by decide +kernel
theorem dX6_torn_4 : decode cX6_torn 4 = .ok (.ireturn, 1) := by decide +kernel
theorem dX6_count_0 : decode cX6_count 0 = .ok (.iload_n 1, 1) := by decide +kernel
theorem dX6_count_1 : decode cX6_count 1 = .ok (.tableswitch 129 0 5 #[39, 47, 77, 85, 112, 121], 39) := by decide +kernel
theorem dX6_count_40 : decode cX6_count 40 = .ok (.aload_n 0, 1) := by decide +kernel
theorem dX6_count_41 : decode cX6_count 41 = .ok (.getfield 47, 3) := by decide +kernel
theorem dX6_count_44 : decode cX6_count 44 = .ok (.getfield 97, 3) := by decide +kernel
theorem dX6_count_47 : decode cX6_count 47 = .ok (.ireturn, 1) := by decide +kernel
theorem dX6_count_48 : decode cX6_count 48 = .ok (.aload_n 0, 1) := by decide +kernel
theorem dX6_count_49 : decode cX6_count 49 = .ok (.getfield 26, 3) := by decide +kernel
theorem dX6_count_52 : decode cX6_count 52 = .ok (.iconst 0, 1) := by decide +kernel
theorem dX6_count_53 : decode cX6_count 53 = .ok (.baload, 1) := by decide +kernel
theorem dX6_count_54 : decode cX6_count 54 = .ok (.ifCond .eq 7, 3) := by decide +kernel
theorem dX6_count_57 : decode cX6_count 57 = .ok (.iconst 1, 1) := by decide +kernel
theorem dX6_count_58 : decode cX6_count 58 = .ok (.goto 4, 3) := by decide +kernel
theorem dX6_count_61 : decode cX6_count 61 = .ok (.iconst 0, 1) := by decide +kernel
theorem dX6_count_62 : decode cX6_count 62 = .ok (.aload_n 0, 1) := by decide +kernel
theorem dX6_count_63 : decode cX6_count 63 = .ok (.getfield 26, 3) := by decide +kernel
theorem dX6_count_66 : decode cX6_count 66 = .ok (.iconst 1, 1) := by decide +kernel
theorem dX6_count_67 : decode cX6_count 67 = .ok (.baload, 1) := by decide +kernel
theorem dX6_count_68 : decode cX6_count 68 = .ok (.ifCond .eq 7, 3) := by decide +kernel
theorem dX6_count_71 : decode cX6_count 71 = .ok (.iconst 1, 1) := by decide +kernel
theorem dX6_count_72 : decode cX6_count 72 = .ok (.goto 4, 3) := by decide +kernel
theorem dX6_count_75 : decode cX6_count 75 = .ok (.iconst 0, 1) := by decide +kernel
theorem dX6_count_76 : decode cX6_count 76 = .ok (.iadd, 1) := by decide +kernel
theorem dX6_count_77 : decode cX6_count 77 = .ok (.ireturn, 1) := by decide +kernel
theorem dX6_count_78 : decode cX6_count 78 = .ok (.aload_n 0, 1) := by decide +kernel
theorem dX6_count_79 : decode cX6_count 79 = .ok (.getfield 41, 3) := by decide +kernel
theorem dX6_count_82 : decode cX6_count 82 = .ok (.getfield 76, 3) := by decide +kernel
theorem dX6_count_85 : decode cX6_count 85 = .ok (.ireturn, 1) := by decide +kernel
theorem dX6_count_86 : decode cX6_count 86 = .ok (.aload_n 0, 1) := by decide +kernel
theorem dX6_count_87 : decode cX6_count 87 = .ok (.getfield 61, 3) := by decide +kernel
theorem dX6_count_90 : decode cX6_count 90 = .ok (.iconst 0, 1) := by decide +kernel
theorem dX6_count_91 : decode cX6_count 91 = .ok (.aaload, 1) := by decide +kernel
theorem dX6_count_92 : decode cX6_count 92 = .ok (.getfield 320, 3) := by decide +kernel
theorem dX6_count_95 : decode cX6_count 95 = .ok (.ifCond .ge 8, 3) := by decide +kernel
theorem dX6_count_98 : decode cX6_count 98 = .ok (.bipush (-4), 2) := by decide +kernel
theorem dX6_count_100 : decode cX6_count 100 = .ok (.goto 12, 3) := by decide +kernel
theorem dX6_count_103 : decode cX6_count 103 = .ok (.aload_n 0, 1) := by decide +kernel
theorem dX6_count_104 : decode cX6_count 104 = .ok (.getfield 61, 3) := by decide +kernel
theorem dX6_count_107 : decode cX6_count 107 = .ok (.iconst 0, 1) := by decide +kernel
theorem dX6_count_108 : decode cX6_count 108 = .ok (.aaload, 1) := by decide +kernel
theorem dX6_count_109 : decode cX6_count 109 = .ok (.getfield 320, 3) := by decide +kernel
theorem dX6_count_112 : decode cX6_count 112 = .ok (.ireturn, 1) := by decide +kernel
theorem dX6_count_113 : decode cX6_count 113 = .ok (.aload_n 0, 1) := by decide +kernel
theorem dX6_count_114 : decode cX6_count 114 = .ok (.getfield 10, 3) := by decide +kernel
theorem dX6_count_117 : decode cX6_count 117 = .ok (.iconst 1, 1) := by decide +kernel
theorem dX6_count_118 : decode cX6_count 118 = .ok (.invokevirtual 115, 3) := by decide +kernel
theorem dX6_count_121 : decode cX6_count 121 = .ok (.ireturn, 1) := by decide +kernel
theorem dX6_count_122 : decode cX6_count 122 = .ok (.aload_n 0, 1) := by decide +kernel
theorem dX6_count_123 : decode cX6_count 123 = .ok (.getfield 10, 3) := by decide +kernel
theorem dX6_count_126 : decode cX6_count 126 = .ok (.invokevirtual 323, 3) := by decide +kernel
theorem dX6_count_129 : decode cX6_count 129 = .ok (.ireturn, 1) := by decide +kernel
theorem dX6_count_130 : decode cX6_count 130 = .ok (.iconst (-1), 1) := by decide +kernel
theorem dX6_count_131 : decode cX6_count 131 = .ok (.ireturn, 1) := by decide +kernel
theorem dX6_afresh_0 : decode cX6_afresh 0 = .ok (.aload_n 0, 1) := by decide +kernel
theorem dX6_afresh_1 : decode cX6_afresh 1 = .ok (.getfield 16, 3) := by decide +kernel
theorem dX6_afresh_4 : decode cX6_afresh 4 = .ok (.aload_n 0, 1) := by decide +kernel
theorem dX6_afresh_5 : decode cX6_afresh 5 = .ok (.getfield 10, 3) := by decide +kernel
theorem dX6_afresh_8 : decode cX6_afresh 8 = .ok (.invokevirtual 93, 3) := by decide +kernel
theorem dX6_afresh_11 : decode cX6_afresh 11 = .ok (.aload_n 0, 1) := by decide +kernel
theorem dX6_afresh_12 : decode cX6_afresh 12 = .ok (.getfield 16, 3) := by decide +kernel
theorem dX6_afresh_15 : decode cX6_afresh 15 = .ok (.areturn, 1) := by decide +kernel
theorem dX6_within_0 : decode cX6_within 0 = .ok (.iload_n 0, 1) := by decide +kernel
theorem dX6_within_1 : decode cX6_within 1 = .ok (.iload_n 1, 1) := by decide +kernel
theorem dX6_within_2 : decode cX6_within 2 = .ok (.if_icmp .lt 12, 3) := by decide +kernel
theorem dX6_within_5 : decode cX6_within 5 = .ok (.iload_n 0, 1) := by decide +kernel
theorem dX6_within_6 : decode cX6_within 6 = .ok (.iload_n 2, 1) := by decide +kernel
theorem dX6_within_7 : decode cX6_within 7 = .ok (.if_icmp .gt 7, 3) := by decide +kernel
theorem dX6_within_10 : decode cX6_within 10 = .ok (.iconst 1, 1) := by decide +kernel
theorem dX6_within_11 : decode cX6_within 11 = .ok (.goto 4, 3) := by decide +kernel
theorem dX6_within_14 : decode cX6_within 14 = .ok (.iconst 0, 1) := by decide +kernel
theorem dX6_within_15 : decode cX6_within 15 = .ok (.ireturn, 1) := by decide +kernel
theorem dX6_isAhead_0 : decode cX6_isAhead 0 = .ok (.iload_n 0, 1) := by decide +kernel
theorem dX6_isAhead_1 : decode cX6_isAhead 1 = .ok (.iconst 0, 1) := by decide +kernel
theorem dX6_isAhead_2 : decode cX6_isAhead 2 = .ok (.sipush 200, 3) := by decide +kernel
theorem dX6_isAhead_5 : decode cX6_isAhead 5 = .ok (.invokestatic 66, 3) := by decide +kernel
theorem dX6_isAhead_8 : decode cX6_isAhead 8 = .ok (.ireturn, 1) := by decide +kernel
theorem dX6_bit_0 : decode cX6_bit 0 = .ok (.iload_n 0, 1) := by decide +kernel
theorem dX6_bit_1 : decode cX6_bit 1 = .ok (.iload_n 1, 1) := by decide +kernel
theorem dX6_bit_2 : decode cX6_bit 2 = .ok (.iushr, 1) := by decide +kernel
theorem dX6_bit_3 : decode cX6_bit 3 = .ok (.iconst 1, 1) := by decide +kernel
theorem dX6_bit_4 : decode cX6_bit 4 = .ok (.iand, 1) := by decide +kernel
theorem dX6_bit_5 : decode cX6_bit 5 = .ok (.ireturn, 1) := by decide +kernel
theorem dJ0_length_8abf5_0 : decode cJ0_length_8abf5 0 = .ok (.aload_n 0, 1) := by decide +kernel
theorem dJ0_length_8abf5_1 : decode cJ0_length_8abf5 1 = .ok (.getfield 9, 3) := by decide +kernel
theorem dJ0_length_8abf5_4 : decode cJ0_length_8abf5 4 = .ok (.arraylength, 1) := by decide +kernel
theorem dJ0_length_8abf5_5 : decode cJ0_length_8abf5 5 = .ok (.aload_n 0, 1) := by decide +kernel
theorem dJ0_length_8abf5_6 : decode cJ0_length_8abf5 6 = .ok (.invokevirtual 335, 3) := by decide +kernel
theorem dJ0_length_8abf5_9 : decode cJ0_length_8abf5 9 = .ok (.ishr, 1) := by decide +kernel
theorem dJ0_length_8abf5_10 : decode cJ0_length_8abf5 10 = .ok (.ireturn, 1) := by decide +kernel
theorem dJ0_charAt_5068e_0 : decode cJ0_charAt_5068e 0 = .ok (.aload_n 0, 1) := by decide +kernel
theorem dJ0_charAt_5068e_1 : decode cJ0_charAt_5068e 1 = .ok (.invokevirtual 492, 3) := by decide +kernel
theorem dJ0_charAt_5068e_4 : decode cJ0_charAt_5068e 4 = .ok (.ifCond .eq 12, 3) := by decide +kernel
theorem dJ0_charAt_5068e_7 : decode cJ0_charAt_5068e 7 = .ok (.aload_n 0, 1) := by decide +kernel
theorem dJ0_charAt_5068e_8 : decode cJ0_charAt_5068e 8 = .ok (.getfield 9, 3) := by decide +kernel
theorem dJ0_charAt_5068e_11 : decode cJ0_charAt_5068e 11 = .ok (.iload_n 1, 1) := by decide +kernel
theorem dJ0_charAt_5068e_12 : decode cJ0_charAt_5068e 12 = .ok (.invokestatic 495, 3) := by decide +kernel
theorem dJ0_charAt_5068e_15 : decode cJ0_charAt_5068e 15 = .ok (.ireturn, 1) := by decide +kernel
theorem dJ0_charAt_5068e_16 : decode cJ0_charAt_5068e 16 = .ok (.aload_n 0, 1) := by decide +kernel
theorem dJ0_charAt_5068e_17 : decode cJ0_charAt_5068e 17 = .ok (.getfield 9, 3) := by decide +kernel
theorem dJ0_charAt_5068e_20 : decode cJ0_charAt_5068e 20 = .ok (.iload_n 1, 1) := by decide +kernel
theorem dJ0_charAt_5068e_21 : decode cJ0_charAt_5068e 21 = .ok (.invokestatic 498, 3) := by decide +kernel
theorem dJ0_charAt_5068e_24 : decode cJ0_charAt_5068e 24 = .ok (.ireturn, 1) := by decide +kernel
theorem dJ0_coder_7d493_0 : decode cJ0_coder_7d493 0 = .ok (.getstatic 38, 3) := by decide +kernel
theorem dJ0_coder_7d493_3 : decode cJ0_coder_7d493 3 = .ok (.ifCond .eq 10, 3) := by decide +kernel
theorem dJ0_coder_7d493_6 : decode cJ0_coder_7d493 6 = .ok (.aload_n 0, 1) := by decide +kernel
theorem dJ0_coder_7d493_7 : decode cJ0_coder_7d493 7 = .ok (.getfield 15, 3) := by decide +kernel
theorem dJ0_coder_7d493_10 : decode cJ0_coder_7d493 10 = .ok (.goto 4, 3) := by decide +kernel
theorem dJ0_coder_7d493_13 : decode cJ0_coder_7d493 13 = .ok (.iconst 1, 1) := by decide +kernel
theorem dJ0_coder_7d493_14 : decode cJ0_coder_7d493 14 = .ok (.ireturn, 1) := by decide +kernel
theorem dJ0_isLatin1_aae02_0 : decode cJ0_isLatin1_aae02 0 = .ok (.getstatic 38, 3) := by decide +kernel
theorem dJ0_isLatin1_aae02_3 : decode cJ0_isLatin1_aae02 3 = .ok (.ifCond .eq 14, 3) := by decide +kernel
theorem dJ0_isLatin1_aae02_6 : decode cJ0_isLatin1_aae02 6 = .ok (.aload_n 0, 1) := by decide +kernel
theorem dJ0_isLatin1_aae02_7 : decode cJ0_isLatin1_aae02 7 = .ok (.getfield 15, 3) := by decide +kernel
theorem dJ0_isLatin1_aae02_10 : decode cJ0_isLatin1_aae02 10 = .ok (.ifCond .ne 7, 3) := by decide +kernel
theorem dJ0_isLatin1_aae02_13 : decode cJ0_isLatin1_aae02 13 = .ok (.iconst 1, 1) := by decide +kernel
theorem dJ0_isLatin1_aae02_14 : decode cJ0_isLatin1_aae02 14 = .ok (.goto 4, 3) := by decide +kernel
theorem dJ0_isLatin1_aae02_17 : decode cJ0_isLatin1_aae02 17 = .ok (.iconst 0, 1) := by decide +kernel
theorem dJ0_isLatin1_aae02_18 : decode cJ0_isLatin1_aae02 18 = .ok (.ireturn, 1) := by decide +kernel
theorem dJ0_checkIndex_df160_0 : decode cJ0_checkIndex_df160 0 = .ok (.iload_n 0, 1) := by decide +kernel
theorem dJ0_checkIndex_df160_1 : decode cJ0_checkIndex_df160 1 = .ok (.iload_n 1, 1) := by decide +kernel
theorem dJ0_checkIndex_df160_2 : decode cJ0_checkIndex_df160 2 = .ok (.getstatic 1053, 3) := by decide +kernel
theorem dJ0_checkIndex_df160_5 : decode cJ0_checkIndex_df160 5 = .ok (.invokestatic 1059, 3) := by decide +kernel
theorem dJ0_checkIndex_df160_8 : decode cJ0_checkIndex_df160 8 = .ok (.pop, 1) := by decide +kernel
theorem dJ0_checkIndex_df160_9 : decode cJ0_checkIndex_df160 9 = .ok (.return_, 1) := by decide +kernel
theorem dJ1_charAt_3b067_0 : decode cJ1_charAt_3b067 0 = .ok (.iload_n 1, 1) := by decide +kernel
theorem dJ1_charAt_3b067_1 : decode cJ1_charAt_3b067 1 = .ok (.aload_n 0, 1) := by decide +kernel
theorem dJ1_charAt_3b067_2 : decode cJ1_charAt_3b067 2 = .ok (.arraylength, 1) := by decide +kernel
theorem dJ1_charAt_3b067_3 : decode cJ1_charAt_3b067 3 = .ok (.invokestatic 9, 3) := by decide +kernel
theorem dJ1_charAt_3b067_6 : decode cJ1_charAt_3b067 6 = .ok (.aload_n 0, 1) := by decide +kernel
theorem dJ1_charAt_3b067_7 : decode cJ1_charAt_3b067 7 = .ok (.iload_n 1, 1) := by decide +kernel
theorem dJ1_charAt_3b067_8 : decode cJ1_charAt_3b067 8 = .ok (.baload, 1) := by decide +kernel
theorem dJ1_charAt_3b067_9 : decode cJ1_charAt_3b067 9 = .ok (.sipush 255, 3) := by decide +kernel
theorem dJ1_charAt_3b067_12 : decode cJ1_charAt_3b067 12 = .ok (.iand, 1) := by decide +kernel
theorem dJ1_charAt_3b067_13 : decode cJ1_charAt_3b067 13 = .ok (.i2c, 1) := by decide +kernel
theorem dJ1_charAt_3b067_14 : decode cJ1_charAt_3b067 14 = .ok (.ireturn, 1) := by decide +kernel
theorem dJ2_getChar_3b067_0 : decode cJ2_getChar_3b067 0 = .ok (.getstatic 44, 3) := by decide +kernel
theorem dJ2_getChar_3b067_3 : decode cJ2_getChar_3b067 3 = .ok (.ifCond .ne 25, 3) := by decide +kernel
theorem dJ2_getChar_3b067_6 : decode cJ2_getChar_3b067 6 = .ok (.iload_n 1, 1) := by decide +kernel
theorem dJ2_getChar_3b067_7 : decode cJ2_getChar_3b067 7 = .ok (.ifCond .lt 11, 3) := by decide +kernel
theorem dJ2_getChar_3b067_10 : decode cJ2_getChar_3b067 10 = .ok (.iload_n 1, 1) := by decide +kernel
theorem dJ2_getChar_3b067_11 : decode cJ2_getChar_3b067 11 = .ok (.aload_n 0, 1) := by decide +kernel
theorem dJ2_getChar_3b067_12 : decode cJ2_getChar_3b067 12 = .ok (.invokestatic 48, 3) := by decide +kernel
theorem dJ2_getChar_3b067_15 : decode cJ2_getChar_3b067 15 = .ok (.if_icmp .lt 13, 3) := by decide +kernel
theorem dJ2_getChar_3b067_18 : decode cJ2_getChar_3b067 18 = .ok (.new 52, 3) := by decide +kernel
theorem dJ2_getChar_3b067_21 : decode cJ2_getChar_3b067 21 = .ok (.dup, 1) := by decide +kernel
theorem dJ2_getChar_3b067_22 : decode cJ2_getChar_3b067 22 = .ok (.ldc 54, 2) := by decide +kernel
theorem dJ2_getChar_3b067_24 : decode cJ2_getChar_3b067 24 = .ok (.invokespecial 56, 3) := by decide +kernel
theorem dJ2_getChar_3b067_27 : decode cJ2_getChar_3b067 27 = .ok (.athrow, 1) := by decide +kernel
theorem dJ2_getChar_3b067_28 : decode cJ2_getChar_3b067 28 = .ok (.iload_n 1, 1) := by decide +kernel
theorem dJ2_getChar_3b067_29 : decode cJ2_getChar_3b067 29 = .ok (.iconst 1, 1) := by decide +kernel
theorem dJ2_getChar_3b067_30 : decode cJ2_getChar_3b067 30 = .ok (.ishl, 1) := by decide +kernel
theorem dJ2_getChar_3b067_31 : decode cJ2_getChar_3b067 31 = .ok (.istore_n 1, 1) := by decide +kernel
theorem dJ2_getChar_3b067_32 : decode cJ2_getChar_3b067 32 = .ok (.aload_n 0, 1) := by decide +kernel
theorem dJ2_getChar_3b067_33 : decode cJ2_getChar_3b067 33 = .ok (.iload_n 1, 1) := by decide +kernel
theorem dJ2_getChar_3b067_34 : decode cJ2_getChar_3b067 34 = .ok (.iinc 1 1, 3) := by decide +kernel
theorem dJ2_getChar_3b067_37 : decode cJ2_getChar_3b067 37 = .ok (.baload, 1) := by decide +kernel
theorem dJ2_getChar_3b067_38 : decode cJ2_getChar_3b067 38 = .ok (.sipush 255, 3) := by decide +kernel
theorem dJ2_getChar_3b067_41 : decode cJ2_getChar_3b067 41 = .ok (.iand, 1) := by decide +kernel
theorem dJ2_getChar_3b067_42 : decode cJ2_getChar_3b067 42 = .ok (.getstatic 59, 3) := by decide +kernel
theorem dJ2_getChar_3b067_45 : decode cJ2_getChar_3b067 45 = .ok (.ishl, 1) := by decide +kernel
theorem dJ2_getChar_3b067_46 : decode cJ2_getChar_3b067 46 = .ok (.aload_n 0, 1) := by decide +kernel
theorem dJ2_getChar_3b067_47 : decode cJ2_getChar_3b067 47 = .ok (.iload_n 1, 1) := by decide +kernel
theorem dJ2_getChar_3b067_48 : decode cJ2_getChar_3b067 48 = .ok (.baload, 1) := by decide +kernel
theorem dJ2_getChar_3b067_49 : decode cJ2_getChar_3b067 49 = .ok (.sipush 255, 3) := by decide +kernel
theorem dJ2_getChar_3b067_52 : decode cJ2_getChar_3b067 52 = .ok (.iand, 1) := by decide +kernel
theorem dJ2_getChar_3b067_53 : decode cJ2_getChar_3b067 53 = .ok (.getstatic 63, 3) := by decide +kernel
theorem dJ2_getChar_3b067_56 : decode cJ2_getChar_3b067 56 = .ok (.ishl, 1) := by decide +kernel
theorem dJ2_getChar_3b067_57 : decode cJ2_getChar_3b067 57 = .ok (.ior, 1) := by decide +kernel
theorem dJ2_getChar_3b067_58 : decode cJ2_getChar_3b067 58 = .ok (.i2c, 1) := by decide +kernel
theorem dJ2_getChar_3b067_59 : decode cJ2_getChar_3b067 59 = .ok (.ireturn, 1) := by decide +kernel
theorem dJ2_length_9d52b_0 : decode cJ2_length_9d52b 0 = .ok (.aload_n 0, 1) := by decide +kernel
theorem dJ2_length_9d52b_1 : decode cJ2_length_9d52b 1 = .ok (.arraylength, 1) := by decide +kernel
theorem dJ2_length_9d52b_2 : decode cJ2_length_9d52b 2 = .ok (.iconst 1, 1) := by decide +kernel
theorem dJ2_length_9d52b_3 : decode cJ2_length_9d52b 3 = .ok (.ishr, 1) := by decide +kernel
theorem dJ2_length_9d52b_4 : decode cJ2_length_9d52b 4 = .ok (.ireturn, 1) := by decide +kernel
theorem dJ2_charAt_3b067_0 : decode cJ2_charAt_3b067 0 = .ok (.iload_n 1, 1) := by decide +kernel
theorem dJ2_charAt_3b067_1 : decode cJ2_charAt_3b067 1 = .ok (.aload_n 0, 1) := by decide +kernel
theorem dJ2_charAt_3b067_2 : decode cJ2_charAt_3b067 2 = .ok (.invokestatic 67, 3) := by decide +kernel
theorem dJ2_charAt_3b067_5 : decode cJ2_charAt_3b067 5 = .ok (.aload_n 0, 1) := by decide +kernel
theorem dJ2_charAt_3b067_6 : decode cJ2_charAt_3b067 6 = .ok (.iload_n 1, 1) := by decide +kernel
theorem dJ2_charAt_3b067_7 : decode cJ2_charAt_3b067 7 = .ok (.invokestatic 71, 3) := by decide +kernel
theorem dJ2_charAt_3b067_10 : decode cJ2_charAt_3b067 10 = .ok (.ireturn, 1) := by decide +kernel
theorem dJ2_checkIndex_2214a_0 : decode cJ2_checkIndex_2214a 0 = .ok (.iload_n 0, 1) := by decide +kernel
theorem dJ2_checkIndex_2214a_1 : decode cJ2_checkIndex_2214a 1 = .ok (.aload_n 1, 1) := by decide +kernel
theorem dJ2_checkIndex_2214a_2 : decode cJ2_checkIndex_2214a 2 = .ok (.invokestatic 48, 3) := by decide +kernel
theorem dJ2_checkIndex_2214a_5 : decode cJ2_checkIndex_2214a 5 = .ok (.invokestatic 414, 3) := by decide +kernel
theorem dJ2_checkIndex_2214a_8 : decode cJ2_checkIndex_2214a 8 = .ok (.return_, 1) := by decide +kernel
theorem dJ3_checkIndex_8e157_0 : decode cJ3_checkIndex_8e157 0 = .ok (.iload_n 0, 1) := by decide +kernel
theorem dJ3_checkIndex_8e157_1 : decode cJ3_checkIndex_8e157 1 = .ok (.ifCond .lt 8, 3) := by decide +kernel
theorem dJ3_checkIndex_8e157_4 : decode cJ3_checkIndex_8e157 4 = .ok (.iload_n 0, 1) := by decide +kernel
theorem dJ3_checkIndex_8e157_5 : decode cJ3_checkIndex_8e157 5 = .ok (.iload_n 1, 1) := by decide +kernel
theorem dJ3_checkIndex_8e157_6 : decode cJ3_checkIndex_8e157 6 = .ok (.if_icmp .lt 10, 3) := by decide +kernel
theorem dJ3_checkIndex_8e157_9 : decode cJ3_checkIndex_8e157 9 = .ok (.aload_n 2, 1) := by decide +kernel
theorem dJ3_checkIndex_8e157_10 : decode cJ3_checkIndex_8e157 10 = .ok (.iload_n 0, 1) := by decide +kernel
theorem dJ3_checkIndex_8e157_11 : decode cJ3_checkIndex_8e157 11 = .ok (.iload_n 1, 1) := by decide +kernel
theorem dJ3_checkIndex_8e157_12 : decode cJ3_checkIndex_8e157 12 = .ok (.invokestatic 95, 3) := by decide +kernel
theorem dJ3_checkIndex_8e157_15 : decode cJ3_checkIndex_8e157 15 = .ok (.athrow, 1) := by decide +kernel
theorem dJ3_checkIndex_8e157_16 : decode cJ3_checkIndex_8e157 16 = .ok (.iload_n 0, 1) := by decide +kernel
theorem dJ3_checkIndex_8e157_17 : decode cJ3_checkIndex_8e157 17 = .ok (.ireturn, 1) := by decide +kernel
theorem dJ6_bitCount_0f7a4_0 : decode cJ6_bitCount_0f7a4 0 = .ok (.iload_n 0, 1) := by decide +kernel
theorem dJ6_bitCount_0f7a4_1 : decode cJ6_bitCount_0f7a4 1 = .ok (.iload_n 0, 1) := by decide +kernel
theorem dJ6_bitCount_0f7a4_2 : decode cJ6_bitCount_0f7a4 2 = .ok (.iconst 1, 1) := by decide +kernel
theorem dJ6_bitCount_0f7a4_3 : decode cJ6_bitCount_0f7a4 3 = .ok (.iushr, 1) := by decide +kernel
theorem dJ6_bitCount_0f7a4_4 : decode cJ6_bitCount_0f7a4 4 = .ok (.ldc_w 265, 3) := by decide +kernel
theorem dJ6_bitCount_0f7a4_7 : decode cJ6_bitCount_0f7a4 7 = .ok (.iand, 1) := by decide +kernel
theorem dJ6_bitCount_0f7a4_8 : decode cJ6_bitCount_0f7a4 8 = .ok (.isub, 1) := by decide +kernel
theorem dJ6_bitCount_0f7a4_9 : decode cJ6_bitCount_0f7a4 9 = .ok (.istore_n 0, 1) := by decide +kernel
theorem dJ6_bitCount_0f7a4_10 : decode cJ6_bitCount_0f7a4 10 = .ok (.iload_n 0, 1) := by decide +kernel
theorem dJ6_bitCount_0f7a4_11 : decode cJ6_bitCount_0f7a4 11 = .ok (.ldc_w 266, 3) := by decide +kernel
theorem dJ6_bitCount_0f7a4_14 : decode cJ6_bitCount_0f7a4 14 = .ok (.iand, 1) := by decide +kernel
theorem dJ6_bitCount_0f7a4_15 : decode cJ6_bitCount_0f7a4 15 = .ok (.iload_n 0, 1) := by decide +kernel
theorem dJ6_bitCount_0f7a4_16 : decode cJ6_bitCount_0f7a4 16 = .ok (.iconst 2, 1) := by decide +kernel
theorem dJ6_bitCount_0f7a4_17 : decode cJ6_bitCount_0f7a4 17 = .ok (.iushr, 1) := by decide +kernel
theorem dJ6_bitCount_0f7a4_18 : decode cJ6_bitCount_0f7a4 18 = .ok (.ldc_w 266, 3) := by decide +kernel
theorem dJ6_bitCount_0f7a4_21 : decode cJ6_bitCount_0f7a4 21 = .ok (.iand, 1) := by decide +kernel
theorem dJ6_bitCount_0f7a4_22 : decode cJ6_bitCount_0f7a4 22 = .ok (.iadd, 1) := by decide +kernel
theorem dJ6_bitCount_0f7a4_23 : decode cJ6_bitCount_0f7a4 23 = .ok (.istore_n 0, 1) := by decide +kernel
theorem dJ6_bitCount_0f7a4_24 : decode cJ6_bitCount_0f7a4 24 = .ok (.iload_n 0, 1) := by decide +kernel
theorem dJ6_bitCount_0f7a4_25 : decode cJ6_bitCount_0f7a4 25 = .ok (.iload_n 0, 1) := by decide +kernel
theorem dJ6_bitCount_0f7a4_26 : decode cJ6_bitCount_0f7a4 26 = .ok (.iconst 4, 1) := by decide +kernel
theorem dJ6_bitCount_0f7a4_27 : decode cJ6_bitCount_0f7a4 27 = .ok (.iushr, 1) := by decide +kernel
theorem dJ6_bitCount_0f7a4_28 : decode cJ6_bitCount_0f7a4 28 = .ok (.iadd, 1) := by decide +kernel
theorem dJ6_bitCount_0f7a4_29 : decode cJ6_bitCount_0f7a4 29 = .ok (.ldc_w 267, 3) := by decide +kernel
theorem dJ6_bitCount_0f7a4_32 : decode cJ6_bitCount_0f7a4 32 = .ok (.iand, 1) := by decide +kernel
theorem dJ6_bitCount_0f7a4_33 : decode cJ6_bitCount_0f7a4 33 = .ok (.istore_n 0, 1) := by decide +kernel
theorem dJ6_bitCount_0f7a4_34 : decode cJ6_bitCount_0f7a4 34 = .ok (.iload_n 0, 1) := by decide +kernel
theorem dJ6_bitCount_0f7a4_35 : decode cJ6_bitCount_0f7a4 35 = .ok (.iload_n 0, 1) := by decide +kernel
theorem dJ6_bitCount_0f7a4_36 : decode cJ6_bitCount_0f7a4 36 = .ok (.bipush 8, 2) := by decide +kernel
theorem dJ6_bitCount_0f7a4_38 : decode cJ6_bitCount_0f7a4 38 = .ok (.iushr, 1) := by decide +kernel
theorem dJ6_bitCount_0f7a4_39 : decode cJ6_bitCount_0f7a4 39 = .ok (.iadd, 1) := by decide +kernel
theorem dJ6_bitCount_0f7a4_40 : decode cJ6_bitCount_0f7a4 40 = .ok (.istore_n 0, 1) := by decide +kernel
theorem dJ6_bitCount_0f7a4_41 : decode cJ6_bitCount_0f7a4 41 = .ok (.iload_n 0, 1) := by decide +kernel
theorem dJ6_bitCount_0f7a4_42 : decode cJ6_bitCount_0f7a4 42 = .ok (.iload_n 0, 1) := by decide +kernel
theorem dJ6_bitCount_0f7a4_43 : decode cJ6_bitCount_0f7a4 43 = .ok (.bipush 16, 2) := by decide +kernel
theorem dJ6_bitCount_0f7a4_45 : decode cJ6_bitCount_0f7a4 45 = .ok (.iushr, 1) := by decide +kernel
theorem dJ6_bitCount_0f7a4_46 : decode cJ6_bitCount_0f7a4 46 = .ok (.iadd, 1) := by decide +kernel
theorem dJ6_bitCount_0f7a4_47 : decode cJ6_bitCount_0f7a4 47 = .ok (.istore_n 0, 1) := by decide +kernel
theorem dJ6_bitCount_0f7a4_48 : decode cJ6_bitCount_0f7a4 48 = .ok (.iload_n 0, 1) := by decide +kernel
theorem dJ6_bitCount_0f7a4_49 : decode cJ6_bitCount_0f7a4 49 = .ok (.bipush 63, 2) := by decide +kernel
theorem dJ6_bitCount_0f7a4_51 : decode cJ6_bitCount_0f7a4 51 = .ok (.iand, 1) := by decide +kernel
theorem dJ6_bitCount_0f7a4_52 : decode cJ6_bitCount_0f7a4 52 = .ok (.ireturn, 1) := by decide +kernel
theorem dJ9_max_7cf53_0 : decode cJ9_max_7cf53 0 = .ok (.iload_n 0, 1) := by decide +kernel
theorem dJ9_max_7cf53_1 : decode cJ9_max_7cf53 1 = .ok (.iload_n 1, 1) := by decide +kernel
theorem dJ9_max_7cf53_2 : decode cJ9_max_7cf53 2 = .ok (.if_icmp .lt 7, 3) := by decide +kernel
theorem dJ9_max_7cf53_5 : decode cJ9_max_7cf53 5 = .ok (.iload_n 0, 1) := by decide +kernel
theorem dJ9_max_7cf53_6 : decode cJ9_max_7cf53 6 = .ok (.goto 4, 3) := by decide +kernel
theorem dJ9_max_7cf53_9 : decode cJ9_max_7cf53 9 = .ok (.iload_n 1, 1) := by decide +kernel
theorem dJ9_max_7cf53_10 : decode cJ9_max_7cf53 10 = .ok (.ireturn, 1) := by decide +kernel
theorem dJ9_min_7cf53_0 : decode cJ9_min_7cf53 0 = .ok (.iload_n 0, 1) := by decide +kernel
theorem dJ9_min_7cf53_1 : decode cJ9_min_7cf53 1 = .ok (.iload_n 1, 1) := by decide +kernel
theorem dJ9_min_7cf53_2 : decode cJ9_min_7cf53 2 = .ok (.if_icmp .gt 7, 3) := by decide +kernel
theorem dJ9_min_7cf53_5 : decode cJ9_min_7cf53 5 = .ok (.iload_n 0, 1) := by decide +kernel
theorem dJ9_min_7cf53_6 : decode cJ9_min_7cf53 6 = .ok (.goto 4, 3) := by decide +kernel
theorem dJ9_min_7cf53_9 : decode cJ9_min_7cf53 9 = .ok (.iload_n 1, 1) := by decide +kernel
theorem dJ9_min_7cf53_10 : decode cJ9_min_7cf53 10 = .ok (.ireturn, 1) := by decide +kernel
end
section
theorem dX7_init_0 : decode cX7_init 0 = .ok (.aload_n 0, 1) := by decide +kernel
theorem dX7_init_1 : decode cX7_init 1 = .ok (.invokespecial 1, 3) := by decide +kernel
theorem dX7_init_4 : decode cX7_init 4 = .ok (.aload_n 0, 1) := by decide +kernel
theorem dX7_init_5 : decode cX7_init 5 = .ok (.sipush 318, 3) := by decide +kernel
theorem dX7_init_8 : decode cX7_init 8 = .ok (.newarray .int, 2) := by decide +kernel
theorem dX7_init_10 : decode cX7_init 10 = .ok (.putfield 7, 3) := by decide +kernel
theorem dX7_init_13 : decode cX7_init 13 = .ok (.aload_n 0, 1) := by decide +kernel
theorem dX7_init_14 : decode cX7_init 14 = .ok (.bipush 53, 2) := by decide +kernel
theorem dX7_init_16 : decode cX7_init 16 = .ok (.newarray .int, 2) := by decide +kernel
theorem dX7_init_18 : decode cX7_init 18 = .ok (.putfield 13, 3) := by decide +kernel
theorem dX7_init_21 : decode cX7_init 21 = .ok (.aload_n 0, 1) := by decide +kernel
theorem dX7_init_22 : decode cX7_init 22 = .ok (.sipush 160, 3) := by decide +kernel
theorem dX7_init_25 : decode cX7_init 25 = .ok (.newarray .int, 2) := by decide +kernel
theorem dX7_init_27 : decode cX7_init 27 = .ok (.putfield 16, 3) := by decide +kernel
theorem dX7_init_30 : decode cX7_init 30 = .ok (.aload_n 0, 1) := by decide +kernel
theorem dX7_init_31 : decode cX7_init 31 = .ok (.bipush 8, 2) := by decide +kernel
theorem dX7_init_33 : decode cX7_init 33 = .ok (.newarray .int, 2) := by decide +kernel
theorem dX7_init_35 : decode cX7_init 35 = .ok (.dup, 1) := by decide +kernel
theorem dX7_init_36 : decode cX7_init 36 = .ok (.iconst 0, 1) := by decide +kernel
theorem dX7_init_37 : decode cX7_init 37 = .ok (.iconst 0, 1) := by decide +kernel
theorem dX7_init_38 : decode cX7_init 38 = .ok (.iastore, 1) := by decide +kernel
theorem dX7_init_39 : decode cX7_init 39 = .ok (.dup, 1) := by decide +kernel
theorem dX7_init_40 : decode cX7_init 40 = .ok (.iconst 1, 1) := by decide +kernel
theorem dX7_init_41 : decode cX7_init 41 = .ok (.iconst 5, 1) := by decide +kernel
theorem dX7_init_42 : decode cX7_init 42 = .ok (.iastore, 1) := by decide +kernel
theorem dX7_init_43 : decode cX7_init 43 = .ok (.dup, 1) := by decide +kernel
theorem dX7_init_44 : decode cX7_init 44 = .ok (.iconst 2, 1) := by decide +kernel
theorem dX7_init_45 : decode cX7_init 45 = .ok (.bipush 8, 2) := by decide +kernel
theorem dX7_init_47 : decode cX7_init 47 = .ok (.iastore, 1) := by decide +kernel
theorem dX7_init_48 : decode cX7_init 48 = .ok (.dup, 1) := by decide +kernel
theorem dX7_init_49 : decode cX7_init 49 = .ok (.iconst 3, 1) := by decide +kernel
theorem dX7_init_50 : decode cX7_init 50 = .ok (.bipush 13, 2) := by decide +kernel
theorem dX7_init_52 : decode cX7_init 52 = .ok (.iastore, 1) := by decide +kernel
theorem dX7_init_53 : decode cX7_init 53 = .ok (.dup, 1) := by decide +kernel
theorem dX7_init_54 : decode cX7_init 54 = .ok (.iconst 4, 1) := by decide +kernel
theorem dX7_init_55 : decode cX7_init 55 = .ok (.bipush 18, 2) := by decide +kernel
theorem dX7_init_57 : decode cX7_init 57 = .ok (.iastore, 1) := by decide +kernel
theorem dX7_init_58 : decode cX7_init 58 = .ok (.dup, 1) := by decide +kernel
theorem dX7_init_59 : decode cX7_init 59 = .ok (.iconst 5, 1) := by decide +kernel
theorem dX7_init_60 : decode cX7_init 60 = .ok (.bipush 22, 2) := by decide +kernel
theorem dX7_init_62 : decode cX7_init 62 = .ok (.iastore, 1) := by decide +kernel
theorem dX7_init_63 : decode cX7_init 63 = .ok (.dup, 1) := by decide +kernel
theorem dX7_init_64 : decode cX7_init 64 = .ok (.bipush 6, 2) := by decide +kernel
theorem dX7_init_66 : decode cX7_init 66 = .ok (.bipush 26, 2) := by decide +kernel
theorem dX7_init_68 : decode cX7_init 68 = .ok (.iastore, 1) := by decide +kernel
theorem dX7_init_69 : decode cX7_init 69 = .ok (.dup, 1) := by decide +kernel
theorem dX7_init_70 : decode cX7_init 70 = .ok (.bipush 7, 2) := by decide +kernel
theorem dX7_init_72 : decode cX7_init 72 = .ok (.bipush 30, 2) := by decide +kernel
theorem dX7_init_74 : decode cX7_init 74 = .ok (.iastore, 1) := by decide +kernel
theorem dX7_init_75 : decode cX7_init 75 = .ok (.putfield 19, 3) := by decide +kernel
theorem dX7_init_78 : decode cX7_init 78 = .ok (.aload_n 0, 1) := by decide +kernel
theorem dX7_init_79 : decode cX7_init 79 = .ok (.bipush 30, 2) := by decide +kernel
theorem dX7_init_81 : decode cX7_init 81 = .ok (.newarray .int, 2) := by decide +kernel
theorem dX7_init_83 : decode cX7_init 83 = .ok (.dup, 1) := by decide +kernel
theorem dX7_init_84 : decode cX7_init 84 = .ok (.iconst 0, 1) := by decide +kernel
theorem dX7_init_85 : decode cX7_init 85 = .ok (.bipush 112, 2) := by decide +kernel
theorem dX7_init_87 : decode cX7_init 87 = .ok (.iastore, 1) := by decide +kernel
theorem dX7_init_88 : decode cX7_init 88 = .ok (.dup, 1) := by decide +kernel
theorem dX7_init_89 : decode cX7_init 89 = .ok (.iconst 1, 1) := by decide +kernel
theorem dX7_init_90 : decode cX7_init 90 = .ok (.bipush 108, 2) := by decide +kernel
theorem dX7_init_92 : decode cX7_init 92 = .ok (.iastore, 1) := by decide +kernel
theorem dX7_init_93 : decode cX7_init 93 = .ok (.dup, 1) := by decide +kernel
theorem dX7_init_94 : decode cX7_init 94 = .ok (.iconst 2, 1) := by decide +kernel
theorem dX7_init_95 : decode cX7_init 95 = .ok (.bipush 97, 2) := by decide +kernel
theorem dX7_init_97 : decode cX7_init 97 = .ok (.iastore, 1) := by decide +kernel
theorem dX7_init_98 : decode cX7_init 98 = .ok (.dup, 1) := by decide +kernel
theorem dX7_init_99 : decode cX7_init 99 = .ok (.iconst 3, 1) := by decide +kernel
theorem dX7_init_100 : decode cX7_init 100 = .ok (.bipush 105, 2) := by decide +kernel
theorem dX7_init_102 : decode cX7_init 102 = .ok (.iastore, 1) := by decide +kernel
theorem dX7_init_103 : decode cX7_init 103 = .ok (.dup, 1) := by decide +kernel
theorem dX7_init_104 : decode cX7_init 104 = .ok (.iconst 4, 1) := by decide +kernel
theorem dX7_init_105 : decode cX7_init 105 = .ok (.bipush 110, 2) := by decide +kernel
theorem dX7_init_107 : decode cX7_init 107 = .ok (.iastore, 1) := by decide +kernel
theorem dX7_init_108 : decode cX7_init 108 = .ok (.dup, 1) := by decide +kernel
theorem dX7_init_109 : decode cX7_init 109 = .ok (.iconst 5, 1) := by decide +kernel
theorem dX7_init_110 : decode cX7_init 110 = .ok (.bipush 115, 2) := by decide +kernel
theorem dX7_init_112 : decode cX7_init 112 = .ok (.iastore, 1) := by decide +kernel
theorem dX7_init_113 : decode cX7_init 113 = .ok (.dup, 1) := by decide +kernel
theorem dX7_init_114 : decode cX7_init 114 = .ok (.bipush 6, 2) := by decide +kernel
theorem dX7_init_116 : decode cX7_init 116 = .ok (.bipush 104, 2) := by decide +kernel
theorem dX7_init_118 : decode cX7_init 118 = .ok (.iastore, 1) := by decide +kernel
theorem dX7_init_119 : decode cX7_init 119 = .ok (.dup, 1) := by decide +kernel
theorem dX7_init_120 : decode cX7_init 120 = .ok (.bipush 7, 2) := by decide +kernel
theorem dX7_init_122 : decode cX7_init 122 = .ok (.bipush 121, 2) := by decide +kernel
theorem dX7_init_124 : decode cX7_init 124 = .ok (.iastore, 1) := by decide +kernel
theorem dX7_init_125 : decode cX7_init 125 = .ok (.dup, 1) := by decide +kernel
theorem dX7_init_126 : decode cX7_init 126 = .ok (.bipush 8, 2) := by decide +kernel
theorem dX7_init_128 : decode cX7_init 128 = .ok (.bipush 115, 2) := by decide +kernel
theorem dX7_init_130 : decode cX7_init 130 = .ok (.iastore, 1) := by decide +kernel
theorem dX7_init_131 : decode cX7_init 131 = .ok (.dup, 1) := by decide +kernel
theorem dX7_init_132 : decode cX7_init 132 = .ok (.bipush 9, 2) := by decide +kernel
theorem dX7_init_134 : decode cX7_init 134 = .ok (.bipush 117, 2) := by decide +kernel
theorem dX7_init_136 : decode cX7_init 136 = .ok (.iastore, 1) := by decide +kernel
theorem dX7_init_137 : decode cX7_init 137 = .ok (.dup, 1) := by decide +kernel
theorem dX7_init_138 : decode cX7_init 138 = .ok (.bipush 10, 2) := by decide +kernel
theorem dX7_init_140 : decode cX7_init 140 = .ok (.bipush 108, 2) := by decide +kernel
theorem dX7_init_142 : decode cX7_init 142 = .ok (.iastore, 1) := by decide +kernel
theorem dX7_init_143 : decode cX7_init 143 = .ok (.dup, 1) := by decide +kernel
theorem dX7_init_144 : decode cX7_init 144 = .ok (.bipush 11, 2) := by decide +kernel
theorem dX7_init_146 : decode cX7_init 146 = .ok (.bipush 107, 2) := by decide +kernel
theorem dX7_init_148 : decode cX7_init 148 = .ok (.iastore, 1) := by decide +kernel
theorem dX7_init_149 : decode cX7_init 149 = .ok (.dup, 1) := by decide +kernel
theorem dX7_init_150 : decode cX7_init 150 = .ok (.bipush 12, 2) := by decide +kernel
theorem dX7_init_152 : decode cX7_init 152 = .ok (.bipush 121, 2) := by decide +kernel
theorem dX7_init_154 : decode cX7_init 154 = .ok (.iastore, 1) := by decide +kernel
theorem dX7_init_155 : decode cX7_init 155 = .ok (.dup, 1) := by decide +kernel
theorem dX7_init_156 : decode cX7_init 156 = .ok (.bipush 13, 2) := by decide +kernel
theorem dX7_init_158 : decode cX7_init 158 = .ok (.bipush 102, 2) := by decide +kernel
theorem dX7_init_160 : decode cX7_init 160 = .ok (.iastore, 1) := by decide +kernel
theorem dX7_init_161 : decode cX7_init 161 = .ok (.dup, 1) := by decide +kernel
theorem dX7_init_162 : decode cX7_init 162 = .ok (.bipush 14, 2) := by decide +kernel
theorem dX7_init_164 : decode cX7_init 164 = .ok (.bipush 97, 2) := by decide +kernel
theorem dX7_init_166 : decode cX7_init 166 = .ok (.iastore, 1) := by decide +kernel
theorem dX7_init_167 : decode cX7_init 167 = .ok (.dup, 1) := by decide +kernel
theorem dX7_init_168 : decode cX7_init 168 = .ok (.bipush 15, 2) := by decide +kernel
theorem dX7_init_170 : decode cX7_init 170 = .ok (.bipush 105, 2) := by decide +kernel
theorem dX7_init_172 : decode cX7_init 172 = .ok (.iastore, 1) := by decide +kernel
theorem dX7_init_173 : decode cX7_init 173 = .ok (.dup, 1) := by decide +kernel
theorem dX7_init_174 : decode cX7_init 174 = .ok (.bipush 16, 2) := by decide +kernel
theorem dX7_init_176 : decode cX7_init 176 = .ok (.bipush 110, 2) := by decide +kernel
theorem dX7_init_178 : decode cX7_init 178 = .ok (.iastore, 1) := by decide +kernel
theorem dX7_init_179 : decode cX7_init 179 = .ok (.dup, 1) := by decide +kernel
theorem dX7_init_180 : decode cX7_init 180 = .ok (.bipush 17, 2) := by decide +kernel
theorem dX7_init_182 : decode cX7_init 182 = .ok (.bipush 116, 2) := by decide +kernel
theorem dX7_init_184 : decode cX7_init 184 = .ok (.iastore, 1) := by decide +kernel
theorem dX7_init_185 : decode cX7_init 185 = .ok (.dup, 1) := by decide +kernel
theorem dX7_init_186 : decode cX7_init 186 = .ok (.bipush 18, 2) := by decide +kernel
theorem dX7_init_188 : decode cX7_init 188 = .ok (.bipush 102, 2) := by decide +kernel
theorem dX7_init_190 : decode cX7_init 190 = .ok (.iastore, 1) := by decide +kernel
theorem dX7_init_191 : decode cX7_init 191 = .ok (.dup, 1) := by decide +kernel
theorem dX7_init_192 : decode cX7_init 192 = .ok (.bipush 19, 2) := by decide +kernel
theorem dX7_init_194 : decode cX7_init 194 = .ok (.bipush 108, 2) := by decide +kernel
theorem dX7_init_196 : decode cX7_init 196 = .ok (.iastore, 1) := by decide +kernel
theorem dX7_init_197 : decode cX7_init 197 = .ok (.dup, 1) := by decide +kernel
theorem dX7_init_198 : decode cX7_init 198 = .ok (.bipush 20, 2) := by decide +kernel
theorem dX7_init_200 : decode cX7_init 200 = .ok (.bipush 111, 2) := by decide +kernel
theorem dX7_init_202 : decode cX7_init 202 = .ok (.iastore, 1) := by decide +kernel
theorem dX7_init_203 : decode cX7_init 203 = .ok (.dup, 1) := by decide +kernel
theorem dX7_init_204 : decode cX7_init 204 = .ok (.bipush 21, 2) := by decide +kernel
theorem dX7_init_206 : decode cX7_init 206 = .ok (.bipush 119, 2) := by decide +kernel
theorem dX7_init_208 : decode cX7_init 208 = .ok (.iastore, 1) := by decide +kernel
theorem dX7_init_209 : decode cX7_init 209 = .ok (.dup, 1) := by decide +kernel
theorem dX7_init_210 : decode cX7_init 210 = .ok (.bipush 22, 2) := by decide +kernel
theorem dX7_init_212 : decode cX7_init 212 = .ok (.bipush 99, 2) := by decide +kernel
theorem dX7_init_214 : decode cX7_init 214 = .ok (.iastore, 1) := by decide +kernel
theorem dX7_init_215 : decode cX7_init 215 = .ok (.dup, 1) := by decide +kernel
theorem dX7_init_216 : decode cX7_init 216 = .ok (.bipush 23, 2) := by decide +kernel
theorem dX7_init_218 : decode cX7_init 218 = .ok (.bipush 97, 2) := by decide +kernel
theorem dX7_init_220 : decode cX7_init 220 = .ok (.iastore, 1) := by decide +kernel
theorem dX7_init_221 : decode cX7_init 221 = .ok (.dup, 1) := by decide +kernel
theorem dX7_init_222 : decode cX7_init 222 = .ok (.bipush 24, 2) := by decide +kernel
theorem dX7_init_224 : decode cX7_init 224 = .ok (.bipush 108, 2) := by decide +kernel
theorem dX7_init_226 : decode cX7_init 226 = .ok (.iastore, 1) := by decide +kernel
theorem dX7_init_227 : decode cX7_init 227 = .ok (.dup, 1) := by decide +kernel
theorem dX7_init_228 : decode cX7_init 228 = .ok (.bipush 25, 2) := by decide +kernel
theorem dX7_init_230 : decode cX7_init 230 = .ok (.bipush 109, 2) := by decide +kernel
theorem dX7_init_232 : decode cX7_init 232 = .ok (.iastore, 1) := by decide +kernel
theorem dX7_init_233 : decode cX7_init 233 = .ok (.dup, 1) := by decide +kernel
theorem dX7_init_234 : decode cX7_init 234 = .ok (.bipush 26, 2) := by decide +kernel
theorem dX7_init_236 : decode cX7_init 236 = .ok (.bipush 104, 2) := by decide +kernel
theorem dX7_init_238 : decode cX7_init 238 = .ok (.iastore, 1) := by decide +kernel
theorem dX7_init_239 : decode cX7_init 239 = .ok (.dup, 1) := by decide +kernel
theorem dX7_init_240 : decode cX7_init 240 = .ok (.bipush 27, 2) := by decide +kernel
theorem dX7_init_242 : decode cX7_init 242 = .ok (.bipush 111, 2) := by decide +kernel
theorem dX7_init_244 : decode cX7_init 244 = .ok (.iastore, 1) := by decide +kernel
theorem dX7_init_245 : decode cX7_init 245 = .ok (.dup, 1) := by decide +kernel
theorem dX7_init_246 : decode cX7_init 246 = .ok (.bipush 28, 2) := by decide +kernel
theorem dX7_init_248 : decode cX7_init 248 = .ok (.bipush 117, 2) := by decide +kernel
theorem dX7_init_250 : decode cX7_init 250 = .ok (.iastore, 1) := by decide +kernel
theorem dX7_init_251 : decode cX7_init 251 = .ok (.dup, 1) := by decide +kernel
theorem dX7_init_252 : decode cX7_init 252 = .ok (.bipush 29, 2) := by decide +kernel
theorem dX7_init_254 : decode cX7_init 254 = .ok (.bipush 114, 2) := by decide +kernel
theorem dX7_init_256 : decode cX7_init 256 = .ok (.iastore, 1) := by decide +kernel
theorem dX7_init_257 : decode cX7_init 257 = .ok (.putfield 22, 3) := by decide +kernel
theorem dX7_init_260 : decode cX7_init 260 = .ok (.aload_n 0, 1) := by decide +kernel
theorem dX7_init_261 : decode cX7_init 261 = .ok (.iconst 4, 1) := by decide +kernel
theorem dX7_init_262 : decode cX7_init 262 = .ok (.newarray .int, 2) := by decide +kernel
theorem dX7_init_264 : decode cX7_init 264 = .ok (.putfield 25, 3) := by decide +kernel
theorem dX7_init_267 : decode cX7_init 267 = .ok (.aload_n 0, 1) := by decide +kernel
theorem dX7_init_268 : decode cX7_init 268 = .ok (.iconst 4, 1) := by decide +kernel
theorem dX7_init_269 : decode cX7_init 269 = .ok (.newarray .int, 2) := by decide +kernel
theorem dX7_init_271 : decode cX7_init 271 = .ok (.putfield 28, 3) := by decide +kernel
theorem dX7_init_274 : decode cX7_init 274 = .ok (.aload_n 0, 1) := by decide +kernel
theorem dX7_init_275 : decode cX7_init 275 = .ok (.iconst 4, 1) := by decide +kernel
theorem dX7_init_276 : decode cX7_init 276 = .ok (.newarray .int, 2) := by decide +kernel
theorem dX7_init_278 : decode cX7_init 278 = .ok (.putfield 31, 3) := by decide +kernel
theorem dX7_init_281 : decode cX7_init 281 = .ok (.aload_n 0, 1) := by decide +kernel
theorem dX7_init_282 : decode cX7_init 282 = .ok (.bipush 18, 2) := by decide +kernel
theorem dX7_init_284 : decode cX7_init 284 = .ok (.newarray .int, 2) := by decide +kernel
theorem dX7_init_286 : decode cX7_init 286 = .ok (.putfield 34, 3) := by decide +kernel
theorem dX7_init_289 : decode cX7_init 289 = .ok (.aload_n 0, 1) := by decide +kernel
theorem dX7_init_290 : decode cX7_init 290 = .ok (.sipush 410, 3) := by decide +kernel
theorem dX7_init_293 : decode cX7_init 293 = .ok (.newarray .int, 2) := by decide +kernel
theorem dX7_init_295 : decode cX7_init 295 = .ok (.putfield 37, 3) := by decide +kernel
theorem dX7_init_298 : decode cX7_init 298 = .ok (.aload_n 0, 1) := by decide +kernel
theorem dX7_init_299 : decode cX7_init 299 = .ok (.iconst 2, 1) := by decide +kernel
theorem dX7_init_300 : decode cX7_init 300 = .ok (.newarray .boolean, 2) := by decide +kernel
theorem dX7_init_302 : decode cX7_init 302 = .ok (.putfield 40, 3) := by decide +kernel
theorem dX7_init_305 : decode cX7_init 305 = .ok (.aload_n 0, 1) := by decide +kernel
theorem dX7_init_306 : decode cX7_init 306 = .ok (.iconst 4, 1) := by decide +kernel
theorem dX7_init_307 : decode cX7_init 307 = .ok (.newarray .int, 2) := by decide +kernel
theorem dX7_init_309 : decode cX7_init 309 = .ok (.dup, 1) := by decide +kernel
theorem dX7_init_310 : decode cX7_init 310 = .ok (.iconst 0, 1) := by decide +kernel
theorem dX7_init_311 : decode cX7_init 311 = .ok (.bipush (-4), 2) := by decide +kernel
theorem dX7_init_313 : decode cX7_init 313 = .ok (.iastore, 1) := by decide +kernel
theorem dX7_init_314 : decode cX7_init 314 = .ok (.dup, 1) := by decide +kernel
theorem dX7_init_315 : decode cX7_init 315 = .ok (.iconst 1, 1) := by decide +kernel
theorem dX7_init_316 : decode cX7_init 316 = .ok (.bipush (-4), 2) := by decide +kernel
theorem dX7_init_318 : decode cX7_init 318 = .ok (.iastore, 1) := by decide +kernel
theorem dX7_init_319 : decode cX7_init 319 = .ok (.dup, 1) := by decide +kernel
theorem dX7_init_320 : decode cX7_init 320 = .ok (.iconst 2, 1) := by decide +kernel
theorem dX7_init_321 : decode cX7_init 321 = .ok (.bipush (-4), 2) := by decide +kernel
theorem dX7_init_323 : decode cX7_init 323 = .ok (.iastore, 1) := by decide +kernel
theorem dX7_init_324 : decode cX7_init 324 = .ok (.dup, 1) := by decide +kernel
theorem dX7_init_325 : decode cX7_init 325 = .ok (.iconst 3, 1) := by decide +kernel
theorem dX7_init_326 : decode cX7_init 326 = .ok (.bipush (-4), 2) := by decide +kernel
theorem dX7_init_328 : decode cX7_init 328 = .ok (.iastore, 1) := by decide +kernel
theorem dX7_init_329 : decode cX7_init 329 = .ok (.putfield 44, 3) := by decide +kernel
theorem dX7_init_332 : decode cX7_init 332 = .ok (.aload_n 0, 1) := by decide +kernel
theorem dX7_init_333 : decode cX7_init 333 = .ok (.iconst 4, 1) := by decide +kernel
theorem dX7_init_334 : decode cX7_init 334 = .ok (.newarray .int, 2) := by decide +kernel
theorem dX7_init_336 : decode cX7_init 336 = .ok (.putfield 47, 3) := by decide +kernel
theorem dX7_init_339 : decode cX7_init 339 = .ok (.aload_n 0, 1) := by decide +kernel
theorem dX7_init_340 : decode cX7_init 340 = .ok (.sipush 160, 3) := by decide +kernel
theorem dX7_init_343 : decode cX7_init 343 = .ok (.newarray .int, 2) := by decide +kernel
theorem dX7_init_345 : decode cX7_init 345 = .ok (.putfield 50, 3) := by decide +kernel
theorem dX7_init_348 : decode cX7_init 348 = .ok (.return_, 1) := by decide +kernel
theorem dX7_in_0 : decode cX7_in 0 = .ok (.lload_n 0, 1) := by decide +kernel
theorem dX7_in_1 : decode cX7_in 1 = .ok (.lload_n 2, 1) := by decide +kernel
theorem dX7_in_2 : decode cX7_in 2 = .ok (.lcmp, 1) := by decide +kernel
theorem dX7_in_3 : decode cX7_in 3 = .ok (.ifCond .lt 14, 3) := by decide +kernel
theorem dX7_in_6 : decode cX7_in 6 = .ok (.lload_n 0, 1) := by decide +kernel
theorem dX7_in_7 : decode cX7_in 7 = .ok (.lload 4, 2) := by decide +kernel
theorem dX7_in_9 : decode cX7_in 9 = .ok (.lcmp, 1) := by decide +kernel
theorem dX7_in_10 : decode cX7_in 10 = .ok (.ifCond .gt 7, 3) := by decide +kernel
theorem dX7_in_13 : decode cX7_in 13 = .ok (.iconst 1, 1) := by decide +kernel
theorem dX7_in_14 : decode cX7_in 14 = .ok (.goto 4, 3) := by decide +kernel
theorem dX7_in_17 : decode cX7_in 17 = .ok (.iconst 0, 1) := by decide +kernel
theorem dX7_in_18 : decode cX7_in 18 = .ok (.ireturn, 1) := by decide +kernel
theorem dX7_feed_0 : decode cX7_feed 0 = .ok (.iload_n 1, 1) := by decide +kernel
theorem dX7_feed_1 : decode cX7_feed 1 = .ok (.i2l, 1) := by decide +kernel
theorem dX7_feed_2 : decode cX7_feed 2 = .ok (.lconst 0, 1) := by decide +kernel
theorem dX7_feed_3 : decode cX7_feed 3 = .ok (.ldc2_w 53, 3) := by decide +kernel
theorem dX7_feed_6 : decode cX7_feed 6 = .ok (.invokestatic 55, 3) := by decide +kernel
theorem dX7_feed_9 : decode cX7_feed 9 = .ok (.ifCond .ne 5, 3) := by decide +kernel
theorem dX7_feed_12 : decode cX7_feed 12 = .ok (.iconst (-1), 1) := by decide +kernel
theorem dX7_feed_13 : decode cX7_feed 13 = .ok (.ireturn, 1) := by decide +kernel
theorem dX7_feed_14 : decode cX7_feed 14 = .ok (.aload_n 0, 1) := by decide +kernel
theorem dX7_feed_15 : decode cX7_feed 15 = .ok (.getfield 59, 3) := by decide +kernel
theorem dX7_feed_18 : decode cX7_feed 18 = .ok (.sipush 160, 3) := by decide +kernel
theorem dX7_feed_21 : decode cX7_feed 21 = .ok (.if_icmp .ne 6, 3) := by decide +kernel
theorem dX7_feed_24 : decode cX7_feed 24 = .ok (.bipush (-3), 2) := by decide +kernel
theorem dX7_feed_26 : decode cX7_feed 26 = .ok (.ireturn, 1) := by decide +kernel
theorem dX7_feed_27 : decode cX7_feed 27 = .ok (.aload_n 0, 1) := by decide +kernel
theorem dX7_feed_28 : decode cX7_feed 28 = .ok (.getfield 16, 3) := by decide +kernel
theorem dX7_feed_31 : decode cX7_feed 31 = .ok (.aload_n 0, 1) := by decide +kernel
theorem dX7_feed_32 : decode cX7_feed 32 = .ok (.getfield 59, 3) := by decide +kernel
theorem dX7_feed_35 : decode cX7_feed 35 = .ok (.iload_n 1, 1) := by decide +kernel
theorem dX7_feed_36 : decode cX7_feed 36 = .ok (.iastore, 1) := by decide +kernel
theorem dX7_feed_37 : decode cX7_feed 37 = .ok (.aload_n 0, 1) := by decide +kernel
theorem dX7_feed_38 : decode cX7_feed 38 = .ok (.dup, 1) := by decide +kernel
theorem dX7_feed_39 : decode cX7_feed 39 = .ok (.getfield 59, 3) := by decide +kernel
theorem dX7_feed_42 : decode cX7_feed 42 = .ok (.iconst 1, 1) := by decide +kernel
theorem dX7_feed_43 : decode cX7_feed 43 = .ok (.iadd, 1) := by decide +kernel
theorem dX7_feed_44 : decode cX7_feed 44 = .ok (.putfield 59, 3) := by decide +kernel
theorem dX7_feed_47 : decode cX7_feed 47 = .ok (.aload_n 0, 1) := by decide +kernel
theorem dX7_feed_48 : decode cX7_feed 48 = .ok (.getfield 59, 3) := by decide +kernel
theorem dX7_feed_51 : decode cX7_feed 51 = .ok (.ireturn, 1) := by decide +kernel
theorem dX7_end_0 : decode cX7_end 0 = .ok (.iload_n 1, 1) := by decide +kernel
theorem dX7_end_1 : decode cX7_end 1 = .ok (.i2l, 1) := by decide +kernel
theorem dX7_end_2 : decode cX7_end 2 = .ok (.lconst 0, 1) := by decide +kernel
theorem dX7_end_3 : decode cX7_end 3 = .ok (.aload_n 0, 1) := by decide +kernel
theorem dX7_end_4 : decode cX7_end 4 = .ok (.getfield 59, 3) := by decide +kernel
theorem dX7_end_7 : decode cX7_end 7 = .ok (.i2l, 1) := by decide +kernel
theorem dX7_end_8 : decode cX7_end 8 = .ok (.invokestatic 55, 3) := by decide +kernel
theorem dX7_end_11 : decode cX7_end 11 = .ok (.ifCond .ne 5, 3) := by decide +kernel
theorem dX7_end_14 : decode cX7_end 14 = .ok (.iconst (-1), 1) := by decide +kernel
theorem dX7_end_15 : decode cX7_end 15 = .ok (.ireturn, 1) := by decide +kernel
theorem dX7_end_16 : decode cX7_end 16 = .ok (.aload_n 0, 1) := by decide +kernel
theorem dX7_end_17 : decode cX7_end 17 = .ok (.getfield 59, 3) := by decide +kernel
theorem dX7_end_20 : decode cX7_end 20 = .ok (.istore_n 2, 1) := by decide +kernel
theorem dX7_end_21 : decode cX7_end 21 = .ok (.aload_n 0, 1) := by decide +kernel
theorem dX7_end_22 : decode cX7_end 22 = .ok (.iload_n 1, 1) := by decide +kernel
theorem dX7_end_23 : decode cX7_end 23 = .ok (.putfield 59, 3) := by decide +kernel
theorem dX7_end_26 : decode cX7_end 26 = .ok (.iload_n 2, 1) := by decide +kernel
theorem dX7_end_27 : decode cX7_end 27 = .ok (.ireturn, 1) := by decide +kernel
theorem dX7_byteAt_0 : decode cX7_byteAt 0 = .ok (.iload_n 1, 1) := by decide +kernel
theorem dX7_byteAt_1 : decode cX7_byteAt 1 = .ok (.aload_n 0, 1) := by decide +kernel
theorem dX7_byteAt_2 : decode cX7_byteAt 2 = .ok (.getfield 59, 3) := by decide +kernel
theorem dX7_byteAt_5 : decode cX7_byteAt 5 = .ok (.if_icmp .ge 12, 3) := by decide +kernel
theorem dX7_byteAt_8 : decode cX7_byteAt 8 = .ok (.aload_n 0, 1) := by decide +kernel
theorem dX7_byteAt_9 : decode cX7_byteAt 9 = .ok (.getfield 16, 3) := by decide +kernel
theorem dX7_byteAt_12 : decode cX7_byteAt 12 = .ok (.iload_n 1, 1) := by decide +kernel
theorem dX7_byteAt_13 : decode cX7_byteAt 13 = .ok (.iaload, 1) := by decide +kernel
theorem dX7_byteAt_14 : decode cX7_byteAt 14 = .ok (.goto 5, 3) := by decide +kernel
theorem dX7_byteAt_17 : decode cX7_byteAt 17 = .ok (.bipush (-4), 2) := by decide +kernel
theorem dX7_byteAt_19 : decode cX7_byteAt 19 = .ok (.ireturn, 1) := by decide +kernel
theorem dX7_fails_0 : decode cX7_fails 0 = .ok (.aload_n 0, 1) := by decide +kernel
theorem dX7_fails_1 : decode cX7_fails 1 = .ok (.getfield 63, 3) := by decide +kernel
theorem dX7_fails_4 : decode cX7_fails 4 = .ok (.ifCond .ne 16, 3) := by decide +kernel
theorem dX7_fails_7 : decode cX7_fails 7 = .ok (.aload_n 0, 1) := by decide +kernel
theorem dX7_fails_8 : decode cX7_fails 8 = .ok (.iload_n 1, 1) := by decide +kernel
theorem dX7_fails_9 : decode cX7_fails 9 = .ok (.putfield 63, 3) := by decide +kernel
theorem dX7_fails_12 : decode cX7_fails 12 = .ok (.aload_n 0, 1) := by decide +kernel
theorem dX7_fails_13 : decode cX7_fails 13 = .ok (.aload_n 0, 1) := by decide +kernel
theorem dX7_fails_14 : decode cX7_fails 14 = .ok (.getfield 66, 3) := by decide +kernel
theorem dX7_fails_17 : decode cX7_fails 17 = .ok (.putfield 69, 3) := by decide +kernel
theorem dX7_fails_20 : decode cX7_fails 20 = .ok (.return_, 1) := by decide +kernel
theorem dX7_nameHere_0 : decode cX7_nameHere 0 = .ok (.iconst 0, 1) := by decide +kernel
theorem dX7_nameHere_1 : decode cX7_nameHere 1 = .ok (.istore_n 1, 1) := by decide +kernel
theorem dX7_nameHere_2 : decode cX7_nameHere 2 = .ok (.iload_n 1, 1) := by decide +kernel
theorem dX7_nameHere_3 : decode cX7_nameHere 3 = .ok (.bipush 7, 2) := by decide +kernel
theorem dX7_nameHere_5 : decode cX7_nameHere 5 = .ok (.if_icmp .ge 113, 3) := by decide +kernel
theorem dX7_nameHere_8 : decode cX7_nameHere 8 = .ok (.aload_n 0, 1) := by decide +kernel
theorem dX7_nameHere_9 : decode cX7_nameHere 9 = .ok (.getfield 72, 3) := by decide +kernel
theorem dX7_nameHere_12 : decode cX7_nameHere 12 = .ok (.iconst 1, 1) := by decide +kernel
theorem dX7_nameHere_13 : decode cX7_nameHere 13 = .ok (.if_icmp .ne 105, 3) := by decide +kernel
theorem dX7_nameHere_16 : decode cX7_nameHere 16 = .ok (.aload_n 0, 1) := by decide +kernel
theorem dX7_nameHere_17 : decode cX7_nameHere 17 = .ok (.getfield 75, 3) := by decide +kernel
theorem dX7_nameHere_20 : decode cX7_nameHere 20 = .ok (.aload_n 0, 1) := by decide +kernel
theorem dX7_nameHere_21 : decode cX7_nameHere 21 = .ok (.getfield 66, 3) := by decide +kernel
theorem dX7_nameHere_24 : decode cX7_nameHere 24 = .ok (.isub, 1) := by decide +kernel
theorem dX7_nameHere_25 : decode cX7_nameHere 25 = .ok (.aload_n 0, 1) := by decide +kernel
theorem dX7_nameHere_26 : decode cX7_nameHere 26 = .ok (.getfield 19, 3) := by decide +kernel
theorem dX7_nameHere_29 : decode cX7_nameHere 29 = .ok (.iload_n 1, 1) := by decide +kernel
theorem dX7_nameHere_30 : decode cX7_nameHere 30 = .ok (.iconst 1, 1) := by decide +kernel
theorem dX7_nameHere_31 : decode cX7_nameHere 31 = .ok (.iadd, 1) := by decide +kernel
theorem dX7_nameHere_32 : decode cX7_nameHere 32 = .ok (.iaload, 1) := by decide +kernel
theorem dX7_nameHere_33 : decode cX7_nameHere 33 = .ok (.aload_n 0, 1) := by decide +kernel
theorem dX7_nameHere_34 : decode cX7_nameHere 34 = .ok (.getfield 19, 3) := by decide +kernel
theorem dX7_nameHere_37 : decode cX7_nameHere 37 = .ok (.iload_n 1, 1) := by decide +kernel
theorem dX7_nameHere_38 : decode cX7_nameHere 38 = .ok (.iaload, 1) := by decide +kernel
theorem dX7_nameHere_39 : decode cX7_nameHere 39 = .ok (.isub, 1) := by decide +kernel
theorem dX7_nameHere_40 : decode cX7_nameHere 40 = .ok (.if_icmp .ne 7, 3) := by decide +kernel
theorem dX7_nameHere_43 : decode cX7_nameHere 43 = .ok (.iconst 1, 1) := by decide +kernel
theorem dX7_nameHere_44 : decode cX7_nameHere 44 = .ok (.goto 4, 3) := by decide +kernel
theorem dX7_nameHere_47 : decode cX7_nameHere 47 = .ok (.iconst 0, 1) := by decide +kernel
theorem dX7_nameHere_48 : decode cX7_nameHere 48 = .ok (.istore_n 2, 1) := by decide +kernel
theorem dX7_nameHere_49 : decode cX7_nameHere 49 = .ok (.iconst 0, 1) := by decide +kernel
theorem dX7_nameHere_50 : decode cX7_nameHere 50 = .ok (.istore_n 3, 1) := by decide +kernel
theorem dX7_nameHere_51 : decode cX7_nameHere 51 = .ok (.iload_n 2, 1) := by decide +kernel
theorem dX7_nameHere_52 : decode cX7_nameHere 52 = .ok (.ifCond .eq 54, 3) := by decide +kernel
theorem dX7_nameHere_55 : decode cX7_nameHere 55 = .ok (.iload_n 3, 1) := by decide +kernel
theorem dX7_nameHere_56 : decode cX7_nameHere 56 = .ok (.aload_n 0, 1) := by decide +kernel
theorem dX7_nameHere_57 : decode cX7_nameHere 57 = .ok (.getfield 75, 3) := by decide +kernel
theorem dX7_nameHere_60 : decode cX7_nameHere 60 = .ok (.aload_n 0, 1) := by decide +kernel
theorem dX7_nameHere_61 : decode cX7_nameHere 61 = .ok (.getfield 66, 3) := by decide +kernel
theorem dX7_nameHere_64 : decode cX7_nameHere 64 = .ok (.isub, 1) := by decide +kernel
theorem dX7_nameHere_65 : decode cX7_nameHere 65 = .ok (.if_icmp .ge 41, 3) := by decide +kernel
theorem dX7_nameHere_68 : decode cX7_nameHere 68 = .ok (.aload_n 0, 1) := by decide +kernel
theorem dX7_nameHere_69 : decode cX7_nameHere 69 = .ok (.aload_n 0, 1) := by decide +kernel
theorem dX7_nameHere_70 : decode cX7_nameHere 70 = .ok (.getfield 66, 3) := by decide +kernel
theorem dX7_nameHere_73 : decode cX7_nameHere 73 = .ok (.iload_n 3, 1) := by decide +kernel
theorem dX7_nameHere_74 : decode cX7_nameHere 74 = .ok (.iadd, 1) := by decide +kernel
theorem dX7_nameHere_75 : decode cX7_nameHere 75 = .ok (.invokevirtual 78, 3) := by decide +kernel
theorem dX7_nameHere_78 : decode cX7_nameHere 78 = .ok (.aload_n 0, 1) := by decide +kernel
theorem dX7_nameHere_79 : decode cX7_nameHere 79 = .ok (.getfield 22, 3) := by decide +kernel
theorem dX7_nameHere_82 : decode cX7_nameHere 82 = .ok (.aload_n 0, 1) := by decide +kernel
theorem dX7_nameHere_83 : decode cX7_nameHere 83 = .ok (.getfield 19, 3) := by decide +kernel
theorem dX7_nameHere_86 : decode cX7_nameHere 86 = .ok (.iload_n 1, 1) := by decide +kernel
theorem dX7_nameHere_87 : decode cX7_nameHere 87 = .ok (.iaload, 1) := by decide +kernel
theorem dX7_nameHere_88 : decode cX7_nameHere 88 = .ok (.iload_n 3, 1) := by decide +kernel
theorem dX7_nameHere_89 : decode cX7_nameHere 89 = .ok (.iadd, 1) := by decide +kernel
theorem dX7_nameHere_90 : decode cX7_nameHere 90 = .ok (.iaload, 1) := by decide +kernel
theorem dX7_nameHere_91 : decode cX7_nameHere 91 = .ok (.if_icmp .ne 7, 3) := by decide +kernel
theorem dX7_nameHere_94 : decode cX7_nameHere 94 = .ok (.iconst 1, 1) := by decide +kernel
theorem dX7_nameHere_95 : decode cX7_nameHere 95 = .ok (.goto 4, 3) := by decide +kernel
theorem dX7_nameHere_98 : decode cX7_nameHere 98 = .ok (.iconst 0, 1) := by decide +kernel
theorem dX7_nameHere_99 : decode cX7_nameHere 99 = .ok (.istore_n 2, 1) := by decide +kernel
theorem dX7_nameHere_100 : decode cX7_nameHere 100 = .ok (.iinc 3 1, 3) := by decide +kernel
theorem dX7_nameHere_103 : decode cX7_nameHere 103 = .ok (.goto (-52), 3) := by decide +kernel
theorem dX7_nameHere_106 : decode cX7_nameHere 106 = .ok (.iload_n 2, 1) := by decide +kernel
theorem dX7_nameHere_107 : decode cX7_nameHere 107 = .ok (.ifCond .eq 5, 3) := by decide +kernel
theorem dX7_nameHere_110 : decode cX7_nameHere 110 = .ok (.iload_n 1, 1) := by decide +kernel
theorem dX7_nameHere_111 : decode cX7_nameHere 111 = .ok (.ireturn, 1) := by decide +kernel
theorem dX7_nameHere_112 : decode cX7_nameHere 112 = .ok (.iinc 1 1, 3) := by decide +kernel
theorem dX7_nameHere_115 : decode cX7_nameHere 115 = .ok (.goto (-113), 3) := by decide +kernel
theorem dX7_nameHere_118 : decode cX7_nameHere 118 = .ok (.bipush (-4), 2) := by decide +kernel
theorem dX7_nameHere_120 : decode cX7_nameHere 120 = .ok (.ireturn, 1) := by decide +kernel
theorem dX7_readsOn_0 : decode cX7_readsOn 0 = .ok (.aload_n 0, 1) := by decide +kernel
theorem dX7_readsOn_1 : decode cX7_readsOn 1 = .ok (.getfield 63, 3) := by decide +kernel
theorem dX7_readsOn_4 : decode cX7_readsOn 4 = .ok (.ifCond .le 4, 3) := by decide +kernel
theorem dX7_readsOn_7 : decode cX7_readsOn 7 = .ok (.return_, 1) := by decide +kernel
theorem dX7_readsOn_8 : decode cX7_readsOn 8 = .ok (.aload_n 0, 1) := by decide +kernel
theorem dX7_readsOn_9 : decode cX7_readsOn 9 = .ok (.aload_n 0, 1) := by decide +kernel
theorem dX7_readsOn_10 : decode cX7_readsOn 10 = .ok (.getfield 75, 3) := by decide +kernel
theorem dX7_readsOn_13 : decode cX7_readsOn 13 = .ok (.invokevirtual 78, 3) := by decide +kernel
theorem dX7_readsOn_16 : decode cX7_readsOn 16 = .ok (.bipush 32, 2) := by decide +kernel
theorem dX7_readsOn_18 : decode cX7_readsOn 18 = .ok (.if_icmp .ne 16, 3) := by decide +kernel
theorem dX7_readsOn_21 : decode cX7_readsOn 21 = .ok (.aload_n 0, 1) := by decide +kernel
theorem dX7_readsOn_22 : decode cX7_readsOn 22 = .ok (.dup, 1) := by decide +kernel
theorem dX7_readsOn_23 : decode cX7_readsOn 23 = .ok (.getfield 75, 3) := by decide +kernel
theorem dX7_readsOn_26 : decode cX7_readsOn 26 = .ok (.iconst 1, 1) := by decide +kernel
theorem dX7_readsOn_27 : decode cX7_readsOn 27 = .ok (.iadd, 1) := by decide +kernel
theorem dX7_readsOn_28 : decode cX7_readsOn 28 = .ok (.putfield 75, 3) := by decide +kernel
theorem dX7_readsOn_31 : decode cX7_readsOn 31 = .ok (.goto (-23), 3) := by decide +kernel
theorem dX7_readsOn_34 : decode cX7_readsOn 34 = .ok (.aload_n 0, 1) := by decide +kernel
theorem dX7_readsOn_35 : decode cX7_readsOn 35 = .ok (.aload_n 0, 1) := by decide +kernel
theorem dX7_readsOn_36 : decode cX7_readsOn 36 = .ok (.getfield 75, 3) := by decide +kernel
theorem dX7_readsOn_39 : decode cX7_readsOn 39 = .ok (.putfield 66, 3) := by decide +kernel
theorem dX7_readsOn_42 : decode cX7_readsOn 42 = .ok (.aload_n 0, 1) := by decide +kernel
theorem dX7_readsOn_43 : decode cX7_readsOn 43 = .ok (.aload_n 0, 1) := by decide +kernel
theorem dX7_readsOn_44 : decode cX7_readsOn 44 = .ok (.getfield 75, 3) := by decide +kernel
theorem dX7_readsOn_47 : decode cX7_readsOn 47 = .ok (.invokevirtual 78, 3) := by decide +kernel
theorem dX7_readsOn_50 : decode cX7_readsOn 50 = .ok (.istore_n 1, 1) := by decide +kernel
theorem dX7_readsOn_51 : decode cX7_readsOn 51 = .ok (.aload_n 0, 1) := by decide +kernel
theorem dX7_readsOn_52 : decode cX7_readsOn 52 = .ok (.iconst 0, 1) := by decide +kernel
theorem dX7_readsOn_53 : decode cX7_readsOn 53 = .ok (.putfield 82, 3) := by decide +kernel
theorem dX7_readsOn_56 : decode cX7_readsOn 56 = .ok (.iload_n 1, 1) := by decide +kernel
theorem dX7_readsOn_57 : decode cX7_readsOn 57 = .ok (.bipush (-4), 2) := by decide +kernel
theorem dX7_readsOn_59 : decode cX7_readsOn 59 = .ok (.if_icmp .ne 11, 3) := by decide +kernel
theorem dX7_readsOn_62 : decode cX7_readsOn 62 = .ok (.aload_n 0, 1) := by decide +kernel
theorem dX7_readsOn_63 : decode cX7_readsOn 63 = .ok (.iconst 0, 1) := by decide +kernel
theorem dX7_readsOn_64 : decode cX7_readsOn 64 = .ok (.putfield 72, 3) := by decide +kernel
theorem dX7_readsOn_67 : decode cX7_readsOn 67 = .ok (.goto 202, 3) := by decide +kernel
theorem dX7_readsOn_70 : decode cX7_readsOn 70 = .ok (.iload_n 1, 1) := by decide +kernel
theorem dX7_readsOn_71 : decode cX7_readsOn 71 = .ok (.i2l, 1) := by decide +kernel
theorem dX7_readsOn_72 : decode cX7_readsOn 72 = .ok (.ldc2_w 85, 3) := by decide +kernel
theorem dX7_readsOn_75 : decode cX7_readsOn 75 = .ok (.ldc2_w 87, 3) := by decide +kernel
theorem dX7_readsOn_78 : decode cX7_readsOn 78 = .ok (.invokestatic 55, 3) := by decide +kernel
theorem dX7_readsOn_81 : decode cX7_readsOn 81 = .ok (.ifCond .eq 45, 3) := by decide +kernel
theorem dX7_readsOn_84 : decode cX7_readsOn 84 = .ok (.aload_n 0, 1) := by decide +kernel
theorem dX7_readsOn_85 : decode cX7_readsOn 85 = .ok (.aload_n 0, 1) := by decide +kernel
theorem dX7_readsOn_86 : decode cX7_readsOn 86 = .ok (.getfield 75, 3) := by decide +kernel
theorem dX7_readsOn_89 : decode cX7_readsOn 89 = .ok (.invokevirtual 78, 3) := by decide +kernel
theorem dX7_readsOn_92 : decode cX7_readsOn 92 = .ok (.i2l, 1) := by decide +kernel
theorem dX7_readsOn_93 : decode cX7_readsOn 93 = .ok (.ldc2_w 85, 3) := by decide +kernel
theorem dX7_readsOn_96 : decode cX7_readsOn 96 = .ok (.ldc2_w 87, 3) := by decide +kernel
theorem dX7_readsOn_99 : decode cX7_readsOn 99 = .ok (.invokestatic 55, 3) := by decide +kernel
theorem dX7_readsOn_102 : decode cX7_readsOn 102 = .ok (.ifCond .eq 16, 3) := by decide +kernel
theorem dX7_readsOn_105 : decode cX7_readsOn 105 = .ok (.aload_n 0, 1) := by decide +kernel
theorem dX7_readsOn_106 : decode cX7_readsOn 106 = .ok (.dup, 1) := by decide +kernel
theorem dX7_readsOn_107 : decode cX7_readsOn 107 = .ok (.getfield 75, 3) := by decide +kernel
theorem dX7_readsOn_110 : decode cX7_readsOn 110 = .ok (.iconst 1, 1) := by decide +kernel
theorem dX7_readsOn_111 : decode cX7_readsOn 111 = .ok (.iadd, 1) := by decide +kernel
theorem dX7_readsOn_112 : decode cX7_readsOn 112 = .ok (.putfield 75, 3) := by decide +kernel
theorem dX7_readsOn_115 : decode cX7_readsOn 115 = .ok (.goto (-31), 3) := by decide +kernel
theorem dX7_readsOn_118 : decode cX7_readsOn 118 = .ok (.aload_n 0, 1) := by decide +kernel
theorem dX7_readsOn_119 : decode cX7_readsOn 119 = .ok (.iconst 1, 1) := by decide +kernel
theorem dX7_readsOn_120 : decode cX7_readsOn 120 = .ok (.putfield 72, 3) := by decide +kernel
theorem dX7_readsOn_123 : decode cX7_readsOn 123 = .ok (.goto 146, 3) := by decide +kernel
theorem dX7_readsOn_126 : decode cX7_readsOn 126 = .ok (.iload_n 1, 1) := by decide +kernel
theorem dX7_readsOn_127 : decode cX7_readsOn 127 = .ok (.i2l, 1) := by decide +kernel
theorem dX7_readsOn_128 : decode cX7_readsOn 128 = .ok (.ldc2_w 89, 3) := by decide +kernel
theorem dX7_readsOn_131 : decode cX7_readsOn 131 = .ok (.ldc2_w 91, 3) := by decide +kernel
theorem dX7_readsOn_134 : decode cX7_readsOn 134 = .ok (.invokestatic 55, 3) := by decide +kernel
theorem dX7_readsOn_137 : decode cX7_readsOn 137 = .ok (.ifCond .eq 106, 3) := by decide +kernel
theorem dX7_readsOn_140 : decode cX7_readsOn 140 = .ok (.aload_n 0, 1) := by decide +kernel
theorem dX7_readsOn_141 : decode cX7_readsOn 141 = .ok (.aload_n 0, 1) := by decide +kernel
theorem dX7_readsOn_142 : decode cX7_readsOn 142 = .ok (.getfield 75, 3) := by decide +kernel
theorem dX7_readsOn_145 : decode cX7_readsOn 145 = .ok (.invokevirtual 78, 3) := by decide +kernel
theorem dX7_readsOn_148 : decode cX7_readsOn 148 = .ok (.i2l, 1) := by decide +kernel
theorem dX7_readsOn_149 : decode cX7_readsOn 149 = .ok (.ldc2_w 89, 3) := by decide +kernel
theorem dX7_readsOn_152 : decode cX7_readsOn 152 = .ok (.ldc2_w 91, 3) := by decide +kernel
theorem dX7_readsOn_155 : decode cX7_readsOn 155 = .ok (.invokestatic 55, 3) := by decide +kernel
theorem dX7_readsOn_158 : decode cX7_readsOn 158 = .ok (.ifCond .eq 59, 3) := by decide +kernel
theorem dX7_readsOn_161 : decode cX7_readsOn 161 = .ok (.aload_n 0, 1) := by decide +kernel
theorem dX7_readsOn_162 : decode cX7_readsOn 162 = .ok (.aload_n 0, 1) := by decide +kernel
theorem dX7_readsOn_163 : decode cX7_readsOn 163 = .ok (.getfield 75, 3) := by decide +kernel
theorem dX7_readsOn_166 : decode cX7_readsOn 166 = .ok (.aload_n 0, 1) := by decide +kernel
theorem dX7_readsOn_167 : decode cX7_readsOn 167 = .ok (.getfield 66, 3) := by decide +kernel
theorem dX7_readsOn_170 : decode cX7_readsOn 170 = .ok (.isub, 1) := by decide +kernel
theorem dX7_readsOn_171 : decode cX7_readsOn 171 = .ok (.iconst 2, 1) := by decide +kernel
theorem dX7_readsOn_172 : decode cX7_readsOn 172 = .ok (.if_icmp .ge 25, 3) := by decide +kernel
theorem dX7_readsOn_175 : decode cX7_readsOn 175 = .ok (.bipush 10, 2) := by decide +kernel
theorem dX7_readsOn_177 : decode cX7_readsOn 177 = .ok (.aload_n 0, 1) := by decide +kernel
theorem dX7_readsOn_178 : decode cX7_readsOn 178 = .ok (.getfield 82, 3) := by decide +kernel
theorem dX7_readsOn_181 : decode cX7_readsOn 181 = .ok (.imul, 1) := by decide +kernel
theorem dX7_readsOn_182 : decode cX7_readsOn 182 = .ok (.aload_n 0, 1) := by decide +kernel
theorem dX7_readsOn_183 : decode cX7_readsOn 183 = .ok (.aload_n 0, 1) := by decide +kernel
theorem dX7_readsOn_184 : decode cX7_readsOn 184 = .ok (.getfield 75, 3) := by decide +kernel
theorem dX7_readsOn_187 : decode cX7_readsOn 187 = .ok (.invokevirtual 78, 3) := by decide +kernel
theorem dX7_readsOn_190 : decode cX7_readsOn 190 = .ok (.iadd, 1) := by decide +kernel
theorem dX7_readsOn_191 : decode cX7_readsOn 191 = .ok (.bipush 48, 2) := by decide +kernel
theorem dX7_readsOn_193 : decode cX7_readsOn 193 = .ok (.isub, 1) := by decide +kernel
theorem dX7_readsOn_194 : decode cX7_readsOn 194 = .ok (.goto 7, 3) := by decide +kernel
theorem dX7_readsOn_197 : decode cX7_readsOn 197 = .ok (.aload_n 0, 1) := by decide +kernel
theorem dX7_readsOn_198 : decode cX7_readsOn 198 = .ok (.getfield 82, 3) := by decide +kernel
theorem dX7_readsOn_201 : decode cX7_readsOn 201 = .ok (.putfield 82, 3) := by decide +kernel
theorem dX7_readsOn_204 : decode cX7_readsOn 204 = .ok (.aload_n 0, 1) := by decide +kernel
theorem dX7_readsOn_205 : decode cX7_readsOn 205 = .ok (.dup, 1) := by decide +kernel
theorem dX7_readsOn_206 : decode cX7_readsOn 206 = .ok (.getfield 75, 3) := by decide +kernel
theorem dX7_readsOn_209 : decode cX7_readsOn 209 = .ok (.iconst 1, 1) := by decide +kernel
theorem dX7_readsOn_210 : decode cX7_readsOn 210 = .ok (.iadd, 1) := by decide +kernel
theorem dX7_readsOn_211 : decode cX7_readsOn 211 = .ok (.putfield 75, 3) := by decide +kernel
theorem dX7_readsOn_214 : decode cX7_readsOn 214 = .ok (.goto (-74), 3) := by decide +kernel
theorem dX7_readsOn_217 : decode cX7_readsOn 217 = .ok (.aload_n 0, 1) := by decide +kernel
theorem dX7_readsOn_218 : decode cX7_readsOn 218 = .ok (.iconst 2, 1) := by decide +kernel
theorem dX7_readsOn_219 : decode cX7_readsOn 219 = .ok (.putfield 72, 3) := by decide +kernel
theorem dX7_readsOn_222 : decode cX7_readsOn 222 = .ok (.aload_n 0, 1) := by decide +kernel
theorem dX7_readsOn_223 : decode cX7_readsOn 223 = .ok (.getfield 75, 3) := by decide +kernel
theorem dX7_readsOn_226 : decode cX7_readsOn 226 = .ok (.aload_n 0, 1) := by decide +kernel
theorem dX7_readsOn_227 : decode cX7_readsOn 227 = .ok (.getfield 66, 3) := by decide +kernel
theorem dX7_readsOn_230 : decode cX7_readsOn 230 = .ok (.isub, 1) := by decide +kernel
theorem dX7_readsOn_231 : decode cX7_readsOn 231 = .ok (.iconst 2, 1) := by decide +kernel
theorem dX7_readsOn_232 : decode cX7_readsOn 232 = .ok (.if_icmp .le 37, 3) := by decide +kernel
theorem dX7_readsOn_235 : decode cX7_readsOn 235 = .ok (.aload_n 0, 1) := by decide +kernel
theorem dX7_readsOn_236 : decode cX7_readsOn 236 = .ok (.iconst 1, 1) := by decide +kernel
theorem dX7_readsOn_237 : decode cX7_readsOn 237 = .ok (.invokevirtual 93, 3) := by decide +kernel
theorem dX7_readsOn_240 : decode cX7_readsOn 240 = .ok (.goto 29, 3) := by decide +kernel
theorem dX7_readsOn_243 : decode cX7_readsOn 243 = .ok (.aload_n 0, 1) := by decide +kernel
theorem dX7_readsOn_244 : decode cX7_readsOn 244 = .ok (.iconst 3, 1) := by decide +kernel
theorem dX7_readsOn_245 : decode cX7_readsOn 245 = .ok (.putfield 72, 3) := by decide +kernel
theorem dX7_readsOn_248 : decode cX7_readsOn 248 = .ok (.aload_n 0, 1) := by decide +kernel
theorem dX7_readsOn_249 : decode cX7_readsOn 249 = .ok (.dup, 1) := by decide +kernel
theorem dX7_readsOn_250 : decode cX7_readsOn 250 = .ok (.getfield 75, 3) := by decide +kernel
theorem dX7_readsOn_253 : decode cX7_readsOn 253 = .ok (.iconst 1, 1) := by decide +kernel
theorem dX7_readsOn_254 : decode cX7_readsOn 254 = .ok (.iadd, 1) := by decide +kernel
theorem dX7_readsOn_255 : decode cX7_readsOn 255 = .ok (.putfield 75, 3) := by decide +kernel
theorem dX7_readsOn_258 : decode cX7_readsOn 258 = .ok (.iload_n 1, 1) := by decide +kernel
theorem dX7_readsOn_259 : decode cX7_readsOn 259 = .ok (.bipush 59, 2) := by decide +kernel
theorem dX7_readsOn_261 : decode cX7_readsOn 261 = .ok (.if_icmp .eq 8, 3) := by decide +kernel
theorem dX7_readsOn_264 : decode cX7_readsOn 264 = .ok (.aload_n 0, 1) := by decide +kernel
theorem dX7_readsOn_265 : decode cX7_readsOn 265 = .ok (.iconst 1, 1) := by decide +kernel
theorem dX7_readsOn_266 : decode cX7_readsOn 266 = .ok (.invokevirtual 93, 3) := by decide +kernel
theorem dX7_readsOn_269 : decode cX7_readsOn 269 = .ok (.return_, 1) := by decide +kernel
theorem dX7_number_0 : decode cX7_number 0 = .ok (.aload_n 0, 1) := by decide +kernel
theorem dX7_number_1 : decode cX7_number 1 = .ok (.getfield 63, 3) := by decide +kernel
theorem dX7_number_4 : decode cX7_number 4 = .ok (.ifCond .ne 16, 3) := by decide +kernel
theorem dX7_number_7 : decode cX7_number 7 = .ok (.aload_n 0, 1) := by decide +kernel
theorem dX7_number_8 : decode cX7_number 8 = .ok (.getfield 72, 3) := by decide +kernel
theorem dX7_number_11 : decode cX7_number 11 = .ok (.iconst 2, 1) := by decide +kernel
theorem dX7_number_12 : decode cX7_number 12 = .ok (.if_icmp .eq 8, 3) := by decide +kernel
theorem dX7_number_15 : decode cX7_number 15 = .ok (.aload_n 0, 1) := by decide +kernel
theorem dX7_number_16 : decode cX7_number 16 = .ok (.iconst 2, 1) := by decide +kernel
theorem dX7_number_17 : decode cX7_number 17 = .ok (.invokevirtual 93, 3) := by decide +kernel
theorem dX7_number_20 : decode cX7_number 20 = .ok (.aload_n 0, 1) := by decide +kernel
theorem dX7_number_21 : decode cX7_number 21 = .ok (.getfield 63, 3) := by decide +kernel
theorem dX7_number_24 : decode cX7_number 24 = .ok (.ifCond .ne 23, 3) := by decide +kernel
theorem dX7_number_27 : decode cX7_number 27 = .ok (.aload_n 0, 1) := by decide +kernel
theorem dX7_number_28 : decode cX7_number 28 = .ok (.getfield 82, 3) := by decide +kernel
theorem dX7_number_31 : decode cX7_number 31 = .ok (.i2l, 1) := by decide +kernel
theorem dX7_number_32 : decode cX7_number 32 = .ok (.iload_n 1, 1) := by decide +kernel
theorem dX7_number_33 : decode cX7_number 33 = .ok (.i2l, 1) := by decide +kernel
theorem dX7_number_34 : decode cX7_number 34 = .ok (.iload_n 2, 1) := by decide +kernel
theorem dX7_number_35 : decode cX7_number 35 = .ok (.i2l, 1) := by decide +kernel
theorem dX7_number_36 : decode cX7_number 36 = .ok (.invokestatic 55, 3) := by decide +kernel
theorem dX7_number_39 : decode cX7_number 39 = .ok (.ifCond .ne 8, 3) := by decide +kernel
theorem dX7_number_42 : decode cX7_number 42 = .ok (.aload_n 0, 1) := by decide +kernel
theorem dX7_number_43 : decode cX7_number 43 = .ok (.iconst 3, 1) := by decide +kernel
theorem dX7_number_44 : decode cX7_number 44 = .ok (.invokevirtual 93, 3) := by decide +kernel
theorem dX7_number_47 : decode cX7_number 47 = .ok (.aload_n 0, 1) := by decide +kernel
theorem dX7_number_48 : decode cX7_number 48 = .ok (.getfield 63, 3) := by decide +kernel
theorem dX7_number_51 : decode cX7_number 51 = .ok (.ifCond .ne 10, 3) := by decide +kernel
theorem dX7_number_54 : decode cX7_number 54 = .ok (.aload_n 0, 1) := by decide +kernel
theorem dX7_number_55 : decode cX7_number 55 = .ok (.getfield 82, 3) := by decide +kernel
theorem dX7_number_58 : decode cX7_number 58 = .ok (.goto 4, 3) := by decide +kernel
theorem dX7_number_61 : decode cX7_number 61 = .ok (.iload_n 1, 1) := by decide +kernel
theorem dX7_number_62 : decode cX7_number 62 = .ok (.istore_n 3, 1) := by decide +kernel
theorem dX7_number_63 : decode cX7_number 63 = .ok (.aload_n 0, 1) := by decide +kernel
theorem dX7_number_64 : decode cX7_number 64 = .ok (.invokevirtual 97, 3) := by decide +kernel
theorem dX7_number_67 : decode cX7_number 67 = .ok (.iload_n 3, 1) := by decide +kernel
theorem dX7_number_68 : decode cX7_number 68 = .ok (.ireturn, 1) := by decide +kernel
theorem dX7_readMore_0 : decode cX7_readMore 0 = .ok (.iload_n 1, 1) := by decide +kernel
theorem dX7_readMore_1 : decode cX7_readMore 1 = .ok (.iconst 3, 1) := by decide +kernel
theorem dX7_readMore_2 : decode cX7_readMore 2 = .ok (.if_icmp .gt 63, 3) := by decide +kernel
theorem dX7_readMore_5 : decode cX7_readMore 5 = .ok (.aload_n 0, 1) := by decide +kernel
theorem dX7_readMore_6 : decode cX7_readMore 6 = .ok (.getfield 13, 3) := by decide +kernel
theorem dX7_readMore_9 : decode cX7_readMore 9 = .ok (.bipush 24, 2) := by decide +kernel
theorem dX7_readMore_11 : decode cX7_readMore 11 = .ok (.iaload, 1) := by decide +kernel
theorem dX7_readMore_12 : decode cX7_readMore 12 = .ok (.istore_n 2, 1) := by decide +kernel
theorem dX7_readMore_13 : decode cX7_readMore 13 = .ok (.aload_n 0, 1) := by decide +kernel
theorem dX7_readMore_14 : decode cX7_readMore 14 = .ok (.getfield 13, 3) := by decide +kernel
theorem dX7_readMore_17 : decode cX7_readMore 17 = .ok (.iload_n 2, 1) := by decide +kernel
theorem dX7_readMore_18 : decode cX7_readMore 18 = .ok (.iload_n 1, 1) := by decide +kernel
theorem dX7_readMore_19 : decode cX7_readMore 19 = .ok (.iastore, 1) := by decide +kernel
theorem dX7_readMore_20 : decode cX7_readMore 20 = .ok (.aload_n 0, 1) := by decide +kernel
theorem dX7_readMore_21 : decode cX7_readMore 21 = .ok (.getfield 13, 3) := by decide +kernel
theorem dX7_readMore_24 : decode cX7_readMore 24 = .ok (.iconst 4, 1) := by decide +kernel
theorem dX7_readMore_25 : decode cX7_readMore 25 = .ok (.iload_n 2, 1) := by decide +kernel
theorem dX7_readMore_26 : decode cX7_readMore 26 = .ok (.iadd, 1) := by decide +kernel
theorem dX7_readMore_27 : decode cX7_readMore 27 = .ok (.aload_n 0, 1) := by decide +kernel
theorem dX7_readMore_28 : decode cX7_readMore 28 = .ok (.iconst 1, 1) := by decide +kernel
theorem dX7_readMore_29 : decode cX7_readMore 29 = .ok (.bipush 60, 2) := by decide +kernel
theorem dX7_readMore_31 : decode cX7_readMore 31 = .ok (.invokevirtual 100, 3) := by decide +kernel
theorem dX7_readMore_34 : decode cX7_readMore 34 = .ok (.iastore, 1) := by decide +kernel
theorem dX7_readMore_35 : decode cX7_readMore 35 = .ok (.aload_n 0, 1) := by decide +kernel
theorem dX7_readMore_36 : decode cX7_readMore 36 = .ok (.getfield 13, 3) := by decide +kernel
theorem dX7_readMore_39 : decode cX7_readMore 39 = .ok (.bipush 8, 2) := by decide +kernel
theorem dX7_readMore_41 : decode cX7_readMore 41 = .ok (.iload_n 2, 1) := by decide +kernel
theorem dX7_readMore_42 : decode cX7_readMore 42 = .ok (.iadd, 1) := by decide +kernel
theorem dX7_readMore_43 : decode cX7_readMore 43 = .ok (.aload_n 0, 1) := by decide +kernel
theorem dX7_readMore_44 : decode cX7_readMore 44 = .ok (.iconst 0, 1) := by decide +kernel
theorem dX7_readMore_45 : decode cX7_readMore 45 = .ok (.bipush 9, 2) := by decide +kernel
theorem dX7_readMore_47 : decode cX7_readMore 47 = .ok (.invokevirtual 100, 3) := by decide +kernel
theorem dX7_readMore_50 : decode cX7_readMore 50 = .ok (.iastore, 1) := by decide +kernel
theorem dX7_readMore_51 : decode cX7_readMore 51 = .ok (.aload_n 0, 1) := by decide +kernel
theorem dX7_readMore_52 : decode cX7_readMore 52 = .ok (.getfield 13, 3) := by decide +kernel
theorem dX7_readMore_55 : decode cX7_readMore 55 = .ok (.bipush 24, 2) := by decide +kernel
theorem dX7_readMore_57 : decode cX7_readMore 57 = .ok (.dup2, 1) := by decide +kernel
theorem dX7_readMore_58 : decode cX7_readMore 58 = .ok (.iaload, 1) := by decide +kernel
theorem dX7_readMore_59 : decode cX7_readMore 59 = .ok (.iconst 1, 1) := by decide +kernel
theorem dX7_readMore_60 : decode cX7_readMore 60 = .ok (.iadd, 1) := by decide +kernel
theorem dX7_readMore_61 : decode cX7_readMore 61 = .ok (.iastore, 1) := by decide +kernel
theorem dX7_readMore_62 : decode cX7_readMore 62 = .ok (.goto 102, 3) := by decide +kernel
theorem dX7_readMore_65 : decode cX7_readMore 65 = .ok (.iload_n 1, 1) := by decide +kernel
theorem dX7_readMore_66 : decode cX7_readMore 66 = .ok (.iconst 4, 1) := by decide +kernel
theorem dX7_readMore_67 : decode cX7_readMore 67 = .ok (.if_icmp .ne 23, 3) := by decide +kernel
theorem dX7_readMore_70 : decode cX7_readMore 70 = .ok (.aload_n 0, 1) := by decide +kernel
theorem dX7_readMore_71 : decode cX7_readMore 71 = .ok (.getfield 13, 3) := by decide +kernel
theorem dX7_readMore_74 : decode cX7_readMore 74 = .ok (.bipush 50, 2) := by decide +kernel
theorem dX7_readMore_76 : decode cX7_readMore 76 = .ok (.aload_n 0, 1) := by decide +kernel
theorem dX7_readMore_77 : decode cX7_readMore 77 = .ok (.iconst 0, 1) := by decide +kernel
theorem dX7_readMore_78 : decode cX7_readMore 78 = .ok (.bipush 40, 2) := by decide +kernel
theorem dX7_readMore_80 : decode cX7_readMore 80 = .ok (.invokevirtual 100, 3) := by decide +kernel
theorem dX7_readMore_83 : decode cX7_readMore 83 = .ok (.bipush 8, 2) := by decide +kernel
theorem dX7_readMore_85 : decode cX7_readMore 85 = .ok (.isub, 1) := by decide +kernel
theorem dX7_readMore_86 : decode cX7_readMore 86 = .ok (.iastore, 1) := by decide +kernel
theorem dX7_readMore_87 : decode cX7_readMore 87 = .ok (.goto 77, 3) := by decide +kernel
theorem dX7_readMore_90 : decode cX7_readMore 90 = .ok (.iload_n 1, 1) := by decide +kernel
theorem dX7_readMore_91 : decode cX7_readMore 91 = .ok (.iconst 5, 1) := by decide +kernel
theorem dX7_readMore_92 : decode cX7_readMore 92 = .ok (.if_icmp .ne 22, 3) := by decide +kernel
theorem dX7_readMore_95 : decode cX7_readMore 95 = .ok (.aload_n 0, 1) := by decide +kernel
theorem dX7_readMore_96 : decode cX7_readMore 96 = .ok (.getfield 13, 3) := by decide +kernel
theorem dX7_readMore_99 : decode cX7_readMore 99 = .ok (.bipush 51, 2) := by decide +kernel
theorem dX7_readMore_101 : decode cX7_readMore 101 = .ok (.aload_n 0, 1) := by decide +kernel
theorem dX7_readMore_102 : decode cX7_readMore 102 = .ok (.iconst 0, 1) := by decide +kernel
theorem dX7_readMore_103 : decode cX7_readMore 103 = .ok (.bipush 20, 2) := by decide +kernel
theorem dX7_readMore_105 : decode cX7_readMore 105 = .ok (.invokevirtual 100, 3) := by decide +kernel
theorem dX7_readMore_108 : decode cX7_readMore 108 = .ok (.iconst 4, 1) := by decide +kernel
theorem dX7_readMore_109 : decode cX7_readMore 109 = .ok (.isub, 1) := by decide +kernel
theorem dX7_readMore_110 : decode cX7_readMore 110 = .ok (.iastore, 1) := by decide +kernel
theorem dX7_readMore_111 : decode cX7_readMore 111 = .ok (.goto 53, 3) := by decide +kernel
theorem dX7_readMore_114 : decode cX7_readMore 114 = .ok (.aload_n 0, 1) := by decide +kernel
theorem dX7_readMore_115 : decode cX7_readMore 115 = .ok (.getfield 13, 3) := by decide +kernel
theorem dX7_readMore_118 : decode cX7_readMore 118 = .ok (.bipush 49, 2) := by decide +kernel
theorem dX7_readMore_120 : decode cX7_readMore 120 = .ok (.iaload, 1) := by decide +kernel
theorem dX7_readMore_121 : decode cX7_readMore 121 = .ok (.istore_n 2, 1) := by decide +kernel
theorem dX7_readMore_122 : decode cX7_readMore 122 = .ok (.aload_n 0, 1) := by decide +kernel
theorem dX7_readMore_123 : decode cX7_readMore 123 = .ok (.getfield 13, 3) := by decide +kernel
theorem dX7_readMore_126 : decode cX7_readMore 126 = .ok (.bipush 25, 2) := by decide +kernel
theorem dX7_readMore_128 : decode cX7_readMore 128 = .ok (.iload_n 2, 1) := by decide +kernel
theorem dX7_readMore_129 : decode cX7_readMore 129 = .ok (.iadd, 1) := by decide +kernel
theorem dX7_readMore_130 : decode cX7_readMore 130 = .ok (.aload_n 0, 1) := by decide +kernel
theorem dX7_readMore_131 : decode cX7_readMore 131 = .ok (.iconst 0, 1) := by decide +kernel
theorem dX7_readMore_132 : decode cX7_readMore 132 = .ok (.bipush 9, 2) := by decide +kernel
theorem dX7_readMore_134 : decode cX7_readMore 134 = .ok (.invokevirtual 100, 3) := by decide +kernel
theorem dX7_readMore_137 : decode cX7_readMore 137 = .ok (.iastore, 1) := by decide +kernel
theorem dX7_readMore_138 : decode cX7_readMore 138 = .ok (.aload_n 0, 1) := by decide +kernel
theorem dX7_readMore_139 : decode cX7_readMore 139 = .ok (.getfield 13, 3) := by decide +kernel
theorem dX7_readMore_142 : decode cX7_readMore 142 = .ok (.bipush 37, 2) := by decide +kernel
theorem dX7_readMore_144 : decode cX7_readMore 144 = .ok (.iload_n 2, 1) := by decide +kernel
theorem dX7_readMore_145 : decode cX7_readMore 145 = .ok (.iadd, 1) := by decide +kernel
theorem dX7_readMore_146 : decode cX7_readMore 146 = .ok (.aload_n 0, 1) := by decide +kernel
theorem dX7_readMore_147 : decode cX7_readMore 147 = .ok (.iconst 0, 1) := by decide +kernel
theorem dX7_readMore_148 : decode cX7_readMore 148 = .ok (.iconst 4, 1) := by decide +kernel
theorem dX7_readMore_149 : decode cX7_readMore 149 = .ok (.invokevirtual 100, 3) := by decide +kernel
theorem dX7_readMore_152 : decode cX7_readMore 152 = .ok (.iastore, 1) := by decide +kernel
theorem dX7_readMore_153 : decode cX7_readMore 153 = .ok (.aload_n 0, 1) := by decide +kernel
theorem dX7_readMore_154 : decode cX7_readMore 154 = .ok (.getfield 13, 3) := by decide +kernel
theorem dX7_readMore_157 : decode cX7_readMore 157 = .ok (.bipush 49, 2) := by decide +kernel
theorem dX7_readMore_159 : decode cX7_readMore 159 = .ok (.dup2, 1) := by decide +kernel
theorem dX7_readMore_160 : decode cX7_readMore 160 = .ok (.iaload, 1) := by decide +kernel
theorem dX7_readMore_161 : decode cX7_readMore 161 = .ok (.iconst 1, 1) := by decide +kernel
theorem dX7_readMore_162 : decode cX7_readMore 162 = .ok (.iadd, 1) := by decide +kernel
theorem dX7_readMore_163 : decode cX7_readMore 163 = .ok (.iastore, 1) := by decide +kernel
theorem dX7_readMore_164 : decode cX7_readMore 164 = .ok (.return_, 1) := by decide +kernel
theorem dX7_readLine_0 : decode cX7_readLine 0 = .ok (.aload_n 0, 1) := by decide +kernel
theorem dX7_readLine_1 : decode cX7_readLine 1 = .ok (.invokevirtual 104, 3) := by decide +kernel
theorem dX7_readLine_4 : decode cX7_readLine 4 = .ok (.istore_n 1, 1) := by decide +kernel
theorem dX7_readLine_5 : decode cX7_readLine 5 = .ok (.iload_n 1, 1) := by decide +kernel
theorem dX7_readLine_6 : decode cX7_readLine 6 = .ok (.i2l, 1) := by decide +kernel
theorem dX7_readLine_7 : decode cX7_readLine 7 = .ok (.lconst 0, 1) := by decide +kernel
theorem dX7_readLine_8 : decode cX7_readLine 8 = .ok (.ldc2_w 108, 3) := by decide +kernel
theorem dX7_readLine_11 : decode cX7_readLine 11 = .ok (.invokestatic 55, 3) := by decide +kernel
theorem dX7_readLine_14 : decode cX7_readLine 14 = .ok (.ifCond .ne 9, 3) := by decide +kernel
theorem dX7_readLine_17 : decode cX7_readLine 17 = .ok (.aload_n 0, 1) := by decide +kernel
theorem dX7_readLine_18 : decode cX7_readLine 18 = .ok (.iconst 2, 1) := by decide +kernel
theorem dX7_readLine_19 : decode cX7_readLine 19 = .ok (.invokevirtual 93, 3) := by decide +kernel
theorem dX7_readLine_22 : decode cX7_readLine 22 = .ok (.return_, 1) := by decide +kernel
theorem dX7_readLine_23 : decode cX7_readLine 23 = .ok (.iload_n 1, 1) := by decide +kernel
theorem dX7_readLine_24 : decode cX7_readLine 24 = .ok (.iconst 3, 1) := by decide +kernel
theorem dX7_readLine_25 : decode cX7_readLine 25 = .ok (.if_icmp .gt 14, 3) := by decide +kernel
theorem dX7_readLine_28 : decode cX7_readLine 28 = .ok (.aload_n 0, 1) := by decide +kernel
theorem dX7_readLine_29 : decode cX7_readLine 29 = .ok (.getfield 13, 3) := by decide +kernel
theorem dX7_readLine_32 : decode cX7_readLine 32 = .ok (.bipush 24, 2) := by decide +kernel
theorem dX7_readLine_34 : decode cX7_readLine 34 = .ok (.iaload, 1) := by decide +kernel
theorem dX7_readLine_35 : decode cX7_readLine 35 = .ok (.iconst 4, 1) := by decide +kernel
theorem dX7_readLine_36 : decode cX7_readLine 36 = .ok (.if_icmp .eq 21, 3) := by decide +kernel
theorem dX7_readLine_39 : decode cX7_readLine 39 = .ok (.iload_n 1, 1) := by decide +kernel
theorem dX7_readLine_40 : decode cX7_readLine 40 = .ok (.bipush 6, 2) := by decide +kernel
theorem dX7_readLine_42 : decode cX7_readLine 42 = .ok (.if_icmp .ne 20, 3) := by decide +kernel
theorem dX7_readLine_45 : decode cX7_readLine 45 = .ok (.aload_n 0, 1) := by decide +kernel
theorem dX7_readLine_46 : decode cX7_readLine 46 = .ok (.getfield 13, 3) := by decide +kernel
theorem dX7_readLine_49 : decode cX7_readLine 49 = .ok (.bipush 49, 2) := by decide +kernel
theorem dX7_readLine_51 : decode cX7_readLine 51 = .ok (.iaload, 1) := by decide +kernel
theorem dX7_readLine_52 : decode cX7_readLine 52 = .ok (.bipush 12, 2) := by decide +kernel
theorem dX7_readLine_54 : decode cX7_readLine 54 = .ok (.if_icmp .ne 8, 3) := by decide +kernel
theorem dX7_readLine_57 : decode cX7_readLine 57 = .ok (.aload_n 0, 1) := by decide +kernel
theorem dX7_readLine_58 : decode cX7_readLine 58 = .ok (.iconst 5, 1) := by decide +kernel
theorem dX7_readLine_59 : decode cX7_readLine 59 = .ok (.invokevirtual 93, 3) := by decide +kernel
theorem dX7_readLine_62 : decode cX7_readLine 62 = .ok (.iload_n 1, 1) := by decide +kernel
theorem dX7_readLine_63 : decode cX7_readLine 63 = .ok (.iconst 4, 1) := by decide +kernel
theorem dX7_readLine_64 : decode cX7_readLine 64 = .ok (.if_icmp .ne 10, 3) := by decide +kernel
theorem dX7_readLine_67 : decode cX7_readLine 67 = .ok (.aload_n 0, 1) := by decide +kernel
theorem dX7_readLine_68 : decode cX7_readLine 68 = .ok (.getfield 110, 3) := by decide +kernel
theorem dX7_readLine_71 : decode cX7_readLine 71 = .ok (.ifCond .ne 15, 3) := by decide +kernel
theorem dX7_readLine_74 : decode cX7_readLine 74 = .ok (.iload_n 1, 1) := by decide +kernel
theorem dX7_readLine_75 : decode cX7_readLine 75 = .ok (.iconst 5, 1) := by decide +kernel
theorem dX7_readLine_76 : decode cX7_readLine 76 = .ok (.if_icmp .ne 15, 3) := by decide +kernel
theorem dX7_readLine_79 : decode cX7_readLine 79 = .ok (.aload_n 0, 1) := by decide +kernel
theorem dX7_readLine_80 : decode cX7_readLine 80 = .ok (.getfield 114, 3) := by decide +kernel
theorem dX7_readLine_83 : decode cX7_readLine 83 = .ok (.ifCond .eq 8, 3) := by decide +kernel
theorem dX7_readLine_86 : decode cX7_readLine 86 = .ok (.aload_n 0, 1) := by decide +kernel
theorem dX7_readLine_87 : decode cX7_readLine 87 = .ok (.iconst 4, 1) := by decide +kernel
theorem dX7_readLine_88 : decode cX7_readLine 88 = .ok (.invokevirtual 93, 3) := by decide +kernel
theorem dX7_readLine_91 : decode cX7_readLine 91 = .ok (.aload_n 0, 1) := by decide +kernel
theorem dX7_readLine_92 : decode cX7_readLine 92 = .ok (.aload_n 0, 1) := by decide +kernel
theorem dX7_readLine_93 : decode cX7_readLine 93 = .ok (.getfield 110, 3) := by decide +kernel
theorem dX7_readLine_96 : decode cX7_readLine 96 = .ok (.ifCond .ne 8, 3) := by decide +kernel
theorem dX7_readLine_99 : decode cX7_readLine 99 = .ok (.iload_n 1, 1) := by decide +kernel
theorem dX7_readLine_100 : decode cX7_readLine 100 = .ok (.iconst 4, 1) := by decide +kernel
theorem dX7_readLine_101 : decode cX7_readLine 101 = .ok (.if_icmp .ne 7, 3) := by decide +kernel
theorem dX7_readLine_104 : decode cX7_readLine 104 = .ok (.iconst 1, 1) := by decide +kernel
theorem dX7_readLine_105 : decode cX7_readLine 105 = .ok (.goto 4, 3) := by decide +kernel
theorem dX7_readLine_108 : decode cX7_readLine 108 = .ok (.iconst 0, 1) := by decide +kernel
theorem dX7_readLine_109 : decode cX7_readLine 109 = .ok (.putfield 110, 3) := by decide +kernel
theorem dX7_readLine_112 : decode cX7_readLine 112 = .ok (.aload_n 0, 1) := by decide +kernel
theorem dX7_readLine_113 : decode cX7_readLine 113 = .ok (.aload_n 0, 1) := by decide +kernel
theorem dX7_readLine_114 : decode cX7_readLine 114 = .ok (.getfield 114, 3) := by decide +kernel
theorem dX7_readLine_117 : decode cX7_readLine 117 = .ok (.ifCond .ne 8, 3) := by decide +kernel
theorem dX7_readLine_120 : decode cX7_readLine 120 = .ok (.iload_n 1, 1) := by decide +kernel
theorem dX7_readLine_121 : decode cX7_readLine 121 = .ok (.iconst 5, 1) := by decide +kernel
theorem dX7_readLine_122 : decode cX7_readLine 122 = .ok (.if_icmp .ne 7, 3) := by decide +kernel
theorem dX7_readLine_125 : decode cX7_readLine 125 = .ok (.iconst 1, 1) := by decide +kernel
theorem dX7_readLine_126 : decode cX7_readLine 126 = .ok (.goto 4, 3) := by decide +kernel
theorem dX7_readLine_129 : decode cX7_readLine 129 = .ok (.iconst 0, 1) := by decide +kernel
theorem dX7_readLine_130 : decode cX7_readLine 130 = .ok (.putfield 114, 3) := by decide +kernel
theorem dX7_readLine_133 : decode cX7_readLine 133 = .ok (.aload_n 0, 1) := by decide +kernel
theorem dX7_readLine_134 : decode cX7_readLine 134 = .ok (.invokevirtual 97, 3) := by decide +kernel
theorem dX7_readLine_137 : decode cX7_readLine 137 = .ok (.aload_n 0, 1) := by decide +kernel
theorem dX7_readLine_138 : decode cX7_readLine 138 = .ok (.getfield 63, 3) := by decide +kernel
theorem dX7_readLine_141 : decode cX7_readLine 141 = .ok (.ifCond .le 4, 3) := by decide +kernel
theorem dX7_readLine_144 : decode cX7_readLine 144 = .ok (.return_, 1) := by decide +kernel
theorem dX7_readLine_145 : decode cX7_readLine 145 = .ok (.aload_n 0, 1) := by decide +kernel
theorem dX7_readLine_146 : decode cX7_readLine 146 = .ok (.iload_n 1, 1) := by decide +kernel
theorem dX7_readLine_147 : decode cX7_readLine 147 = .ok (.invokevirtual 117, 3) := by decide +kernel
theorem dX7_readLine_150 : decode cX7_readLine 150 = .ok (.aload_n 0, 1) := by decide +kernel
theorem dX7_readLine_151 : decode cX7_readLine 151 = .ok (.getfield 63, 3) := by decide +kernel
theorem dX7_readLine_154 : decode cX7_readLine 154 = .ok (.ifCond .ne 16, 3) := by decide +kernel
theorem dX7_readLine_157 : decode cX7_readLine 157 = .ok (.aload_n 0, 1) := by decide +kernel
theorem dX7_readLine_158 : decode cX7_readLine 158 = .ok (.getfield 72, 3) := by decide +kernel
theorem dX7_readLine_161 : decode cX7_readLine 161 = .ok (.iconst 3, 1) := by decide +kernel
theorem dX7_readLine_162 : decode cX7_readLine 162 = .ok (.if_icmp .eq 8, 3) := by decide +kernel
theorem dX7_readLine_165 : decode cX7_readLine 165 = .ok (.aload_n 0, 1) := by decide +kernel
theorem dX7_readLine_166 : decode cX7_readLine 166 = .ok (.iconst 2, 1) := by decide +kernel
theorem dX7_readLine_167 : decode cX7_readLine 167 = .ok (.invokevirtual 93, 3) := by decide +kernel
theorem dX7_readLine_170 : decode cX7_readLine 170 = .ok (.aload_n 0, 1) := by decide +kernel
theorem dX7_readLine_171 : decode cX7_readLine 171 = .ok (.invokevirtual 97, 3) := by decide +kernel
theorem dX7_readLine_174 : decode cX7_readLine 174 = .ok (.return_, 1) := by decide +kernel
theorem dX7_text_0 : decode cX7_text 0 = .ok (.aload_n 0, 1) := by decide +kernel
theorem dX7_text_1 : decode cX7_text 1 = .ok (.iconst 0, 1) := by decide +kernel
theorem dX7_text_2 : decode cX7_text 2 = .ok (.putfield 63, 3) := by decide +kernel
theorem dX7_text_5 : decode cX7_text 5 = .ok (.aload_n 0, 1) := by decide +kernel
theorem dX7_text_6 : decode cX7_text 6 = .ok (.iconst 0, 1) := by decide +kernel
theorem dX7_text_7 : decode cX7_text 7 = .ok (.putfield 75, 3) := by decide +kernel
theorem dX7_text_10 : decode cX7_text 10 = .ok (.aload_n 0, 1) := by decide +kernel
theorem dX7_text_11 : decode cX7_text 11 = .ok (.iconst 0, 1) := by decide +kernel
theorem dX7_text_12 : decode cX7_text 12 = .ok (.putfield 110, 3) := by decide +kernel
theorem dX7_text_15 : decode cX7_text 15 = .ok (.aload_n 0, 1) := by decide +kernel
theorem dX7_text_16 : decode cX7_text 16 = .ok (.iconst 0, 1) := by decide +kernel
theorem dX7_text_17 : decode cX7_text 17 = .ok (.putfield 114, 3) := by decide +kernel
theorem dX7_text_20 : decode cX7_text 20 = .ok (.iconst 0, 1) := by decide +kernel
theorem dX7_text_21 : decode cX7_text 21 = .ok (.istore_n 1, 1) := by decide +kernel
theorem dX7_text_22 : decode cX7_text 22 = .ok (.iconst 0, 1) := by decide +kernel
theorem dX7_text_23 : decode cX7_text 23 = .ok (.istore_n 2, 1) := by decide +kernel
theorem dX7_text_24 : decode cX7_text 24 = .ok (.iload_n 2, 1) := by decide +kernel
theorem dX7_text_25 : decode cX7_text 25 = .ok (.bipush 53, 2) := by decide +kernel
theorem dX7_text_27 : decode cX7_text 27 = .ok (.if_icmp .ge 16, 3) := by decide +kernel
theorem dX7_text_30 : decode cX7_text 30 = .ok (.aload_n 0, 1) := by decide +kernel
theorem dX7_text_31 : decode cX7_text 31 = .ok (.getfield 13, 3) := by decide +kernel
theorem dX7_text_34 : decode cX7_text 34 = .ok (.iload_n 2, 1) := by decide +kernel
theorem dX7_text_35 : decode cX7_text 35 = .ok (.iconst 0, 1) := by decide +kernel
theorem dX7_text_36 : decode cX7_text 36 = .ok (.iastore, 1) := by decide +kernel
theorem dX7_text_37 : decode cX7_text 37 = .ok (.iinc 2 1, 3) := by decide +kernel
theorem dX7_text_40 : decode cX7_text 40 = .ok (.goto (-16), 3) := by decide +kernel
theorem dX7_text_43 : decode cX7_text 43 = .ok (.aload_n 0, 1) := by decide +kernel
theorem dX7_text_44 : decode cX7_text 44 = .ok (.invokevirtual 97, 3) := by decide +kernel
theorem dX7_text_47 : decode cX7_text 47 = .ok (.aload_n 0, 1) := by decide +kernel
theorem dX7_text_48 : decode cX7_text 48 = .ok (.getfield 63, 3) := by decide +kernel
theorem dX7_text_51 : decode cX7_text 51 = .ok (.ifCond .ne 20, 3) := by decide +kernel
theorem dX7_text_54 : decode cX7_text 54 = .ok (.aload_n 0, 1) := by decide +kernel
theorem dX7_text_55 : decode cX7_text 55 = .ok (.getfield 72, 3) := by decide +kernel
theorem dX7_text_58 : decode cX7_text 58 = .ok (.ifCond .eq 13, 3) := by decide +kernel
theorem dX7_text_61 : decode cX7_text 61 = .ok (.aload_n 0, 1) := by decide +kernel
theorem dX7_text_62 : decode cX7_text 62 = .ok (.invokevirtual 120, 3) := by decide +kernel
theorem dX7_text_65 : decode cX7_text 65 = .ok (.iinc 1 1, 3) := by decide +kernel
theorem dX7_text_68 : decode cX7_text 68 = .ok (.goto (-21), 3) := by decide +kernel
theorem dX7_text_71 : decode cX7_text 71 = .ok (.aload_n 0, 1) := by decide +kernel
theorem dX7_text_72 : decode cX7_text 72 = .ok (.iconst 0, 1) := by decide +kernel
theorem dX7_text_73 : decode cX7_text 73 = .ok (.putfield 59, 3) := by decide +kernel
theorem dX7_text_76 : decode cX7_text 76 = .ok (.aload_n 0, 1) := by decide +kernel
theorem dX7_text_77 : decode cX7_text 77 = .ok (.aload_n 0, 1) := by decide +kernel
theorem dX7_text_78 : decode cX7_text 78 = .ok (.getfield 63, 3) := by decide +kernel
theorem dX7_text_81 : decode cX7_text 81 = .ok (.putfield 123, 3) := by decide +kernel
theorem dX7_text_84 : decode cX7_text 84 = .ok (.aload_n 0, 1) := by decide +kernel
theorem dX7_text_85 : decode cX7_text 85 = .ok (.getfield 63, 3) := by decide +kernel
theorem dX7_text_88 : decode cX7_text 88 = .ok (.ifCond .le 11, 3) := by decide +kernel
theorem dX7_text_91 : decode cX7_text 91 = .ok (.bipush (-10), 2) := by decide +kernel
theorem dX7_text_93 : decode cX7_text 93 = .ok (.aload_n 0, 1) := by decide +kernel
theorem dX7_text_94 : decode cX7_text 94 = .ok (.getfield 69, 3) := by decide +kernel
theorem dX7_text_97 : decode cX7_text 97 = .ok (.isub, 1) := by decide +kernel
theorem dX7_text_98 : decode cX7_text 98 = .ok (.ireturn, 1) := by decide +kernel
theorem dX7_text_99 : decode cX7_text 99 = .ok (.iconst 0, 1) := by decide +kernel
theorem dX7_text_100 : decode cX7_text 100 = .ok (.istore_n 2, 1) := by decide +kernel
theorem dX7_text_101 : decode cX7_text 101 = .ok (.iload_n 2, 1) := by decide +kernel
theorem dX7_text_102 : decode cX7_text 102 = .ok (.bipush 53, 2) := by decide +kernel
theorem dX7_text_104 : decode cX7_text 104 = .ok (.if_icmp .ge 21, 3) := by decide +kernel
theorem dX7_text_107 : decode cX7_text 107 = .ok (.aload_n 0, 1) := by decide +kernel
theorem dX7_text_108 : decode cX7_text 108 = .ok (.getfield 7, 3) := by decide +kernel
theorem dX7_text_111 : decode cX7_text 111 = .ok (.iload_n 2, 1) := by decide +kernel
theorem dX7_text_112 : decode cX7_text 112 = .ok (.aload_n 0, 1) := by decide +kernel
theorem dX7_text_113 : decode cX7_text 113 = .ok (.getfield 13, 3) := by decide +kernel
theorem dX7_text_116 : decode cX7_text 116 = .ok (.iload_n 2, 1) := by decide +kernel
theorem dX7_text_117 : decode cX7_text 117 = .ok (.iaload, 1) := by decide +kernel
theorem dX7_text_118 : decode cX7_text 118 = .ok (.iastore, 1) := by decide +kernel
theorem dX7_text_119 : decode cX7_text 119 = .ok (.iinc 2 1, 3) := by decide +kernel
theorem dX7_text_122 : decode cX7_text 122 = .ok (.goto (-21), 3) := by decide +kernel
theorem dX7_text_125 : decode cX7_text 125 = .ok (.aload_n 0, 1) := by decide +kernel
theorem dX7_text_126 : decode cX7_text 126 = .ok (.iconst 0, 1) := by decide +kernel
theorem dX7_text_127 : decode cX7_text 127 = .ok (.putfield 126, 3) := by decide +kernel
theorem dX7_text_130 : decode cX7_text 130 = .ok (.aload_n 0, 1) := by decide +kernel
theorem dX7_text_131 : decode cX7_text 131 = .ok (.getfield 40, 3) := by decide +kernel
theorem dX7_text_134 : decode cX7_text 134 = .ok (.iconst 0, 1) := by decide +kernel
theorem dX7_text_135 : decode cX7_text 135 = .ok (.iconst 0, 1) := by decide +kernel
theorem dX7_text_136 : decode cX7_text 136 = .ok (.bastore, 1) := by decide +kernel
theorem dX7_text_137 : decode cX7_text 137 = .ok (.aload_n 0, 1) := by decide +kernel
theorem dX7_text_138 : decode cX7_text 138 = .ok (.getfield 40, 3) := by decide +kernel
theorem dX7_text_141 : decode cX7_text 141 = .ok (.iconst 1, 1) := by decide +kernel
theorem dX7_text_142 : decode cX7_text 142 = .ok (.iconst 0, 1) := by decide +kernel
theorem dX7_text_143 : decode cX7_text 143 = .ok (.bastore, 1) := by decide +kernel
theorem dX7_text_144 : decode cX7_text 144 = .ok (.iload_n 1, 1) := by decide +kernel
theorem dX7_text_145 : decode cX7_text 145 = .ok (.ireturn, 1) := by decide +kernel
theorem dX7_fault_0 : decode cX7_fault 0 = .ok (.aload_n 0, 1) := by decide +kernel
theorem dX7_fault_1 : decode cX7_fault 1 = .ok (.getfield 123, 3) := by decide +kernel
theorem dX7_fault_4 : decode cX7_fault 4 = .ok (.ireturn, 1) := by decide +kernel
theorem dX7_isGeyser_0 : decode cX7_isGeyser 0 = .ok (.iload_n 1, 1) := by decide +kernel
theorem dX7_isGeyser_1 : decode cX7_isGeyser 1 = .ok (.i2l, 1) := by decide +kernel
theorem dX7_isGeyser_2 : decode cX7_isGeyser 2 = .ok (.lconst 0, 1) := by decide +kernel
theorem dX7_isGeyser_3 : decode cX7_isGeyser 3 = .ok (.aload_n 0, 1) := by decide +kernel
theorem dX7_isGeyser_4 : decode cX7_isGeyser 4 = .ok (.getfield 7, 3) := by decide +kernel
theorem dX7_isGeyser_7 : decode cX7_isGeyser 7 = .ok (.bipush 24, 2) := by decide +kernel
theorem dX7_isGeyser_9 : decode cX7_isGeyser 9 = .ok (.iaload, 1) := by decide +kernel
theorem dX7_isGeyser_10 : decode cX7_isGeyser 10 = .ok (.iconst 1, 1) := by decide +kernel
theorem dX7_isGeyser_11 : decode cX7_isGeyser 11 = .ok (.isub, 1) := by decide +kernel
theorem dX7_isGeyser_12 : decode cX7_isGeyser 12 = .ok (.i2l, 1) := by decide +kernel
theorem dX7_isGeyser_13 : decode cX7_isGeyser 13 = .ok (.invokestatic 55, 3) := by decide +kernel
theorem dX7_isGeyser_16 : decode cX7_isGeyser 16 = .ok (.ireturn, 1) := by decide +kernel
theorem dX7_isRow_0 : decode cX7_isRow 0 = .ok (.iload_n 1, 1) := by decide +kernel
theorem dX7_isRow_1 : decode cX7_isRow 1 = .ok (.i2l, 1) := by decide +kernel
theorem dX7_isRow_2 : decode cX7_isRow 2 = .ok (.lconst 0, 1) := by decide +kernel
theorem dX7_isRow_3 : decode cX7_isRow 3 = .ok (.aload_n 0, 1) := by decide +kernel
theorem dX7_isRow_4 : decode cX7_isRow 4 = .ok (.getfield 7, 3) := by decide +kernel
theorem dX7_isRow_7 : decode cX7_isRow 7 = .ok (.bipush 49, 2) := by decide +kernel
theorem dX7_isRow_9 : decode cX7_isRow 9 = .ok (.iaload, 1) := by decide +kernel
theorem dX7_isRow_10 : decode cX7_isRow 10 = .ok (.iconst 1, 1) := by decide +kernel
theorem dX7_isRow_11 : decode cX7_isRow 11 = .ok (.isub, 1) := by decide +kernel
theorem dX7_isRow_12 : decode cX7_isRow 12 = .ok (.i2l, 1) := by decide +kernel
theorem dX7_isRow_13 : decode cX7_isRow 13 = .ok (.invokestatic 55, 3) := by decide +kernel
theorem dX7_isRow_16 : decode cX7_isRow 16 = .ok (.ireturn, 1) := by decide +kernel
theorem dX7_isLong_0 : decode cX7_isLong 0 = .ok (.iload_n 0, 1) := by decide +kernel
theorem dX7_isLong_1 : decode cX7_isLong 1 = .ok (.i2l, 1) := by decide +kernel
theorem dX7_isLong_2 : decode cX7_isLong 2 = .ok (.lconst 0, 1) := by decide +kernel
theorem dX7_isLong_3 : decode cX7_isLong 3 = .ok (.ldc2_w 129, 3) := by decide +kernel
theorem dX7_isLong_6 : decode cX7_isLong 6 = .ok (.invokestatic 55, 3) := by decide +kernel
theorem dX7_isLong_9 : decode cX7_isLong 9 = .ok (.ireturn, 1) := by decide +kernel
theorem dX7_shareOn_0 : decode cX7_shareOn 0 = .ok (.aload_n 0, 1) := by decide +kernel
theorem dX7_shareOn_1 : decode cX7_shareOn 1 = .ok (.getfield 7, 3) := by decide +kernel
theorem dX7_shareOn_4 : decode cX7_shareOn 4 = .ok (.iload_n 1, 1) := by decide +kernel
theorem dX7_shareOn_5 : decode cX7_shareOn 5 = .ok (.bipush 50, 2) := by decide +kernel
theorem dX7_shareOn_7 : decode cX7_shareOn 7 = .ok (.iadd, 1) := by decide +kernel
theorem dX7_shareOn_8 : decode cX7_shareOn 8 = .ok (.iaload, 1) := by decide +kernel
theorem dX7_shareOn_9 : decode cX7_shareOn 9 = .ok (.bipush 8, 2) := by decide +kernel
theorem dX7_shareOn_11 : decode cX7_shareOn 11 = .ok (.iadd, 1) := by decide +kernel
theorem dX7_shareOn_12 : decode cX7_shareOn 12 = .ok (.istore_n 3, 1) := by decide +kernel
theorem dX7_shareOn_13 : decode cX7_shareOn 13 = .ok (.aload_n 0, 1) := by decide +kernel
theorem dX7_shareOn_14 : decode cX7_shareOn 14 = .ok (.getfield 7, 3) := by decide +kernel
theorem dX7_shareOn_17 : decode cX7_shareOn 17 = .ok (.iload_n 1, 1) := by decide +kernel
theorem dX7_shareOn_18 : decode cX7_shareOn 18 = .ok (.bipush 24, 2) := by decide +kernel
theorem dX7_shareOn_20 : decode cX7_shareOn 20 = .ok (.iadd, 1) := by decide +kernel
theorem dX7_shareOn_21 : decode cX7_shareOn 21 = .ok (.iaload, 1) := by decide +kernel
theorem dX7_shareOn_22 : decode cX7_shareOn 22 = .ok (.istore 4, 2) := by decide +kernel
theorem dX7_shareOn_24 : decode cX7_shareOn 24 = .ok (.iload_n 3, 1) := by decide +kernel
theorem dX7_shareOn_25 : decode cX7_shareOn 25 = .ok (.iload 4, 2) := by decide +kernel
theorem dX7_shareOn_27 : decode cX7_shareOn 27 = .ok (.idiv, 1) := by decide +kernel
theorem dX7_shareOn_28 : decode cX7_shareOn 28 = .ok (.iload_n 2, 1) := by decide +kernel
theorem dX7_shareOn_29 : decode cX7_shareOn 29 = .ok (.iload_n 3, 1) := by decide +kernel
theorem dX7_shareOn_30 : decode cX7_shareOn 30 = .ok (.iload 4, 2) := by decide +kernel
theorem dX7_shareOn_32 : decode cX7_shareOn 32 = .ok (.irem, 1) := by decide +kernel
theorem dX7_shareOn_33 : decode cX7_shareOn 33 = .ok (.if_icmp .ge 7, 3) := by decide +kernel
theorem dX7_shareOn_36 : decode cX7_shareOn 36 = .ok (.iconst 1, 1) := by decide +kernel
theorem dX7_shareOn_37 : decode cX7_shareOn 37 = .ok (.goto 4, 3) := by decide +kernel
theorem dX7_shareOn_40 : decode cX7_shareOn 40 = .ok (.iconst 0, 1) := by decide +kernel
theorem dX7_shareOn_41 : decode cX7_shareOn 41 = .ok (.iadd, 1) := by decide +kernel
theorem dX7_shareOn_42 : decode cX7_shareOn 42 = .ok (.ireturn, 1) := by decide +kernel
theorem dX7_mindsOn_0 : decode cX7_mindsOn 0 = .ok (.aload_n 0, 1) := by decide +kernel
theorem dX7_mindsOn_1 : decode cX7_mindsOn 1 = .ok (.getfield 7, 3) := by decide +kernel
theorem dX7_mindsOn_4 : decode cX7_mindsOn 4 = .ok (.iload_n 1, 1) := by decide +kernel
theorem dX7_mindsOn_5 : decode cX7_mindsOn 5 = .ok (.iload_n 2, 1) := by decide +kernel
theorem dX7_mindsOn_6 : decode cX7_mindsOn 6 = .ok (.iadd, 1) := by decide +kernel
theorem dX7_mindsOn_7 : decode cX7_mindsOn 7 = .ok (.iaload, 1) := by decide +kernel
theorem dX7_mindsOn_8 : decode cX7_mindsOn 8 = .ok (.istore 4, 2) := by decide +kernel
theorem dX7_mindsOn_10 : decode cX7_mindsOn 10 = .ok (.iload_n 3, 1) := by decide +kernel
theorem dX7_mindsOn_11 : decode cX7_mindsOn 11 = .ok (.aload_n 0, 1) := by decide +kernel
theorem dX7_mindsOn_12 : decode cX7_mindsOn 12 = .ok (.getfield 7, 3) := by decide +kernel
theorem dX7_mindsOn_15 : decode cX7_mindsOn 15 = .ok (.iload_n 1, 1) := by decide +kernel
theorem dX7_mindsOn_16 : decode cX7_mindsOn 16 = .ok (.bipush 8, 2) := by decide +kernel
theorem dX7_mindsOn_18 : decode cX7_mindsOn 18 = .ok (.iadd, 1) := by decide +kernel
theorem dX7_mindsOn_19 : decode cX7_mindsOn 19 = .ok (.iload_n 2, 1) := by decide +kernel
theorem dX7_mindsOn_20 : decode cX7_mindsOn 20 = .ok (.iadd, 1) := by decide +kernel
theorem dX7_mindsOn_21 : decode cX7_mindsOn 21 = .ok (.iaload, 1) := by decide +kernel
theorem dX7_mindsOn_22 : decode cX7_mindsOn 22 = .ok (.if_icmp .le 19, 3) := by decide +kernel
theorem dX7_mindsOn_25 : decode cX7_mindsOn 25 = .ok (.iload_n 3, 1) := by decide +kernel
theorem dX7_mindsOn_26 : decode cX7_mindsOn 26 = .ok (.aload_n 0, 1) := by decide +kernel
theorem dX7_mindsOn_27 : decode cX7_mindsOn 27 = .ok (.getfield 7, 3) := by decide +kernel
theorem dX7_mindsOn_30 : decode cX7_mindsOn 30 = .ok (.iload_n 1, 1) := by decide +kernel
theorem dX7_mindsOn_31 : decode cX7_mindsOn 31 = .ok (.bipush 8, 2) := by decide +kernel
theorem dX7_mindsOn_33 : decode cX7_mindsOn 33 = .ok (.iadd, 1) := by decide +kernel
theorem dX7_mindsOn_34 : decode cX7_mindsOn 34 = .ok (.iload_n 2, 1) := by decide +kernel
theorem dX7_mindsOn_35 : decode cX7_mindsOn 35 = .ok (.iadd, 1) := by decide +kernel
theorem dX7_mindsOn_36 : decode cX7_mindsOn 36 = .ok (.iaload, 1) := by decide +kernel
theorem dX7_mindsOn_37 : decode cX7_mindsOn 37 = .ok (.isub, 1) := by decide +kernel
theorem dX7_mindsOn_38 : decode cX7_mindsOn 38 = .ok (.goto 4, 3) := by decide +kernel
theorem dX7_mindsOn_41 : decode cX7_mindsOn 41 = .ok (.iconst 0, 1) := by decide +kernel
theorem dX7_mindsOn_42 : decode cX7_mindsOn 42 = .ok (.istore 5, 2) := by decide +kernel
theorem dX7_mindsOn_44 : decode cX7_mindsOn 44 = .ok (.iload 5, 2) := by decide +kernel
theorem dX7_mindsOn_46 : decode cX7_mindsOn 46 = .ok (.iload 4, 2) := by decide +kernel
theorem dX7_mindsOn_48 : decode cX7_mindsOn 48 = .ok (.ifCond .ne 7, 3) := by decide +kernel
theorem dX7_mindsOn_51 : decode cX7_mindsOn 51 = .ok (.iconst 1, 1) := by decide +kernel
theorem dX7_mindsOn_52 : decode cX7_mindsOn 52 = .ok (.goto 4, 3) := by decide +kernel
theorem dX7_mindsOn_55 : decode cX7_mindsOn 55 = .ok (.iconst 2, 1) := by decide +kernel
theorem dX7_mindsOn_56 : decode cX7_mindsOn 56 = .ok (.imul, 1) := by decide +kernel
theorem dX7_mindsOn_57 : decode cX7_mindsOn 57 = .ok (.istore 5, 2) := by decide +kernel
theorem dX7_mindsOn_59 : decode cX7_mindsOn 59 = .ok (.iload 5, 2) := by decide +kernel
theorem dX7_mindsOn_61 : decode cX7_mindsOn 61 = .ok (.iload 4, 2) := by decide +kernel
theorem dX7_mindsOn_63 : decode cX7_mindsOn 63 = .ok (.iconst 1, 1) := by decide +kernel
theorem dX7_mindsOn_64 : decode cX7_mindsOn 64 = .ok (.if_icmp .le 11, 3) := by decide +kernel
theorem dX7_mindsOn_67 : decode cX7_mindsOn 67 = .ok (.iload_n 3, 1) := by decide +kernel
theorem dX7_mindsOn_68 : decode cX7_mindsOn 68 = .ok (.ifCond .le 7, 3) := by decide +kernel
theorem dX7_mindsOn_71 : decode cX7_mindsOn 71 = .ok (.iconst 1, 1) := by decide +kernel
theorem dX7_mindsOn_72 : decode cX7_mindsOn 72 = .ok (.goto 4, 3) := by decide +kernel
theorem dX7_mindsOn_75 : decode cX7_mindsOn 75 = .ok (.iconst 0, 1) := by decide +kernel
theorem dX7_mindsOn_76 : decode cX7_mindsOn 76 = .ok (.iadd, 1) := by decide +kernel
theorem dX7_mindsOn_77 : decode cX7_mindsOn 77 = .ok (.istore 5, 2) := by decide +kernel
theorem dX7_mindsOn_79 : decode cX7_mindsOn 79 = .ok (.iload 5, 2) := by decide +kernel
theorem dX7_mindsOn_81 : decode cX7_mindsOn 81 = .ok (.iload 4, 2) := by decide +kernel
theorem dX7_mindsOn_83 : decode cX7_mindsOn 83 = .ok (.iconst 3, 1) := by decide +kernel
theorem dX7_mindsOn_84 : decode cX7_mindsOn 84 = .ok (.if_icmp .ne 13, 3) := by decide +kernel
theorem dX7_mindsOn_87 : decode cX7_mindsOn 87 = .ok (.iload_n 3, 1) := by decide +kernel
theorem dX7_mindsOn_88 : decode cX7_mindsOn 88 = .ok (.bipush 9, 2) := by decide +kernel
theorem dX7_mindsOn_90 : decode cX7_mindsOn 90 = .ok (.if_icmp .ne 7, 3) := by decide +kernel
theorem dX7_mindsOn_93 : decode cX7_mindsOn 93 = .ok (.iconst 5, 1) := by decide +kernel
theorem dX7_mindsOn_94 : decode cX7_mindsOn 94 = .ok (.goto 4, 3) := by decide +kernel
theorem dX7_mindsOn_97 : decode cX7_mindsOn 97 = .ok (.iconst 0, 1) := by decide +kernel
theorem dX7_mindsOn_98 : decode cX7_mindsOn 98 = .ok (.iadd, 1) := by decide +kernel
theorem dX7_mindsOn_99 : decode cX7_mindsOn 99 = .ok (.ireturn, 1) := by decide +kernel
theorem dX7_fadesOn_0 : decode cX7_fadesOn 0 = .ok (.aload_n 0, 1) := by decide +kernel
theorem dX7_fadesOn_1 : decode cX7_fadesOn 1 = .ok (.getfield 7, 3) := by decide +kernel
theorem dX7_fadesOn_4 : decode cX7_fadesOn 4 = .ok (.iload_n 1, 1) := by decide +kernel
theorem dX7_fadesOn_5 : decode cX7_fadesOn 5 = .ok (.iload_n 2, 1) := by decide +kernel
theorem dX7_fadesOn_6 : decode cX7_fadesOn 6 = .ok (.iadd, 1) := by decide +kernel
theorem dX7_fadesOn_7 : decode cX7_fadesOn 7 = .ok (.iaload, 1) := by decide +kernel
theorem dX7_fadesOn_8 : decode cX7_fadesOn 8 = .ok (.istore_n 3, 1) := by decide +kernel
theorem dX7_fadesOn_9 : decode cX7_fadesOn 9 = .ok (.iload_n 3, 1) := by decide +kernel
theorem dX7_fadesOn_10 : decode cX7_fadesOn 10 = .ok (.ifCond .ne 7, 3) := by decide +kernel
theorem dX7_fadesOn_13 : decode cX7_fadesOn 13 = .ok (.iconst 2, 1) := by decide +kernel
theorem dX7_fadesOn_14 : decode cX7_fadesOn 14 = .ok (.goto 13, 3) := by decide +kernel
theorem dX7_fadesOn_17 : decode cX7_fadesOn 17 = .ok (.iload_n 3, 1) := by decide +kernel
theorem dX7_fadesOn_18 : decode cX7_fadesOn 18 = .ok (.iconst 1, 1) := by decide +kernel
theorem dX7_fadesOn_19 : decode cX7_fadesOn 19 = .ok (.if_icmp .ne 7, 3) := by decide +kernel
theorem dX7_fadesOn_22 : decode cX7_fadesOn 22 = .ok (.iconst 1, 1) := by decide +kernel
theorem dX7_fadesOn_23 : decode cX7_fadesOn 23 = .ok (.goto 4, 3) := by decide +kernel
theorem dX7_fadesOn_26 : decode cX7_fadesOn 26 = .ok (.iconst 0, 1) := by decide +kernel
theorem dX7_fadesOn_27 : decode cX7_fadesOn 27 = .ok (.ireturn, 1) := by decide +kernel
theorem dX7_rowOn_0 : decode cX7_rowOn 0 = .ok (.aload_n 0, 1) := by decide +kernel
theorem dX7_rowOn_1 : decode cX7_rowOn 1 = .ok (.getfield 7, 3) := by decide +kernel
theorem dX7_rowOn_4 : decode cX7_rowOn 4 = .ok (.iload_n 1, 1) := by decide +kernel
theorem dX7_rowOn_5 : decode cX7_rowOn 5 = .ok (.bipush 49, 2) := by decide +kernel
theorem dX7_rowOn_7 : decode cX7_rowOn 7 = .ok (.iadd, 1) := by decide +kernel
theorem dX7_rowOn_8 : decode cX7_rowOn 8 = .ok (.iaload, 1) := by decide +kernel
theorem dX7_rowOn_9 : decode cX7_rowOn 9 = .ok (.ifCond .ne 8, 3) := by decide +kernel
theorem dX7_rowOn_12 : decode cX7_rowOn 12 = .ok (.bipush (-4), 2) := by decide +kernel
theorem dX7_rowOn_14 : decode cX7_rowOn 14 = .ok (.goto 22, 3) := by decide +kernel
theorem dX7_rowOn_17 : decode cX7_rowOn 17 = .ok (.aload_n 0, 1) := by decide +kernel
theorem dX7_rowOn_18 : decode cX7_rowOn 18 = .ok (.getfield 7, 3) := by decide +kernel
theorem dX7_rowOn_21 : decode cX7_rowOn 21 = .ok (.iload_n 1, 1) := by decide +kernel
theorem dX7_rowOn_22 : decode cX7_rowOn 22 = .ok (.bipush 52, 2) := by decide +kernel
theorem dX7_rowOn_24 : decode cX7_rowOn 24 = .ok (.iadd, 1) := by decide +kernel
theorem dX7_rowOn_25 : decode cX7_rowOn 25 = .ok (.iaload, 1) := by decide +kernel
theorem dX7_rowOn_26 : decode cX7_rowOn 26 = .ok (.aload_n 0, 1) := by decide +kernel
theorem dX7_rowOn_27 : decode cX7_rowOn 27 = .ok (.getfield 7, 3) := by decide +kernel
theorem dX7_rowOn_30 : decode cX7_rowOn 30 = .ok (.iload_n 1, 1) := by decide +kernel
theorem dX7_rowOn_31 : decode cX7_rowOn 31 = .ok (.bipush 49, 2) := by decide +kernel
theorem dX7_rowOn_33 : decode cX7_rowOn 33 = .ok (.iadd, 1) := by decide +kernel
theorem dX7_rowOn_34 : decode cX7_rowOn 34 = .ok (.iaload, 1) := by decide +kernel
theorem dX7_rowOn_35 : decode cX7_rowOn 35 = .ok (.irem, 1) := by decide +kernel
theorem dX7_rowOn_36 : decode cX7_rowOn 36 = .ok (.ireturn, 1) := by decide +kernel
theorem dX7_watchersOn_0 : decode cX7_watchersOn 0 = .ok (.aload_n 0, 1) := by decide +kernel
theorem dX7_watchersOn_1 : decode cX7_watchersOn 1 = .ok (.iload_n 1, 1) := by decide +kernel
theorem dX7_watchersOn_2 : decode cX7_watchersOn 2 = .ok (.invokevirtual 131, 3) := by decide +kernel
theorem dX7_watchersOn_5 : decode cX7_watchersOn 5 = .ok (.istore_n 2, 1) := by decide +kernel
theorem dX7_watchersOn_6 : decode cX7_watchersOn 6 = .ok (.iload_n 2, 1) := by decide +kernel
theorem dX7_watchersOn_7 : decode cX7_watchersOn 7 = .ok (.bipush (-4), 2) := by decide +kernel
theorem dX7_watchersOn_9 : decode cX7_watchersOn 9 = .ok (.if_icmp .ne 7, 3) := by decide +kernel
theorem dX7_watchersOn_12 : decode cX7_watchersOn 12 = .ok (.iconst 0, 1) := by decide +kernel
theorem dX7_watchersOn_13 : decode cX7_watchersOn 13 = .ok (.goto 14, 3) := by decide +kernel
theorem dX7_watchersOn_16 : decode cX7_watchersOn 16 = .ok (.aload_n 0, 1) := by decide +kernel
theorem dX7_watchersOn_17 : decode cX7_watchersOn 17 = .ok (.getfield 7, 3) := by decide +kernel
theorem dX7_watchersOn_20 : decode cX7_watchersOn 20 = .ok (.iload_n 1, 1) := by decide +kernel
theorem dX7_watchersOn_21 : decode cX7_watchersOn 21 = .ok (.bipush 25, 2) := by decide +kernel
theorem dX7_watchersOn_23 : decode cX7_watchersOn 23 = .ok (.iadd, 1) := by decide +kernel
theorem dX7_watchersOn_24 : decode cX7_watchersOn 24 = .ok (.iload_n 2, 1) := by decide +kernel
theorem dX7_watchersOn_25 : decode cX7_watchersOn 25 = .ok (.iadd, 1) := by decide +kernel
theorem dX7_watchersOn_26 : decode cX7_watchersOn 26 = .ok (.iaload, 1) := by decide +kernel
theorem dX7_watchersOn_27 : decode cX7_watchersOn 27 = .ok (.ireturn, 1) := by decide +kernel
theorem dX7_whomOn_0 : decode cX7_whomOn 0 = .ok (.aload_n 0, 1) := by decide +kernel
theorem dX7_whomOn_1 : decode cX7_whomOn 1 = .ok (.iload_n 1, 1) := by decide +kernel
theorem dX7_whomOn_2 : decode cX7_whomOn 2 = .ok (.invokevirtual 131, 3) := by decide +kernel
theorem dX7_whomOn_5 : decode cX7_whomOn 5 = .ok (.istore_n 2, 1) := by decide +kernel
theorem dX7_whomOn_6 : decode cX7_whomOn 6 = .ok (.iload_n 2, 1) := by decide +kernel
theorem dX7_whomOn_7 : decode cX7_whomOn 7 = .ok (.bipush (-4), 2) := by decide +kernel
theorem dX7_whomOn_9 : decode cX7_whomOn 9 = .ok (.if_icmp .ne 7, 3) := by decide +kernel
theorem dX7_whomOn_12 : decode cX7_whomOn 12 = .ok (.iconst 4, 1) := by decide +kernel
theorem dX7_whomOn_13 : decode cX7_whomOn 13 = .ok (.goto 14, 3) := by decide +kernel
theorem dX7_whomOn_16 : decode cX7_whomOn 16 = .ok (.aload_n 0, 1) := by decide +kernel
theorem dX7_whomOn_17 : decode cX7_whomOn 17 = .ok (.getfield 7, 3) := by decide +kernel
theorem dX7_whomOn_20 : decode cX7_whomOn 20 = .ok (.iload_n 1, 1) := by decide +kernel
theorem dX7_whomOn_21 : decode cX7_whomOn 21 = .ok (.bipush 37, 2) := by decide +kernel
theorem dX7_whomOn_23 : decode cX7_whomOn 23 = .ok (.iadd, 1) := by decide +kernel
theorem dX7_whomOn_24 : decode cX7_whomOn 24 = .ok (.iload_n 2, 1) := by decide +kernel
theorem dX7_whomOn_25 : decode cX7_whomOn 25 = .ok (.iadd, 1) := by decide +kernel
theorem dX7_whomOn_26 : decode cX7_whomOn 26 = .ok (.iaload, 1) := by decide +kernel
theorem dX7_whomOn_27 : decode cX7_whomOn 27 = .ok (.ireturn, 1) := by decide +kernel
theorem dX7_goesUp_0 : decode cX7_goesUp 0 = .ok (.aload_n 0, 1) := by decide +kernel
theorem dX7_goesUp_1 : decode cX7_goesUp 1 = .ok (.getfield 7, 3) := by decide +kernel
theorem dX7_goesUp_4 : decode cX7_goesUp 4 = .ok (.iload_n 1, 1) := by decide +kernel
theorem dX7_goesUp_5 : decode cX7_goesUp 5 = .ok (.bipush 12, 2) := by decide +kernel
theorem dX7_goesUp_7 : decode cX7_goesUp 7 = .ok (.iadd, 1) := by decide +kernel
theorem dX7_goesUp_8 : decode cX7_goesUp 8 = .ok (.iload_n 2, 1) := by decide +kernel
theorem dX7_goesUp_9 : decode cX7_goesUp 9 = .ok (.iadd, 1) := by decide +kernel
theorem dX7_goesUp_10 : decode cX7_goesUp 10 = .ok (.iaload, 1) := by decide +kernel
theorem dX7_goesUp_11 : decode cX7_goesUp 11 = .ok (.aload_n 0, 1) := by decide +kernel
theorem dX7_goesUp_12 : decode cX7_goesUp 12 = .ok (.iload_n 1, 1) := by decide +kernel
theorem dX7_goesUp_13 : decode cX7_goesUp 13 = .ok (.iload_n 2, 1) := by decide +kernel
theorem dX7_goesUp_14 : decode cX7_goesUp 14 = .ok (.invokevirtual 134, 3) := by decide +kernel
theorem dX7_goesUp_17 : decode cX7_goesUp 17 = .ok (.iadd, 1) := by decide +kernel
theorem dX7_goesUp_18 : decode cX7_goesUp 18 = .ok (.istore 5, 2) := by decide +kernel
theorem dX7_goesUp_20 : decode cX7_goesUp 20 = .ok (.aload_n 0, 1) := by decide +kernel
theorem dX7_goesUp_21 : decode cX7_goesUp 21 = .ok (.getfield 7, 3) := by decide +kernel
theorem dX7_goesUp_24 : decode cX7_goesUp 24 = .ok (.iload_n 1, 1) := by decide +kernel
theorem dX7_goesUp_25 : decode cX7_goesUp 25 = .ok (.bipush 16, 2) := by decide +kernel
theorem dX7_goesUp_27 : decode cX7_goesUp 27 = .ok (.iadd, 1) := by decide +kernel
theorem dX7_goesUp_28 : decode cX7_goesUp 28 = .ok (.iload_n 2, 1) := by decide +kernel
theorem dX7_goesUp_29 : decode cX7_goesUp 29 = .ok (.iadd, 1) := by decide +kernel
theorem dX7_goesUp_30 : decode cX7_goesUp 30 = .ok (.iaload, 1) := by decide +kernel
theorem dX7_goesUp_31 : decode cX7_goesUp 31 = .ok (.aload_n 0, 1) := by decide +kernel
theorem dX7_goesUp_32 : decode cX7_goesUp 32 = .ok (.iload_n 1, 1) := by decide +kernel
theorem dX7_goesUp_33 : decode cX7_goesUp 33 = .ok (.iload_n 2, 1) := by decide +kernel
theorem dX7_goesUp_34 : decode cX7_goesUp 34 = .ok (.iload_n 3, 1) := by decide +kernel
theorem dX7_goesUp_35 : decode cX7_goesUp 35 = .ok (.invokevirtual 137, 3) := by decide +kernel
theorem dX7_goesUp_38 : decode cX7_goesUp 38 = .ok (.iadd, 1) := by decide +kernel
theorem dX7_goesUp_39 : decode cX7_goesUp 39 = .ok (.istore 6, 2) := by decide +kernel
theorem dX7_goesUp_41 : decode cX7_goesUp 41 = .ok (.iload 5, 2) := by decide +kernel
theorem dX7_goesUp_43 : decode cX7_goesUp 43 = .ok (.sipush 199, 3) := by decide +kernel
theorem dX7_goesUp_46 : decode cX7_goesUp 46 = .ok (.if_icmp .le 9, 3) := by decide +kernel
theorem dX7_goesUp_49 : decode cX7_goesUp 49 = .ok (.sipush 199, 3) := by decide +kernel
theorem dX7_goesUp_52 : decode cX7_goesUp 52 = .ok (.goto 5, 3) := by decide +kernel
theorem dX7_goesUp_55 : decode cX7_goesUp 55 = .ok (.iload 5, 2) := by decide +kernel
theorem dX7_goesUp_57 : decode cX7_goesUp 57 = .ok (.istore 5, 2) := by decide +kernel
theorem dX7_goesUp_59 : decode cX7_goesUp 59 = .ok (.iload 6, 2) := by decide +kernel
theorem dX7_goesUp_61 : decode cX7_goesUp 61 = .ok (.bipush 20, 2) := by decide +kernel
theorem dX7_goesUp_63 : decode cX7_goesUp 63 = .ok (.if_icmp .le 8, 3) := by decide +kernel
theorem dX7_goesUp_66 : decode cX7_goesUp 66 = .ok (.bipush 20, 2) := by decide +kernel
theorem dX7_goesUp_68 : decode cX7_goesUp 68 = .ok (.goto 5, 3) := by decide +kernel
theorem dX7_goesUp_71 : decode cX7_goesUp 71 = .ok (.iload 6, 2) := by decide +kernel
theorem dX7_goesUp_73 : decode cX7_goesUp 73 = .ok (.istore 6, 2) := by decide +kernel
theorem dX7_goesUp_75 : decode cX7_goesUp 75 = .ok (.iload 6, 2) := by decide +kernel
theorem dX7_goesUp_77 : decode cX7_goesUp 77 = .ok (.iload 4, 2) := by decide +kernel
theorem dX7_goesUp_79 : decode cX7_goesUp 79 = .ok (.iload_n 2, 1) := by decide +kernel
theorem dX7_goesUp_80 : decode cX7_goesUp 80 = .ok (.if_icmp .ne 17, 3) := by decide +kernel
theorem dX7_goesUp_83 : decode cX7_goesUp 83 = .ok (.aload_n 0, 1) := by decide +kernel
theorem dX7_goesUp_84 : decode cX7_goesUp 84 = .ok (.getfield 7, 3) := by decide +kernel
theorem dX7_goesUp_87 : decode cX7_goesUp 87 = .ok (.iload_n 1, 1) := by decide +kernel
theorem dX7_goesUp_88 : decode cX7_goesUp 88 = .ok (.bipush 51, 2) := by decide +kernel
theorem dX7_goesUp_90 : decode cX7_goesUp 90 = .ok (.iadd, 1) := by decide +kernel
theorem dX7_goesUp_91 : decode cX7_goesUp 91 = .ok (.iaload, 1) := by decide +kernel
theorem dX7_goesUp_92 : decode cX7_goesUp 92 = .ok (.iconst 4, 1) := by decide +kernel
theorem dX7_goesUp_93 : decode cX7_goesUp 93 = .ok (.iadd, 1) := by decide +kernel
theorem dX7_goesUp_94 : decode cX7_goesUp 94 = .ok (.goto 4, 3) := by decide +kernel
theorem dX7_goesUp_97 : decode cX7_goesUp 97 = .ok (.iconst 0, 1) := by decide +kernel
theorem dX7_goesUp_98 : decode cX7_goesUp 98 = .ok (.isub, 1) := by decide +kernel
theorem dX7_goesUp_99 : decode cX7_goesUp 99 = .ok (.istore 6, 2) := by decide +kernel
theorem dX7_goesUp_101 : decode cX7_goesUp 101 = .ok (.iload 6, 2) := by decide +kernel
theorem dX7_goesUp_103 : decode cX7_goesUp 103 = .ok (.ifCond .ge 7, 3) := by decide +kernel
theorem dX7_goesUp_106 : decode cX7_goesUp 106 = .ok (.iconst 0, 1) := by decide +kernel
theorem dX7_goesUp_107 : decode cX7_goesUp 107 = .ok (.goto 5, 3) := by decide +kernel
theorem dX7_goesUp_110 : decode cX7_goesUp 110 = .ok (.iload 6, 2) := by decide +kernel
theorem dX7_goesUp_112 : decode cX7_goesUp 112 = .ok (.istore 6, 2) := by decide +kernel
theorem dX7_goesUp_114 : decode cX7_goesUp 114 = .ok (.iload 6, 2) := by decide +kernel
theorem dX7_goesUp_116 : decode cX7_goesUp 116 = .ok (.iload_n 3, 1) := by decide +kernel
theorem dX7_goesUp_117 : decode cX7_goesUp 117 = .ok (.ifCond .ne 12, 3) := by decide +kernel
theorem dX7_goesUp_120 : decode cX7_goesUp 120 = .ok (.aload_n 0, 1) := by decide +kernel
theorem dX7_goesUp_121 : decode cX7_goesUp 121 = .ok (.iload_n 1, 1) := by decide +kernel
theorem dX7_goesUp_122 : decode cX7_goesUp 122 = .ok (.iload_n 2, 1) := by decide +kernel
theorem dX7_goesUp_123 : decode cX7_goesUp 123 = .ok (.invokevirtual 141, 3) := by decide +kernel
theorem dX7_goesUp_126 : decode cX7_goesUp 126 = .ok (.goto 4, 3) := by decide +kernel
theorem dX7_goesUp_129 : decode cX7_goesUp 129 = .ok (.iconst 0, 1) := by decide +kernel
theorem dX7_goesUp_130 : decode cX7_goesUp 130 = .ok (.isub, 1) := by decide +kernel
theorem dX7_goesUp_131 : decode cX7_goesUp 131 = .ok (.istore 6, 2) := by decide +kernel
theorem dX7_goesUp_133 : decode cX7_goesUp 133 = .ok (.iload 6, 2) := by decide +kernel
theorem dX7_goesUp_135 : decode cX7_goesUp 135 = .ok (.ifCond .ge 7, 3) := by decide +kernel
theorem dX7_goesUp_138 : decode cX7_goesUp 138 = .ok (.iconst 0, 1) := by decide +kernel
theorem dX7_goesUp_139 : decode cX7_goesUp 139 = .ok (.goto 5, 3) := by decide +kernel
theorem dX7_goesUp_142 : decode cX7_goesUp 142 = .ok (.iload 6, 2) := by decide +kernel
theorem dX7_goesUp_144 : decode cX7_goesUp 144 = .ok (.istore 6, 2) := by decide +kernel
theorem dX7_goesUp_146 : decode cX7_goesUp 146 = .ok (.iload 5, 2) := by decide +kernel
theorem dX7_goesUp_148 : decode cX7_goesUp 148 = .ok (.aload_n 0, 1) := by decide +kernel
theorem dX7_goesUp_149 : decode cX7_goesUp 149 = .ok (.getfield 7, 3) := by decide +kernel
theorem dX7_goesUp_152 : decode cX7_goesUp 152 = .ok (.iload_n 1, 1) := by decide +kernel
theorem dX7_goesUp_153 : decode cX7_goesUp 153 = .ok (.iconst 4, 1) := by decide +kernel
theorem dX7_goesUp_154 : decode cX7_goesUp 154 = .ok (.iadd, 1) := by decide +kernel
theorem dX7_goesUp_155 : decode cX7_goesUp 155 = .ok (.iload_n 2, 1) := by decide +kernel
theorem dX7_goesUp_156 : decode cX7_goesUp 156 = .ok (.iadd, 1) := by decide +kernel
theorem dX7_goesUp_157 : decode cX7_goesUp 157 = .ok (.iaload, 1) := by decide +kernel
theorem dX7_goesUp_158 : decode cX7_goesUp 158 = .ok (.iload 6, 2) := by decide +kernel
theorem dX7_goesUp_160 : decode cX7_goesUp 160 = .ok (.iadd, 1) := by decide +kernel
theorem dX7_goesUp_161 : decode cX7_goesUp 161 = .ok (.if_icmp .lt 7, 3) := by decide +kernel
theorem dX7_goesUp_164 : decode cX7_goesUp 164 = .ok (.iconst 1, 1) := by decide +kernel
theorem dX7_goesUp_165 : decode cX7_goesUp 165 = .ok (.goto 4, 3) := by decide +kernel
theorem dX7_goesUp_168 : decode cX7_goesUp 168 = .ok (.iconst 0, 1) := by decide +kernel
theorem dX7_goesUp_169 : decode cX7_goesUp 169 = .ok (.istore 7, 2) := by decide +kernel
theorem dX7_goesUp_171 : decode cX7_goesUp 171 = .ok (.aload_n 0, 1) := by decide +kernel
theorem dX7_goesUp_172 : decode cX7_goesUp 172 = .ok (.getfield 7, 3) := by decide +kernel
theorem dX7_goesUp_175 : decode cX7_goesUp 175 = .ok (.iload_n 1, 1) := by decide +kernel
theorem dX7_goesUp_176 : decode cX7_goesUp 176 = .ok (.bipush 12, 2) := by decide +kernel
theorem dX7_goesUp_178 : decode cX7_goesUp 178 = .ok (.iadd, 1) := by decide +kernel
theorem dX7_goesUp_179 : decode cX7_goesUp 179 = .ok (.iload_n 2, 1) := by decide +kernel
theorem dX7_goesUp_180 : decode cX7_goesUp 180 = .ok (.iadd, 1) := by decide +kernel
theorem dX7_goesUp_181 : decode cX7_goesUp 181 = .ok (.iload 7, 2) := by decide +kernel
theorem dX7_goesUp_183 : decode cX7_goesUp 183 = .ok (.ifCond .eq 7, 3) := by decide +kernel
theorem dX7_goesUp_186 : decode cX7_goesUp 186 = .ok (.iconst 0, 1) := by decide +kernel
theorem dX7_goesUp_187 : decode cX7_goesUp 187 = .ok (.goto 5, 3) := by decide +kernel
theorem dX7_goesUp_190 : decode cX7_goesUp 190 = .ok (.iload 5, 2) := by decide +kernel
theorem dX7_goesUp_192 : decode cX7_goesUp 192 = .ok (.iastore, 1) := by decide +kernel
theorem dX7_goesUp_193 : decode cX7_goesUp 193 = .ok (.aload_n 0, 1) := by decide +kernel
theorem dX7_goesUp_194 : decode cX7_goesUp 194 = .ok (.getfield 7, 3) := by decide +kernel
theorem dX7_goesUp_197 : decode cX7_goesUp 197 = .ok (.iload_n 1, 1) := by decide +kernel
theorem dX7_goesUp_198 : decode cX7_goesUp 198 = .ok (.bipush 16, 2) := by decide +kernel
theorem dX7_goesUp_200 : decode cX7_goesUp 200 = .ok (.iadd, 1) := by decide +kernel
theorem dX7_goesUp_201 : decode cX7_goesUp 201 = .ok (.iload_n 2, 1) := by decide +kernel
theorem dX7_goesUp_202 : decode cX7_goesUp 202 = .ok (.iadd, 1) := by decide +kernel
theorem dX7_goesUp_203 : decode cX7_goesUp 203 = .ok (.iload 7, 2) := by decide +kernel
theorem dX7_goesUp_205 : decode cX7_goesUp 205 = .ok (.ifCond .eq 7, 3) := by decide +kernel
theorem dX7_goesUp_208 : decode cX7_goesUp 208 = .ok (.iconst 0, 1) := by decide +kernel
theorem dX7_goesUp_209 : decode cX7_goesUp 209 = .ok (.goto 5, 3) := by decide +kernel
theorem dX7_goesUp_212 : decode cX7_goesUp 212 = .ok (.iload 6, 2) := by decide +kernel
theorem dX7_goesUp_214 : decode cX7_goesUp 214 = .ok (.iastore, 1) := by decide +kernel
theorem dX7_goesUp_215 : decode cX7_goesUp 215 = .ok (.aload_n 0, 1) := by decide +kernel
theorem dX7_goesUp_216 : decode cX7_goesUp 216 = .ok (.getfield 7, 3) := by decide +kernel
theorem dX7_goesUp_219 : decode cX7_goesUp 219 = .ok (.iload_n 1, 1) := by decide +kernel
theorem dX7_goesUp_220 : decode cX7_goesUp 220 = .ok (.bipush 20, 2) := by decide +kernel
theorem dX7_goesUp_222 : decode cX7_goesUp 222 = .ok (.iadd, 1) := by decide +kernel
theorem dX7_goesUp_223 : decode cX7_goesUp 223 = .ok (.iload_n 2, 1) := by decide +kernel
theorem dX7_goesUp_224 : decode cX7_goesUp 224 = .ok (.iadd, 1) := by decide +kernel
theorem dX7_goesUp_225 : decode cX7_goesUp 225 = .ok (.dup2, 1) := by decide +kernel
theorem dX7_goesUp_226 : decode cX7_goesUp 226 = .ok (.iaload, 1) := by decide +kernel
theorem dX7_goesUp_227 : decode cX7_goesUp 227 = .ok (.iload 7, 2) := by decide +kernel
theorem dX7_goesUp_229 : decode cX7_goesUp 229 = .ok (.ifCond .eq 7, 3) := by decide +kernel
theorem dX7_goesUp_232 : decode cX7_goesUp 232 = .ok (.iconst 1, 1) := by decide +kernel
theorem dX7_goesUp_233 : decode cX7_goesUp 233 = .ok (.goto 4, 3) := by decide +kernel
theorem dX7_goesUp_236 : decode cX7_goesUp 236 = .ok (.iconst 0, 1) := by decide +kernel
theorem dX7_goesUp_237 : decode cX7_goesUp 237 = .ok (.iadd, 1) := by decide +kernel
theorem dX7_goesUp_238 : decode cX7_goesUp 238 = .ok (.iastore, 1) := by decide +kernel
theorem dX7_goesUp_239 : decode cX7_goesUp 239 = .ok (.iload 7, 2) := by decide +kernel
theorem dX7_goesUp_241 : decode cX7_goesUp 241 = .ok (.ireturn, 1) := by decide +kernel
theorem dX7_hourOn_0 : decode cX7_hourOn 0 = .ok (.iconst 0, 1) := by decide +kernel
theorem dX7_hourOn_1 : decode cX7_hourOn 1 = .ok (.istore 4, 2) := by decide +kernel
theorem dX7_hourOn_3 : decode cX7_hourOn 3 = .ok (.iconst 0, 1) := by decide +kernel
theorem dX7_hourOn_4 : decode cX7_hourOn 4 = .ok (.istore 5, 2) := by decide +kernel
theorem dX7_hourOn_6 : decode cX7_hourOn 6 = .ok (.iload 5, 2) := by decide +kernel
theorem dX7_hourOn_8 : decode cX7_hourOn 8 = .ok (.aload_n 0, 1) := by decide +kernel
theorem dX7_hourOn_9 : decode cX7_hourOn 9 = .ok (.getfield 7, 3) := by decide +kernel
theorem dX7_hourOn_12 : decode cX7_hourOn 12 = .ok (.iload_n 1, 1) := by decide +kernel
theorem dX7_hourOn_13 : decode cX7_hourOn 13 = .ok (.bipush 24, 2) := by decide +kernel
theorem dX7_hourOn_15 : decode cX7_hourOn 15 = .ok (.iadd, 1) := by decide +kernel
theorem dX7_hourOn_16 : decode cX7_hourOn 16 = .ok (.iaload, 1) := by decide +kernel
theorem dX7_hourOn_17 : decode cX7_hourOn 17 = .ok (.if_icmp .ge 34, 3) := by decide +kernel
theorem dX7_hourOn_20 : decode cX7_hourOn 20 = .ok (.iload 4, 2) := by decide +kernel
theorem dX7_hourOn_22 : decode cX7_hourOn 22 = .ok (.aload_n 0, 1) := by decide +kernel
theorem dX7_hourOn_23 : decode cX7_hourOn 23 = .ok (.iload_n 1, 1) := by decide +kernel
theorem dX7_hourOn_24 : decode cX7_hourOn 24 = .ok (.iload 5, 2) := by decide +kernel
theorem dX7_hourOn_26 : decode cX7_hourOn 26 = .ok (.iload_n 2, 1) := by decide +kernel
theorem dX7_hourOn_27 : decode cX7_hourOn 27 = .ok (.iload_n 3, 1) := by decide +kernel
theorem dX7_hourOn_28 : decode cX7_hourOn 28 = .ok (.invokevirtual 144, 3) := by decide +kernel
theorem dX7_hourOn_31 : decode cX7_hourOn 31 = .ok (.ifCond .eq 10, 3) := by decide +kernel
theorem dX7_hourOn_34 : decode cX7_hourOn 34 = .ok (.iconst 1, 1) := by decide +kernel
theorem dX7_hourOn_35 : decode cX7_hourOn 35 = .ok (.iload 5, 2) := by decide +kernel
theorem dX7_hourOn_37 : decode cX7_hourOn 37 = .ok (.ishl, 1) := by decide +kernel
theorem dX7_hourOn_38 : decode cX7_hourOn 38 = .ok (.goto 4, 3) := by decide +kernel
theorem dX7_hourOn_41 : decode cX7_hourOn 41 = .ok (.iconst 0, 1) := by decide +kernel
theorem dX7_hourOn_42 : decode cX7_hourOn 42 = .ok (.ior, 1) := by decide +kernel
theorem dX7_hourOn_43 : decode cX7_hourOn 43 = .ok (.istore 4, 2) := by decide +kernel
theorem dX7_hourOn_45 : decode cX7_hourOn 45 = .ok (.iinc 5 1, 3) := by decide +kernel
theorem dX7_hourOn_48 : decode cX7_hourOn 48 = .ok (.goto (-42), 3) := by decide +kernel
theorem dX7_hourOn_51 : decode cX7_hourOn 51 = .ok (.aload_n 0, 1) := by decide +kernel
theorem dX7_hourOn_52 : decode cX7_hourOn 52 = .ok (.getfield 7, 3) := by decide +kernel
theorem dX7_hourOn_55 : decode cX7_hourOn 55 = .ok (.iload_n 1, 1) := by decide +kernel
theorem dX7_hourOn_56 : decode cX7_hourOn 56 = .ok (.bipush 52, 2) := by decide +kernel
theorem dX7_hourOn_58 : decode cX7_hourOn 58 = .ok (.iadd, 1) := by decide +kernel
theorem dX7_hourOn_59 : decode cX7_hourOn 59 = .ok (.dup2, 1) := by decide +kernel
theorem dX7_hourOn_60 : decode cX7_hourOn 60 = .ok (.iaload, 1) := by decide +kernel
theorem dX7_hourOn_61 : decode cX7_hourOn 61 = .ok (.iconst 1, 1) := by decide +kernel
theorem dX7_hourOn_62 : decode cX7_hourOn 62 = .ok (.iadd, 1) := by decide +kernel
theorem dX7_hourOn_63 : decode cX7_hourOn 63 = .ok (.iastore, 1) := by decide +kernel
theorem dX7_hourOn_64 : decode cX7_hourOn 64 = .ok (.iload 4, 2) := by decide +kernel
theorem dX7_hourOn_66 : decode cX7_hourOn 66 = .ok (.ireturn, 1) := by decide +kernel
theorem dX7_planOn_0 : decode cX7_planOn 0 = .ok (.aload_n 0, 1) := by decide +kernel
theorem dX7_planOn_1 : decode cX7_planOn 1 = .ok (.iload_n 1, 1) := by decide +kernel
theorem dX7_planOn_2 : decode cX7_planOn 2 = .ok (.aload_n 0, 1) := by decide +kernel
theorem dX7_planOn_3 : decode cX7_planOn 3 = .ok (.iload_n 1, 1) := by decide +kernel
theorem dX7_planOn_4 : decode cX7_planOn 4 = .ok (.invokevirtual 148, 3) := by decide +kernel
theorem dX7_planOn_7 : decode cX7_planOn 7 = .ok (.aload_n 0, 1) := by decide +kernel
theorem dX7_planOn_8 : decode cX7_planOn 8 = .ok (.iload_n 1, 1) := by decide +kernel
theorem dX7_planOn_9 : decode cX7_planOn 9 = .ok (.invokevirtual 151, 3) := by decide +kernel
theorem dX7_planOn_12 : decode cX7_planOn 12 = .ok (.invokevirtual 154, 3) := by decide +kernel
theorem dX7_planOn_15 : decode cX7_planOn 15 = .ok (.ireturn, 1) := by decide +kernel
theorem dX7_sumOn_0 : decode cX7_sumOn 0 = .ok (.iconst 0, 1) := by decide +kernel
theorem dX7_sumOn_1 : decode cX7_sumOn 1 = .ok (.istore_n 3, 1) := by decide +kernel
theorem dX7_sumOn_2 : decode cX7_sumOn 2 = .ok (.iconst 0, 1) := by decide +kernel
theorem dX7_sumOn_3 : decode cX7_sumOn 3 = .ok (.istore 4, 2) := by decide +kernel
theorem dX7_sumOn_5 : decode cX7_sumOn 5 = .ok (.iload 4, 2) := by decide +kernel
theorem dX7_sumOn_7 : decode cX7_sumOn 7 = .ok (.aload_n 0, 1) := by decide +kernel
theorem dX7_sumOn_8 : decode cX7_sumOn 8 = .ok (.getfield 7, 3) := by decide +kernel
theorem dX7_sumOn_11 : decode cX7_sumOn 11 = .ok (.iload_n 1, 1) := by decide +kernel
theorem dX7_sumOn_12 : decode cX7_sumOn 12 = .ok (.bipush 24, 2) := by decide +kernel
theorem dX7_sumOn_14 : decode cX7_sumOn 14 = .ok (.iadd, 1) := by decide +kernel
theorem dX7_sumOn_15 : decode cX7_sumOn 15 = .ok (.iaload, 1) := by decide +kernel
theorem dX7_sumOn_16 : decode cX7_sumOn 16 = .ok (.if_icmp .ge 23, 3) := by decide +kernel
theorem dX7_sumOn_19 : decode cX7_sumOn 19 = .ok (.iload_n 3, 1) := by decide +kernel
theorem dX7_sumOn_20 : decode cX7_sumOn 20 = .ok (.aload_n 0, 1) := by decide +kernel
theorem dX7_sumOn_21 : decode cX7_sumOn 21 = .ok (.getfield 7, 3) := by decide +kernel
theorem dX7_sumOn_24 : decode cX7_sumOn 24 = .ok (.iload_n 1, 1) := by decide +kernel
theorem dX7_sumOn_25 : decode cX7_sumOn 25 = .ok (.iload_n 2, 1) := by decide +kernel
theorem dX7_sumOn_26 : decode cX7_sumOn 26 = .ok (.iadd, 1) := by decide +kernel
theorem dX7_sumOn_27 : decode cX7_sumOn 27 = .ok (.iload 4, 2) := by decide +kernel
theorem dX7_sumOn_29 : decode cX7_sumOn 29 = .ok (.iadd, 1) := by decide +kernel
theorem dX7_sumOn_30 : decode cX7_sumOn 30 = .ok (.iaload, 1) := by decide +kernel
theorem dX7_sumOn_31 : decode cX7_sumOn 31 = .ok (.iadd, 1) := by decide +kernel
theorem dX7_sumOn_32 : decode cX7_sumOn 32 = .ok (.istore_n 3, 1) := by decide +kernel
theorem dX7_sumOn_33 : decode cX7_sumOn 33 = .ok (.iinc 4 1, 3) := by decide +kernel
theorem dX7_sumOn_36 : decode cX7_sumOn 36 = .ok (.goto (-31), 3) := by decide +kernel
theorem dX7_sumOn_39 : decode cX7_sumOn 39 = .ok (.iload_n 3, 1) := by decide +kernel
theorem dX7_sumOn_40 : decode cX7_sumOn 40 = .ok (.ireturn, 1) := by decide +kernel
theorem dX7_rule_0 : decode cX7_rule 0 = .ok (.iload_n 1, 1) := by decide +kernel
theorem dX7_rule_1 : decode cX7_rule 1 = .ok (.tableswitch 138 0 8 #[51, 59, 67, 75, 86, 96, 104, 110, 130], 51) := by decide +kernel
theorem dX7_rule_52 : decode cX7_rule 52 = .ok (.aload_n 0, 1) := by decide +kernel
theorem dX7_rule_53 : decode cX7_rule 53 = .ok (.getfield 7, 3) := by decide +kernel
theorem dX7_rule_56 : decode cX7_rule 56 = .ok (.bipush 24, 2) := by decide +kernel
theorem dX7_rule_58 : decode cX7_rule 58 = .ok (.iaload, 1) := by decide +kernel
theorem dX7_rule_59 : decode cX7_rule 59 = .ok (.ireturn, 1) := by decide +kernel
theorem dX7_rule_60 : decode cX7_rule 60 = .ok (.aload_n 0, 1) := by decide +kernel
theorem dX7_rule_61 : decode cX7_rule 61 = .ok (.getfield 7, 3) := by decide +kernel
theorem dX7_rule_64 : decode cX7_rule 64 = .ok (.bipush 49, 2) := by decide +kernel
theorem dX7_rule_66 : decode cX7_rule 66 = .ok (.iaload, 1) := by decide +kernel
theorem dX7_rule_67 : decode cX7_rule 67 = .ok (.ireturn, 1) := by decide +kernel
theorem dX7_rule_68 : decode cX7_rule 68 = .ok (.aload_n 0, 1) := by decide +kernel
theorem dX7_rule_69 : decode cX7_rule 69 = .ok (.getfield 7, 3) := by decide +kernel
theorem dX7_rule_72 : decode cX7_rule 72 = .ok (.bipush 52, 2) := by decide +kernel
theorem dX7_rule_74 : decode cX7_rule 74 = .ok (.iaload, 1) := by decide +kernel
theorem dX7_rule_75 : decode cX7_rule 75 = .ok (.ireturn, 1) := by decide +kernel
theorem dX7_rule_76 : decode cX7_rule 76 = .ok (.aload_n 0, 1) := by decide +kernel
theorem dX7_rule_77 : decode cX7_rule 77 = .ok (.getfield 7, 3) := by decide +kernel
theorem dX7_rule_80 : decode cX7_rule 80 = .ok (.bipush 50, 2) := by decide +kernel
theorem dX7_rule_82 : decode cX7_rule 82 = .ok (.iaload, 1) := by decide +kernel
theorem dX7_rule_83 : decode cX7_rule 83 = .ok (.bipush 8, 2) := by decide +kernel
theorem dX7_rule_85 : decode cX7_rule 85 = .ok (.iadd, 1) := by decide +kernel
theorem dX7_rule_86 : decode cX7_rule 86 = .ok (.ireturn, 1) := by decide +kernel
theorem dX7_rule_87 : decode cX7_rule 87 = .ok (.aload_n 0, 1) := by decide +kernel
theorem dX7_rule_88 : decode cX7_rule 88 = .ok (.getfield 7, 3) := by decide +kernel
theorem dX7_rule_91 : decode cX7_rule 91 = .ok (.bipush 51, 2) := by decide +kernel
theorem dX7_rule_93 : decode cX7_rule 93 = .ok (.iaload, 1) := by decide +kernel
theorem dX7_rule_94 : decode cX7_rule 94 = .ok (.iconst 4, 1) := by decide +kernel
theorem dX7_rule_95 : decode cX7_rule 95 = .ok (.iadd, 1) := by decide +kernel
theorem dX7_rule_96 : decode cX7_rule 96 = .ok (.ireturn, 1) := by decide +kernel
theorem dX7_rule_97 : decode cX7_rule 97 = .ok (.aload_n 0, 1) := by decide +kernel
theorem dX7_rule_98 : decode cX7_rule 98 = .ok (.iconst 0, 1) := by decide +kernel
theorem dX7_rule_99 : decode cX7_rule 99 = .ok (.bipush 20, 2) := by decide +kernel
theorem dX7_rule_101 : decode cX7_rule 101 = .ok (.invokevirtual 157, 3) := by decide +kernel
theorem dX7_rule_104 : decode cX7_rule 104 = .ok (.ireturn, 1) := by decide +kernel
theorem dX7_rule_105 : decode cX7_rule 105 = .ok (.aload_n 0, 1) := by decide +kernel
theorem dX7_rule_106 : decode cX7_rule 106 = .ok (.iconst 0, 1) := by decide +kernel
theorem dX7_rule_107 : decode cX7_rule 107 = .ok (.invokevirtual 148, 3) := by decide +kernel
theorem dX7_rule_110 : decode cX7_rule 110 = .ok (.ireturn, 1) := by decide +kernel
theorem dX7_rule_111 : decode cX7_rule 111 = .ok (.aload_n 0, 1) := by decide +kernel
theorem dX7_rule_112 : decode cX7_rule 112 = .ok (.iconst 0, 1) := by decide +kernel
theorem dX7_rule_113 : decode cX7_rule 113 = .ok (.invokevirtual 151, 3) := by decide +kernel
theorem dX7_rule_116 : decode cX7_rule 116 = .ok (.iconst 4, 1) := by decide +kernel
theorem dX7_rule_117 : decode cX7_rule 117 = .ok (.if_icmp .ne 8, 3) := by decide +kernel
theorem dX7_rule_120 : decode cX7_rule 120 = .ok (.bipush (-4), 2) := by decide +kernel
theorem dX7_rule_122 : decode cX7_rule 122 = .ok (.goto 8, 3) := by decide +kernel
theorem dX7_rule_125 : decode cX7_rule 125 = .ok (.aload_n 0, 1) := by decide +kernel
theorem dX7_rule_126 : decode cX7_rule 126 = .ok (.iconst 0, 1) := by decide +kernel
theorem dX7_rule_127 : decode cX7_rule 127 = .ok (.invokevirtual 151, 3) := by decide +kernel
theorem dX7_rule_130 : decode cX7_rule 130 = .ok (.ireturn, 1) := by decide +kernel
theorem dX7_rule_131 : decode cX7_rule 131 = .ok (.aload_n 0, 1) := by decide +kernel
theorem dX7_rule_132 : decode cX7_rule 132 = .ok (.iconst 0, 1) := by decide +kernel
theorem dX7_rule_133 : decode cX7_rule 133 = .ok (.bipush 12, 2) := by decide +kernel
theorem dX7_rule_135 : decode cX7_rule 135 = .ok (.invokevirtual 157, 3) := by decide +kernel
theorem dX7_rule_138 : decode cX7_rule 138 = .ok (.ireturn, 1) := by decide +kernel
theorem dX7_rule_139 : decode cX7_rule 139 = .ok (.iconst (-1), 1) := by decide +kernel
theorem dX7_rule_140 : decode cX7_rule 140 = .ok (.ireturn, 1) := by decide +kernel
theorem dX7_geyser_0 : decode cX7_geyser 0 = .ok (.aload_n 0, 1) := by decide +kernel
theorem dX7_geyser_1 : decode cX7_geyser 1 = .ok (.iload_n 1, 1) := by decide +kernel
theorem dX7_geyser_2 : decode cX7_geyser 2 = .ok (.invokevirtual 160, 3) := by decide +kernel
theorem dX7_geyser_5 : decode cX7_geyser 5 = .ok (.ifCond .eq 15, 3) := by decide +kernel
theorem dX7_geyser_8 : decode cX7_geyser 8 = .ok (.iload_n 2, 1) := by decide +kernel
theorem dX7_geyser_9 : decode cX7_geyser 9 = .ok (.i2l, 1) := by decide +kernel
theorem dX7_geyser_10 : decode cX7_geyser 10 = .ok (.lconst 0, 1) := by decide +kernel
theorem dX7_geyser_11 : decode cX7_geyser 11 = .ok (.ldc2_w 164, 3) := by decide +kernel
theorem dX7_geyser_14 : decode cX7_geyser 14 = .ok (.invokestatic 55, 3) := by decide +kernel
theorem dX7_geyser_17 : decode cX7_geyser 17 = .ok (.ifCond .ne 5, 3) := by decide +kernel
theorem dX7_geyser_20 : decode cX7_geyser 20 = .ok (.iconst (-1), 1) := by decide +kernel
theorem dX7_geyser_21 : decode cX7_geyser 21 = .ok (.ireturn, 1) := by decide +kernel
theorem dX7_geyser_22 : decode cX7_geyser 22 = .ok (.iload_n 2, 1) := by decide +kernel
theorem dX7_geyser_23 : decode cX7_geyser 23 = .ok (.bipush 6, 2) := by decide +kernel
theorem dX7_geyser_25 : decode cX7_geyser 25 = .ok (.if_icmp .ge 16, 3) := by decide +kernel
theorem dX7_geyser_28 : decode cX7_geyser 28 = .ok (.aload_n 0, 1) := by decide +kernel
theorem dX7_geyser_29 : decode cX7_geyser 29 = .ok (.getfield 7, 3) := by decide +kernel
theorem dX7_geyser_32 : decode cX7_geyser 32 = .ok (.iconst 4, 1) := by decide +kernel
theorem dX7_geyser_33 : decode cX7_geyser 33 = .ok (.iload_n 2, 1) := by decide +kernel
theorem dX7_geyser_34 : decode cX7_geyser 34 = .ok (.imul, 1) := by decide +kernel
theorem dX7_geyser_35 : decode cX7_geyser 35 = .ok (.iload_n 1, 1) := by decide +kernel
theorem dX7_geyser_36 : decode cX7_geyser 36 = .ok (.iadd, 1) := by decide +kernel
theorem dX7_geyser_37 : decode cX7_geyser 37 = .ok (.iaload, 1) := by decide +kernel
theorem dX7_geyser_38 : decode cX7_geyser 38 = .ok (.goto 29, 3) := by decide +kernel
theorem dX7_geyser_41 : decode cX7_geyser 41 = .ok (.iload_n 2, 1) := by decide +kernel
theorem dX7_geyser_42 : decode cX7_geyser 42 = .ok (.bipush 6, 2) := by decide +kernel
theorem dX7_geyser_44 : decode cX7_geyser 44 = .ok (.if_icmp .ne 12, 3) := by decide +kernel
theorem dX7_geyser_47 : decode cX7_geyser 47 = .ok (.aload_n 0, 1) := by decide +kernel
theorem dX7_geyser_48 : decode cX7_geyser 48 = .ok (.iconst 0, 1) := by decide +kernel
theorem dX7_geyser_49 : decode cX7_geyser 49 = .ok (.iload_n 1, 1) := by decide +kernel
theorem dX7_geyser_50 : decode cX7_geyser 50 = .ok (.invokevirtual 134, 3) := by decide +kernel
theorem dX7_geyser_53 : decode cX7_geyser 53 = .ok (.goto 14, 3) := by decide +kernel
theorem dX7_geyser_56 : decode cX7_geyser 56 = .ok (.aload_n 0, 1) := by decide +kernel
theorem dX7_geyser_57 : decode cX7_geyser 57 = .ok (.iconst 0, 1) := by decide +kernel
theorem dX7_geyser_58 : decode cX7_geyser 58 = .ok (.iload_n 1, 1) := by decide +kernel
theorem dX7_geyser_59 : decode cX7_geyser 59 = .ok (.aload_n 0, 1) := by decide +kernel
theorem dX7_geyser_60 : decode cX7_geyser 60 = .ok (.iconst 0, 1) := by decide +kernel
theorem dX7_geyser_61 : decode cX7_geyser 61 = .ok (.invokevirtual 148, 3) := by decide +kernel
theorem dX7_geyser_64 : decode cX7_geyser 64 = .ok (.invokevirtual 137, 3) := by decide +kernel
theorem dX7_geyser_67 : decode cX7_geyser 67 = .ok (.ireturn, 1) := by decide +kernel
theorem dX7_row_0 : decode cX7_row 0 = .ok (.aload_n 0, 1) := by decide +kernel
theorem dX7_row_1 : decode cX7_row 1 = .ok (.iload_n 1, 1) := by decide +kernel
theorem dX7_row_2 : decode cX7_row 2 = .ok (.invokevirtual 166, 3) := by decide +kernel
theorem dX7_row_5 : decode cX7_row 5 = .ok (.ifCond .eq 30, 3) := by decide +kernel
theorem dX7_row_8 : decode cX7_row 8 = .ok (.iload_n 2, 1) := by decide +kernel
theorem dX7_row_9 : decode cX7_row 9 = .ok (.i2l, 1) := by decide +kernel
theorem dX7_row_10 : decode cX7_row 10 = .ok (.lconst 0, 1) := by decide +kernel
theorem dX7_row_11 : decode cX7_row 11 = .ok (.lconst 1, 1) := by decide +kernel
theorem dX7_row_12 : decode cX7_row 12 = .ok (.invokestatic 55, 3) := by decide +kernel
theorem dX7_row_15 : decode cX7_row 15 = .ok (.ifCond .eq 20, 3) := by decide +kernel
theorem dX7_row_18 : decode cX7_row 18 = .ok (.aload_n 0, 1) := by decide +kernel
theorem dX7_row_19 : decode cX7_row 19 = .ok (.getfield 7, 3) := by decide +kernel
theorem dX7_row_22 : decode cX7_row 22 = .ok (.bipush 25, 2) := by decide +kernel
theorem dX7_row_24 : decode cX7_row 24 = .ok (.bipush 12, 2) := by decide +kernel
theorem dX7_row_26 : decode cX7_row 26 = .ok (.iload_n 2, 1) := by decide +kernel
theorem dX7_row_27 : decode cX7_row 27 = .ok (.imul, 1) := by decide +kernel
theorem dX7_row_28 : decode cX7_row 28 = .ok (.iadd, 1) := by decide +kernel
theorem dX7_row_29 : decode cX7_row 29 = .ok (.iload_n 1, 1) := by decide +kernel
theorem dX7_row_30 : decode cX7_row 30 = .ok (.iadd, 1) := by decide +kernel
theorem dX7_row_31 : decode cX7_row 31 = .ok (.iaload, 1) := by decide +kernel
theorem dX7_row_32 : decode cX7_row 32 = .ok (.goto 4, 3) := by decide +kernel
theorem dX7_row_35 : decode cX7_row 35 = .ok (.iconst (-1), 1) := by decide +kernel
theorem dX7_row_36 : decode cX7_row 36 = .ok (.ireturn, 1) := by decide +kernel
theorem dX7_puts_0 : decode cX7_puts 0 = .ok (.iload_n 1, 1) := by decide +kernel
theorem dX7_puts_1 : decode cX7_puts 1 = .ok (.ifCond .ne 5, 3) := by decide +kernel
theorem dX7_puts_4 : decode cX7_puts 4 = .ok (.iconst (-1), 1) := by decide +kernel
theorem dX7_puts_5 : decode cX7_puts 5 = .ok (.ireturn, 1) := by decide +kernel
theorem dX7_puts_6 : decode cX7_puts 6 = .ok (.aload_n 0, 1) := by decide +kernel
theorem dX7_puts_7 : decode cX7_puts 7 = .ok (.getfield 7, 3) := by decide +kernel
theorem dX7_puts_10 : decode cX7_puts 10 = .ok (.iload_n 2, 1) := by decide +kernel
theorem dX7_puts_11 : decode cX7_puts 11 = .ok (.iaload, 1) := by decide +kernel
theorem dX7_puts_12 : decode cX7_puts 12 = .ok (.iload 4, 2) := by decide +kernel
theorem dX7_puts_14 : decode cX7_puts 14 = .ok (.iadd, 1) := by decide +kernel
theorem dX7_puts_15 : decode cX7_puts 15 = .ok (.istore 5, 2) := by decide +kernel
theorem dX7_puts_17 : decode cX7_puts 17 = .ok (.aload_n 0, 1) := by decide +kernel
theorem dX7_puts_18 : decode cX7_puts 18 = .ok (.getfield 7, 3) := by decide +kernel
theorem dX7_puts_21 : decode cX7_puts 21 = .ok (.iload_n 2, 1) := by decide +kernel
theorem dX7_puts_22 : decode cX7_puts 22 = .ok (.iload_n 3, 1) := by decide +kernel
theorem dX7_puts_23 : decode cX7_puts 23 = .ok (.iload 4, 2) := by decide +kernel
theorem dX7_puts_25 : decode cX7_puts 25 = .ok (.isub, 1) := by decide +kernel
theorem dX7_puts_26 : decode cX7_puts 26 = .ok (.iastore, 1) := by decide +kernel
theorem dX7_puts_27 : decode cX7_puts 27 = .ok (.iload 5, 2) := by decide +kernel
theorem dX7_puts_29 : decode cX7_puts 29 = .ok (.ireturn, 1) := by decide +kernel
theorem dX7_isGood_0 : decode cX7_isGood 0 = .ok (.iload_n 0, 1) := by decide +kernel
theorem dX7_isGood_1 : decode cX7_isGood 1 = .ok (.tableswitch 85 0 4 #[35, 45, 55, 65, 75], 35) := by decide +kernel
theorem dX7_isGood_36 : decode cX7_isGood 36 = .ok (.iload_n 1, 1) := by decide +kernel
theorem dX7_isGood_37 : decode cX7_isGood 37 = .ok (.i2l, 1) := by decide +kernel
theorem dX7_isGood_38 : decode cX7_isGood 38 = .ok (.lconst 0, 1) := by decide +kernel
theorem dX7_isGood_39 : decode cX7_isGood 39 = .ok (.ldc2_w 169, 3) := by decide +kernel
theorem dX7_isGood_42 : decode cX7_isGood 42 = .ok (.invokestatic 55, 3) := by decide +kernel
theorem dX7_isGood_45 : decode cX7_isGood 45 = .ok (.ireturn, 1) := by decide +kernel
theorem dX7_isGood_46 : decode cX7_isGood 46 = .ok (.iload_n 1, 1) := by decide +kernel
theorem dX7_isGood_47 : decode cX7_isGood 47 = .ok (.i2l, 1) := by decide +kernel
theorem dX7_isGood_48 : decode cX7_isGood 48 = .ok (.lconst 1, 1) := by decide +kernel
theorem dX7_isGood_49 : decode cX7_isGood 49 = .ok (.ldc2_w 171, 3) := by decide +kernel
theorem dX7_isGood_52 : decode cX7_isGood 52 = .ok (.invokestatic 55, 3) := by decide +kernel
theorem dX7_isGood_55 : decode cX7_isGood 55 = .ok (.ireturn, 1) := by decide +kernel
theorem dX7_isGood_56 : decode cX7_isGood 56 = .ok (.iload_n 1, 1) := by decide +kernel
theorem dX7_isGood_57 : decode cX7_isGood 57 = .ok (.i2l, 1) := by decide +kernel
theorem dX7_isGood_58 : decode cX7_isGood 58 = .ok (.lconst 0, 1) := by decide +kernel
theorem dX7_isGood_59 : decode cX7_isGood 59 = .ok (.ldc2_w 173, 3) := by decide +kernel
theorem dX7_isGood_62 : decode cX7_isGood 62 = .ok (.invokestatic 55, 3) := by decide +kernel
theorem dX7_isGood_65 : decode cX7_isGood 65 = .ok (.ireturn, 1) := by decide +kernel
theorem dX7_isGood_66 : decode cX7_isGood 66 = .ok (.iload_n 1, 1) := by decide +kernel
theorem dX7_isGood_67 : decode cX7_isGood 67 = .ok (.i2l, 1) := by decide +kernel
theorem dX7_isGood_68 : decode cX7_isGood 68 = .ok (.lconst 0, 1) := by decide +kernel
theorem dX7_isGood_69 : decode cX7_isGood 69 = .ok (.ldc2_w 175, 3) := by decide +kernel
theorem dX7_isGood_72 : decode cX7_isGood 72 = .ok (.invokestatic 55, 3) := by decide +kernel
theorem dX7_isGood_75 : decode cX7_isGood 75 = .ok (.ireturn, 1) := by decide +kernel
theorem dX7_isGood_76 : decode cX7_isGood 76 = .ok (.iload_n 1, 1) := by decide +kernel
theorem dX7_isGood_77 : decode cX7_isGood 77 = .ok (.i2l, 1) := by decide +kernel
theorem dX7_isGood_78 : decode cX7_isGood 78 = .ok (.lconst 0, 1) := by decide +kernel
theorem dX7_isGood_79 : decode cX7_isGood 79 = .ok (.ldc2_w 177, 3) := by decide +kernel
theorem dX7_isGood_82 : decode cX7_isGood 82 = .ok (.invokestatic 55, 3) := by decide +kernel
theorem dX7_isGood_85 : decode cX7_isGood 85 = .ok (.ireturn, 1) := by decide +kernel
theorem dX7_isGood_86 : decode cX7_isGood 86 = .ok (.iconst 0, 1) := by decide +kernel
theorem dX7_isGood_87 : decode cX7_isGood 87 = .ok (.ireturn, 1) := by decide +kernel
theorem dX7_alter_0 : decode cX7_alter 0 = .ok (.aload_n 0, 1) := by decide +kernel
theorem dX7_alter_1 : decode cX7_alter 1 = .ok (.aload_n 0, 1) := by decide +kernel
theorem dX7_alter_2 : decode cX7_alter 2 = .ok (.iload_n 1, 1) := by decide +kernel
theorem dX7_alter_3 : decode cX7_alter 3 = .ok (.invokevirtual 160, 3) := by decide +kernel
theorem dX7_alter_6 : decode cX7_alter 6 = .ok (.ifCond .eq 15, 3) := by decide +kernel
theorem dX7_alter_9 : decode cX7_alter 9 = .ok (.iload_n 2, 1) := by decide +kernel
theorem dX7_alter_10 : decode cX7_alter 10 = .ok (.iload_n 3, 1) := by decide +kernel
theorem dX7_alter_11 : decode cX7_alter 11 = .ok (.invokestatic 179, 3) := by decide +kernel
theorem dX7_alter_14 : decode cX7_alter 14 = .ok (.ifCond .eq 7, 3) := by decide +kernel
theorem dX7_alter_17 : decode cX7_alter 17 = .ok (.iconst 1, 1) := by decide +kernel
theorem dX7_alter_18 : decode cX7_alter 18 = .ok (.goto 4, 3) := by decide +kernel
theorem dX7_alter_21 : decode cX7_alter 21 = .ok (.iconst 0, 1) := by decide +kernel
theorem dX7_alter_22 : decode cX7_alter 22 = .ok (.iconst 4, 1) := by decide +kernel
theorem dX7_alter_23 : decode cX7_alter 23 = .ok (.iload_n 2, 1) := by decide +kernel
theorem dX7_alter_24 : decode cX7_alter 24 = .ok (.imul, 1) := by decide +kernel
theorem dX7_alter_25 : decode cX7_alter 25 = .ok (.iload_n 1, 1) := by decide +kernel
theorem dX7_alter_26 : decode cX7_alter 26 = .ok (.iadd, 1) := by decide +kernel
theorem dX7_alter_27 : decode cX7_alter 27 = .ok (.iload_n 3, 1) := by decide +kernel
theorem dX7_alter_28 : decode cX7_alter 28 = .ok (.iconst 0, 1) := by decide +kernel
theorem dX7_alter_29 : decode cX7_alter 29 = .ok (.invokevirtual 183, 3) := by decide +kernel
theorem dX7_alter_32 : decode cX7_alter 32 = .ok (.ireturn, 1) := by decide +kernel
theorem dX7_tell_0 : decode cX7_tell 0 = .ok (.iload_n 1, 1) := by decide +kernel
theorem dX7_tell_1 : decode cX7_tell 1 = .ok (.ifCond .ne 22, 3) := by decide +kernel
theorem dX7_tell_4 : decode cX7_tell 4 = .ok (.aload_n 0, 1) := by decide +kernel
theorem dX7_tell_5 : decode cX7_tell 5 = .ok (.iload_n 2, 1) := by decide +kernel
theorem dX7_tell_6 : decode cX7_tell 6 = .ok (.i2l, 1) := by decide +kernel
theorem dX7_tell_7 : decode cX7_tell 7 = .ok (.lconst 0, 1) := by decide +kernel
theorem dX7_tell_8 : decode cX7_tell 8 = .ok (.ldc2_w 187, 3) := by decide +kernel
theorem dX7_tell_11 : decode cX7_tell 11 = .ok (.invokestatic 55, 3) := by decide +kernel
theorem dX7_tell_14 : decode cX7_tell 14 = .ok (.bipush 50, 2) := by decide +kernel
theorem dX7_tell_16 : decode cX7_tell 16 = .ok (.iload_n 2, 1) := by decide +kernel
theorem dX7_tell_17 : decode cX7_tell 17 = .ok (.bipush 8, 2) := by decide +kernel
theorem dX7_tell_19 : decode cX7_tell 19 = .ok (.invokevirtual 183, 3) := by decide +kernel
theorem dX7_tell_22 : decode cX7_tell 22 = .ok (.ireturn, 1) := by decide +kernel
theorem dX7_tell_23 : decode cX7_tell 23 = .ok (.aload_n 0, 1) := by decide +kernel
theorem dX7_tell_24 : decode cX7_tell 24 = .ok (.iload_n 1, 1) := by decide +kernel
theorem dX7_tell_25 : decode cX7_tell 25 = .ok (.iconst 1, 1) := by decide +kernel
theorem dX7_tell_26 : decode cX7_tell 26 = .ok (.if_icmp .ne 19, 3) := by decide +kernel
theorem dX7_tell_29 : decode cX7_tell 29 = .ok (.iload_n 2, 1) := by decide +kernel
theorem dX7_tell_30 : decode cX7_tell 30 = .ok (.i2l, 1) := by decide +kernel
theorem dX7_tell_31 : decode cX7_tell 31 = .ok (.lconst 0, 1) := by decide +kernel
theorem dX7_tell_32 : decode cX7_tell 32 = .ok (.ldc2_w 177, 3) := by decide +kernel
theorem dX7_tell_35 : decode cX7_tell 35 = .ok (.invokestatic 55, 3) := by decide +kernel
theorem dX7_tell_38 : decode cX7_tell 38 = .ok (.ifCond .eq 7, 3) := by decide +kernel
theorem dX7_tell_41 : decode cX7_tell 41 = .ok (.iconst 1, 1) := by decide +kernel
theorem dX7_tell_42 : decode cX7_tell 42 = .ok (.goto 4, 3) := by decide +kernel
theorem dX7_tell_45 : decode cX7_tell 45 = .ok (.iconst 0, 1) := by decide +kernel
theorem dX7_tell_46 : decode cX7_tell 46 = .ok (.bipush 51, 2) := by decide +kernel
theorem dX7_tell_48 : decode cX7_tell 48 = .ok (.iload_n 2, 1) := by decide +kernel
theorem dX7_tell_49 : decode cX7_tell 49 = .ok (.iconst 4, 1) := by decide +kernel
theorem dX7_tell_50 : decode cX7_tell 50 = .ok (.invokevirtual 183, 3) := by decide +kernel
theorem dX7_tell_53 : decode cX7_tell 53 = .ok (.ireturn, 1) := by decide +kernel
theorem dX7_set_0 : decode cX7_set 0 = .ok (.iload_n 2, 1) := by decide +kernel
theorem dX7_set_1 : decode cX7_set 1 = .ok (.ifCond .ne 15, 3) := by decide +kernel
theorem dX7_set_4 : decode cX7_set 4 = .ok (.iload_n 3, 1) := by decide +kernel
theorem dX7_set_5 : decode cX7_set 5 = .ok (.i2l, 1) := by decide +kernel
theorem dX7_set_6 : decode cX7_set 6 = .ok (.lconst 0, 1) := by decide +kernel
theorem dX7_set_7 : decode cX7_set 7 = .ok (.ldc2_w 173, 3) := by decide +kernel
theorem dX7_set_10 : decode cX7_set 10 = .ok (.invokestatic 55, 3) := by decide +kernel
theorem dX7_set_13 : decode cX7_set 13 = .ok (.goto 25, 3) := by decide +kernel
theorem dX7_set_16 : decode cX7_set 16 = .ok (.iload_n 2, 1) := by decide +kernel
theorem dX7_set_17 : decode cX7_set 17 = .ok (.iconst 1, 1) := by decide +kernel
theorem dX7_set_18 : decode cX7_set 18 = .ok (.if_icmp .ne 19, 3) := by decide +kernel
theorem dX7_set_21 : decode cX7_set 21 = .ok (.iload_n 3, 1) := by decide +kernel
theorem dX7_set_22 : decode cX7_set 22 = .ok (.i2l, 1) := by decide +kernel
theorem dX7_set_23 : decode cX7_set 23 = .ok (.lconst 0, 1) := by decide +kernel
theorem dX7_set_24 : decode cX7_set 24 = .ok (.ldc2_w 189, 3) := by decide +kernel
theorem dX7_set_27 : decode cX7_set 27 = .ok (.invokestatic 55, 3) := by decide +kernel
theorem dX7_set_30 : decode cX7_set 30 = .ok (.ifCond .eq 7, 3) := by decide +kernel
theorem dX7_set_33 : decode cX7_set 33 = .ok (.iconst 1, 1) := by decide +kernel
theorem dX7_set_34 : decode cX7_set 34 = .ok (.goto 4, 3) := by decide +kernel
theorem dX7_set_37 : decode cX7_set 37 = .ok (.iconst 0, 1) := by decide +kernel
theorem dX7_set_38 : decode cX7_set 38 = .ok (.istore 4, 2) := by decide +kernel
theorem dX7_set_40 : decode cX7_set 40 = .ok (.aload_n 0, 1) := by decide +kernel
theorem dX7_set_41 : decode cX7_set 41 = .ok (.aload_n 0, 1) := by decide +kernel
theorem dX7_set_42 : decode cX7_set 42 = .ok (.iload_n 1, 1) := by decide +kernel
theorem dX7_set_43 : decode cX7_set 43 = .ok (.invokevirtual 166, 3) := by decide +kernel
theorem dX7_set_46 : decode cX7_set 46 = .ok (.ifCond .eq 12, 3) := by decide +kernel
theorem dX7_set_49 : decode cX7_set 49 = .ok (.iload 4, 2) := by decide +kernel
theorem dX7_set_51 : decode cX7_set 51 = .ok (.ifCond .eq 7, 3) := by decide +kernel
theorem dX7_set_54 : decode cX7_set 54 = .ok (.iconst 1, 1) := by decide +kernel
theorem dX7_set_55 : decode cX7_set 55 = .ok (.goto 4, 3) := by decide +kernel
theorem dX7_set_58 : decode cX7_set 58 = .ok (.iconst 0, 1) := by decide +kernel
theorem dX7_set_59 : decode cX7_set 59 = .ok (.bipush 25, 2) := by decide +kernel
theorem dX7_set_61 : decode cX7_set 61 = .ok (.bipush 12, 2) := by decide +kernel
theorem dX7_set_63 : decode cX7_set 63 = .ok (.iload_n 2, 1) := by decide +kernel
theorem dX7_set_64 : decode cX7_set 64 = .ok (.imul, 1) := by decide +kernel
theorem dX7_set_65 : decode cX7_set 65 = .ok (.iadd, 1) := by decide +kernel
theorem dX7_set_66 : decode cX7_set 66 = .ok (.iload_n 1, 1) := by decide +kernel
theorem dX7_set_67 : decode cX7_set 67 = .ok (.iadd, 1) := by decide +kernel
theorem dX7_set_68 : decode cX7_set 68 = .ok (.iload_n 3, 1) := by decide +kernel
theorem dX7_set_69 : decode cX7_set 69 = .ok (.iconst 0, 1) := by decide +kernel
theorem dX7_set_70 : decode cX7_set 70 = .ok (.invokevirtual 183, 3) := by decide +kernel
theorem dX7_set_73 : decode cX7_set 73 = .ok (.ireturn, 1) := by decide +kernel
theorem dX7_open_0 : decode cX7_open 0 = .ok (.iload_n 1, 1) := by decide +kernel
theorem dX7_open_1 : decode cX7_open 1 = .ok (.i2l, 1) := by decide +kernel
theorem dX7_open_2 : decode cX7_open 2 = .ok (.lconst 0, 1) := by decide +kernel
theorem dX7_open_3 : decode cX7_open 3 = .ok (.ldc2_w 169, 3) := by decide +kernel
theorem dX7_open_6 : decode cX7_open 6 = .ok (.invokestatic 55, 3) := by decide +kernel
theorem dX7_open_9 : decode cX7_open 9 = .ok (.ifCond .eq 27, 3) := by decide +kernel
theorem dX7_open_12 : decode cX7_open 12 = .ok (.iload_n 2, 1) := by decide +kernel
theorem dX7_open_13 : decode cX7_open 13 = .ok (.i2l, 1) := by decide +kernel
theorem dX7_open_14 : decode cX7_open 14 = .ok (.lconst 1, 1) := by decide +kernel
theorem dX7_open_15 : decode cX7_open 15 = .ok (.ldc2_w 171, 3) := by decide +kernel
theorem dX7_open_18 : decode cX7_open 18 = .ok (.invokestatic 55, 3) := by decide +kernel
theorem dX7_open_21 : decode cX7_open 21 = .ok (.ifCond .eq 15, 3) := by decide +kernel
theorem dX7_open_24 : decode cX7_open 24 = .ok (.iload_n 3, 1) := by decide +kernel
theorem dX7_open_25 : decode cX7_open 25 = .ok (.i2l, 1) := by decide +kernel
theorem dX7_open_26 : decode cX7_open 26 = .ok (.lconst 0, 1) := by decide +kernel
theorem dX7_open_27 : decode cX7_open 27 = .ok (.ldc2_w 173, 3) := by decide +kernel
theorem dX7_open_30 : decode cX7_open 30 = .ok (.invokestatic 55, 3) := by decide +kernel
theorem dX7_open_33 : decode cX7_open 33 = .ok (.ifCond .ne 5, 3) := by decide +kernel
theorem dX7_open_36 : decode cX7_open 36 = .ok (.iconst (-1), 1) := by decide +kernel
theorem dX7_open_37 : decode cX7_open 37 = .ok (.ireturn, 1) := by decide +kernel
theorem dX7_open_38 : decode cX7_open 38 = .ok (.aload_n 0, 1) := by decide +kernel
theorem dX7_open_39 : decode cX7_open 39 = .ok (.getfield 7, 3) := by decide +kernel
theorem dX7_open_42 : decode cX7_open 42 = .ok (.bipush 24, 2) := by decide +kernel
theorem dX7_open_44 : decode cX7_open 44 = .ok (.iaload, 1) := by decide +kernel
theorem dX7_open_45 : decode cX7_open 45 = .ok (.istore 4, 2) := by decide +kernel
theorem dX7_open_47 : decode cX7_open 47 = .ok (.iload 4, 2) := by decide +kernel
theorem dX7_open_49 : decode cX7_open 49 = .ok (.iconst 4, 1) := by decide +kernel
theorem dX7_open_50 : decode cX7_open 50 = .ok (.if_icmp .ne 6, 3) := by decide +kernel
theorem dX7_open_53 : decode cX7_open 53 = .ok (.bipush (-3), 2) := by decide +kernel
theorem dX7_open_55 : decode cX7_open 55 = .ok (.ireturn, 1) := by decide +kernel
theorem dX7_open_56 : decode cX7_open 56 = .ok (.aload_n 0, 1) := by decide +kernel
theorem dX7_open_57 : decode cX7_open 57 = .ok (.getfield 7, 3) := by decide +kernel
theorem dX7_open_60 : decode cX7_open 60 = .ok (.iload 4, 2) := by decide +kernel
theorem dX7_open_62 : decode cX7_open 62 = .ok (.iload_n 1, 1) := by decide +kernel
theorem dX7_open_63 : decode cX7_open 63 = .ok (.iastore, 1) := by decide +kernel
theorem dX7_open_64 : decode cX7_open 64 = .ok (.aload_n 0, 1) := by decide +kernel
theorem dX7_open_65 : decode cX7_open 65 = .ok (.getfield 7, 3) := by decide +kernel
theorem dX7_open_68 : decode cX7_open 68 = .ok (.iconst 4, 1) := by decide +kernel
theorem dX7_open_69 : decode cX7_open 69 = .ok (.iload 4, 2) := by decide +kernel
theorem dX7_open_71 : decode cX7_open 71 = .ok (.iadd, 1) := by decide +kernel
theorem dX7_open_72 : decode cX7_open 72 = .ok (.iload_n 2, 1) := by decide +kernel
theorem dX7_open_73 : decode cX7_open 73 = .ok (.iastore, 1) := by decide +kernel
theorem dX7_open_74 : decode cX7_open 74 = .ok (.aload_n 0, 1) := by decide +kernel
theorem dX7_open_75 : decode cX7_open 75 = .ok (.getfield 7, 3) := by decide +kernel
theorem dX7_open_78 : decode cX7_open 78 = .ok (.bipush 8, 2) := by decide +kernel
theorem dX7_open_80 : decode cX7_open 80 = .ok (.iload 4, 2) := by decide +kernel
theorem dX7_open_82 : decode cX7_open 82 = .ok (.iadd, 1) := by decide +kernel
theorem dX7_open_83 : decode cX7_open 83 = .ok (.iload_n 3, 1) := by decide +kernel
theorem dX7_open_84 : decode cX7_open 84 = .ok (.iastore, 1) := by decide +kernel
theorem dX7_open_85 : decode cX7_open 85 = .ok (.aload_n 0, 1) := by decide +kernel
theorem dX7_open_86 : decode cX7_open 86 = .ok (.getfield 7, 3) := by decide +kernel
theorem dX7_open_89 : decode cX7_open 89 = .ok (.bipush 12, 2) := by decide +kernel
theorem dX7_open_91 : decode cX7_open 91 = .ok (.iload 4, 2) := by decide +kernel
theorem dX7_open_93 : decode cX7_open 93 = .ok (.iadd, 1) := by decide +kernel
theorem dX7_open_94 : decode cX7_open 94 = .ok (.iconst 0, 1) := by decide +kernel
theorem dX7_open_95 : decode cX7_open 95 = .ok (.iastore, 1) := by decide +kernel
theorem dX7_open_96 : decode cX7_open 96 = .ok (.aload_n 0, 1) := by decide +kernel
theorem dX7_open_97 : decode cX7_open 97 = .ok (.getfield 7, 3) := by decide +kernel
theorem dX7_open_100 : decode cX7_open 100 = .ok (.bipush 16, 2) := by decide +kernel
theorem dX7_open_102 : decode cX7_open 102 = .ok (.iload 4, 2) := by decide +kernel
theorem dX7_open_104 : decode cX7_open 104 = .ok (.iadd, 1) := by decide +kernel
theorem dX7_open_105 : decode cX7_open 105 = .ok (.iconst 0, 1) := by decide +kernel
theorem dX7_open_106 : decode cX7_open 106 = .ok (.iastore, 1) := by decide +kernel
theorem dX7_open_107 : decode cX7_open 107 = .ok (.aload_n 0, 1) := by decide +kernel
theorem dX7_open_108 : decode cX7_open 108 = .ok (.getfield 7, 3) := by decide +kernel
theorem dX7_open_111 : decode cX7_open 111 = .ok (.bipush 20, 2) := by decide +kernel
theorem dX7_open_113 : decode cX7_open 113 = .ok (.iload 4, 2) := by decide +kernel
theorem dX7_open_115 : decode cX7_open 115 = .ok (.iadd, 1) := by decide +kernel
theorem dX7_open_116 : decode cX7_open 116 = .ok (.iconst 0, 1) := by decide +kernel
theorem dX7_open_117 : decode cX7_open 117 = .ok (.iastore, 1) := by decide +kernel
theorem dX7_open_118 : decode cX7_open 118 = .ok (.aload_n 0, 1) := by decide +kernel
theorem dX7_open_119 : decode cX7_open 119 = .ok (.getfield 7, 3) := by decide +kernel
theorem dX7_open_122 : decode cX7_open 122 = .ok (.bipush 24, 2) := by decide +kernel
theorem dX7_open_124 : decode cX7_open 124 = .ok (.dup2, 1) := by decide +kernel
theorem dX7_open_125 : decode cX7_open 125 = .ok (.iaload, 1) := by decide +kernel
theorem dX7_open_126 : decode cX7_open 126 = .ok (.iconst 1, 1) := by decide +kernel
theorem dX7_open_127 : decode cX7_open 127 = .ok (.iadd, 1) := by decide +kernel
theorem dX7_open_128 : decode cX7_open 128 = .ok (.iastore, 1) := by decide +kernel
theorem dX7_open_129 : decode cX7_open 129 = .ok (.aload_n 0, 1) := by decide +kernel
theorem dX7_open_130 : decode cX7_open 130 = .ok (.getfield 7, 3) := by decide +kernel
theorem dX7_open_133 : decode cX7_open 133 = .ok (.bipush 24, 2) := by decide +kernel
theorem dX7_open_135 : decode cX7_open 135 = .ok (.iaload, 1) := by decide +kernel
theorem dX7_open_136 : decode cX7_open 136 = .ok (.ireturn, 1) := by decide +kernel
theorem dX7_cut_0 : decode cX7_cut 0 = .ok (.aload_n 0, 1) := by decide +kernel
theorem dX7_cut_1 : decode cX7_cut 1 = .ok (.iload_n 1, 1) := by decide +kernel
theorem dX7_cut_2 : decode cX7_cut 2 = .ok (.i2l, 1) := by decide +kernel
theorem dX7_cut_3 : decode cX7_cut 3 = .ok (.lconst 0, 1) := by decide +kernel
theorem dX7_cut_4 : decode cX7_cut 4 = .ok (.aload_n 0, 1) := by decide +kernel
theorem dX7_cut_5 : decode cX7_cut 5 = .ok (.getfield 7, 3) := by decide +kernel
theorem dX7_cut_8 : decode cX7_cut 8 = .ok (.bipush 24, 2) := by decide +kernel
theorem dX7_cut_10 : decode cX7_cut 10 = .ok (.iaload, 1) := by decide +kernel
theorem dX7_cut_11 : decode cX7_cut 11 = .ok (.i2l, 1) := by decide +kernel
theorem dX7_cut_12 : decode cX7_cut 12 = .ok (.invokestatic 55, 3) := by decide +kernel
theorem dX7_cut_15 : decode cX7_cut 15 = .ok (.bipush 24, 2) := by decide +kernel
theorem dX7_cut_17 : decode cX7_cut 17 = .ok (.iload_n 1, 1) := by decide +kernel
theorem dX7_cut_18 : decode cX7_cut 18 = .ok (.iconst 0, 1) := by decide +kernel
theorem dX7_cut_19 : decode cX7_cut 19 = .ok (.invokevirtual 183, 3) := by decide +kernel
theorem dX7_cut_22 : decode cX7_cut 22 = .ok (.ireturn, 1) := by decide +kernel
theorem dX7_adds_0 : decode cX7_adds 0 = .ok (.iload_n 1, 1) := by decide +kernel
theorem dX7_adds_1 : decode cX7_adds 1 = .ok (.i2l, 1) := by decide +kernel
theorem dX7_adds_2 : decode cX7_adds 2 = .ok (.lconst 0, 1) := by decide +kernel
theorem dX7_adds_3 : decode cX7_adds 3 = .ok (.ldc2_w 173, 3) := by decide +kernel
theorem dX7_adds_6 : decode cX7_adds 6 = .ok (.invokestatic 55, 3) := by decide +kernel
theorem dX7_adds_9 : decode cX7_adds 9 = .ok (.ifCond .eq 15, 3) := by decide +kernel
theorem dX7_adds_12 : decode cX7_adds 12 = .ok (.iload_n 2, 1) := by decide +kernel
theorem dX7_adds_13 : decode cX7_adds 13 = .ok (.i2l, 1) := by decide +kernel
theorem dX7_adds_14 : decode cX7_adds 14 = .ok (.lconst 0, 1) := by decide +kernel
theorem dX7_adds_15 : decode cX7_adds 15 = .ok (.ldc2_w 189, 3) := by decide +kernel
theorem dX7_adds_18 : decode cX7_adds 18 = .ok (.invokestatic 55, 3) := by decide +kernel
theorem dX7_adds_21 : decode cX7_adds 21 = .ok (.ifCond .ne 5, 3) := by decide +kernel
theorem dX7_adds_24 : decode cX7_adds 24 = .ok (.iconst (-1), 1) := by decide +kernel
theorem dX7_adds_25 : decode cX7_adds 25 = .ok (.ireturn, 1) := by decide +kernel
theorem dX7_adds_26 : decode cX7_adds 26 = .ok (.aload_n 0, 1) := by decide +kernel
theorem dX7_adds_27 : decode cX7_adds 27 = .ok (.getfield 7, 3) := by decide +kernel
theorem dX7_adds_30 : decode cX7_adds 30 = .ok (.bipush 49, 2) := by decide +kernel
theorem dX7_adds_32 : decode cX7_adds 32 = .ok (.iaload, 1) := by decide +kernel
theorem dX7_adds_33 : decode cX7_adds 33 = .ok (.istore_n 3, 1) := by decide +kernel
theorem dX7_adds_34 : decode cX7_adds 34 = .ok (.iload_n 3, 1) := by decide +kernel
theorem dX7_adds_35 : decode cX7_adds 35 = .ok (.bipush 12, 2) := by decide +kernel
theorem dX7_adds_37 : decode cX7_adds 37 = .ok (.if_icmp .ne 6, 3) := by decide +kernel
theorem dX7_adds_40 : decode cX7_adds 40 = .ok (.bipush (-3), 2) := by decide +kernel
theorem dX7_adds_42 : decode cX7_adds 42 = .ok (.ireturn, 1) := by decide +kernel
theorem dX7_adds_43 : decode cX7_adds 43 = .ok (.aload_n 0, 1) := by decide +kernel
theorem dX7_adds_44 : decode cX7_adds 44 = .ok (.getfield 7, 3) := by decide +kernel
theorem dX7_adds_47 : decode cX7_adds 47 = .ok (.bipush 25, 2) := by decide +kernel
theorem dX7_adds_49 : decode cX7_adds 49 = .ok (.iload_n 3, 1) := by decide +kernel
theorem dX7_adds_50 : decode cX7_adds 50 = .ok (.iadd, 1) := by decide +kernel
theorem dX7_adds_51 : decode cX7_adds 51 = .ok (.iload_n 1, 1) := by decide +kernel
theorem dX7_adds_52 : decode cX7_adds 52 = .ok (.iastore, 1) := by decide +kernel
theorem dX7_adds_53 : decode cX7_adds 53 = .ok (.aload_n 0, 1) := by decide +kernel
theorem dX7_adds_54 : decode cX7_adds 54 = .ok (.getfield 7, 3) := by decide +kernel
theorem dX7_adds_57 : decode cX7_adds 57 = .ok (.bipush 37, 2) := by decide +kernel
theorem dX7_adds_59 : decode cX7_adds 59 = .ok (.iload_n 3, 1) := by decide +kernel
theorem dX7_adds_60 : decode cX7_adds 60 = .ok (.iadd, 1) := by decide +kernel
theorem dX7_adds_61 : decode cX7_adds 61 = .ok (.iload_n 2, 1) := by decide +kernel
theorem dX7_adds_62 : decode cX7_adds 62 = .ok (.iastore, 1) := by decide +kernel
theorem dX7_adds_63 : decode cX7_adds 63 = .ok (.aload_n 0, 1) := by decide +kernel
theorem dX7_adds_64 : decode cX7_adds 64 = .ok (.getfield 7, 3) := by decide +kernel
theorem dX7_adds_67 : decode cX7_adds 67 = .ok (.bipush 49, 2) := by decide +kernel
theorem dX7_adds_69 : decode cX7_adds 69 = .ok (.dup2, 1) := by decide +kernel
theorem dX7_adds_70 : decode cX7_adds 70 = .ok (.iaload, 1) := by decide +kernel
theorem dX7_adds_71 : decode cX7_adds 71 = .ok (.iconst 1, 1) := by decide +kernel
theorem dX7_adds_72 : decode cX7_adds 72 = .ok (.iadd, 1) := by decide +kernel
theorem dX7_adds_73 : decode cX7_adds 73 = .ok (.iastore, 1) := by decide +kernel
theorem dX7_adds_74 : decode cX7_adds 74 = .ok (.aload_n 0, 1) := by decide +kernel
theorem dX7_adds_75 : decode cX7_adds 75 = .ok (.getfield 7, 3) := by decide +kernel
theorem dX7_adds_78 : decode cX7_adds 78 = .ok (.bipush 49, 2) := by decide +kernel
theorem dX7_adds_80 : decode cX7_adds 80 = .ok (.iaload, 1) := by decide +kernel
theorem dX7_adds_81 : decode cX7_adds 81 = .ok (.ireturn, 1) := by decide +kernel
theorem dX7_add_0 : decode cX7_add 0 = .ok (.aload_n 0, 1) := by decide +kernel
theorem dX7_add_1 : decode cX7_add 1 = .ok (.iload_n 1, 1) := by decide +kernel
theorem dX7_add_2 : decode cX7_add 2 = .ok (.iload_n 2, 1) := by decide +kernel
theorem dX7_add_3 : decode cX7_add 3 = .ok (.invokevirtual 191, 3) := by decide +kernel
theorem dX7_add_6 : decode cX7_add 6 = .ok (.ireturn, 1) := by decide +kernel
theorem dX7_drop_0 : decode cX7_drop 0 = .ok (.aload_n 0, 1) := by decide +kernel
theorem dX7_drop_1 : decode cX7_drop 1 = .ok (.iload_n 1, 1) := by decide +kernel
theorem dX7_drop_2 : decode cX7_drop 2 = .ok (.i2l, 1) := by decide +kernel
theorem dX7_drop_3 : decode cX7_drop 3 = .ok (.lconst 0, 1) := by decide +kernel
theorem dX7_drop_4 : decode cX7_drop 4 = .ok (.aload_n 0, 1) := by decide +kernel
theorem dX7_drop_5 : decode cX7_drop 5 = .ok (.getfield 7, 3) := by decide +kernel
theorem dX7_drop_8 : decode cX7_drop 8 = .ok (.bipush 49, 2) := by decide +kernel
theorem dX7_drop_10 : decode cX7_drop 10 = .ok (.iaload, 1) := by decide +kernel
theorem dX7_drop_11 : decode cX7_drop 11 = .ok (.i2l, 1) := by decide +kernel
theorem dX7_drop_12 : decode cX7_drop 12 = .ok (.invokestatic 55, 3) := by decide +kernel
theorem dX7_drop_15 : decode cX7_drop 15 = .ok (.bipush 49, 2) := by decide +kernel
theorem dX7_drop_17 : decode cX7_drop 17 = .ok (.iload_n 1, 1) := by decide +kernel
theorem dX7_drop_18 : decode cX7_drop 18 = .ok (.iconst 0, 1) := by decide +kernel
theorem dX7_drop_19 : decode cX7_drop 19 = .ok (.invokevirtual 183, 3) := by decide +kernel
theorem dX7_drop_22 : decode cX7_drop 22 = .ok (.ireturn, 1) := by decide +kernel
theorem dX7_hours_0 : decode cX7_hours 0 = .ok (.iload_n 1, 1) := by decide +kernel
theorem dX7_hours_1 : decode cX7_hours 1 = .ok (.i2l, 1) := by decide +kernel
theorem dX7_hours_2 : decode cX7_hours 2 = .ok (.lconst 0, 1) := by decide +kernel
theorem dX7_hours_3 : decode cX7_hours 3 = .ok (.ldc2_w 194, 3) := by decide +kernel
theorem dX7_hours_6 : decode cX7_hours 6 = .ok (.invokestatic 55, 3) := by decide +kernel
theorem dX7_hours_9 : decode cX7_hours 9 = .ok (.ifCond .ne 5, 3) := by decide +kernel
theorem dX7_hours_12 : decode cX7_hours 12 = .ok (.iconst (-1), 1) := by decide +kernel
theorem dX7_hours_13 : decode cX7_hours 13 = .ok (.ireturn, 1) := by decide +kernel
theorem dX7_hours_14 : decode cX7_hours 14 = .ok (.aload_n 0, 1) := by decide +kernel
theorem dX7_hours_15 : decode cX7_hours 15 = .ok (.getfield 7, 3) := by decide +kernel
theorem dX7_hours_18 : decode cX7_hours 18 = .ok (.bipush 52, 2) := by decide +kernel
theorem dX7_hours_20 : decode cX7_hours 20 = .ok (.iaload, 1) := by decide +kernel
theorem dX7_hours_21 : decode cX7_hours 21 = .ok (.iload_n 1, 1) := by decide +kernel
theorem dX7_hours_22 : decode cX7_hours 22 = .ok (.iadd, 1) := by decide +kernel
theorem dX7_hours_23 : decode cX7_hours 23 = .ok (.sipush 9999, 3) := by decide +kernel
theorem dX7_hours_26 : decode cX7_hours 26 = .ok (.if_icmp .le 6, 3) := by decide +kernel
theorem dX7_hours_29 : decode cX7_hours 29 = .ok (.bipush (-3), 2) := by decide +kernel
theorem dX7_hours_31 : decode cX7_hours 31 = .ok (.ireturn, 1) := by decide +kernel
theorem dX7_hours_32 : decode cX7_hours 32 = .ok (.iconst 0, 1) := by decide +kernel
theorem dX7_hours_33 : decode cX7_hours 33 = .ok (.istore_n 2, 1) := by decide +kernel
theorem dX7_hours_34 : decode cX7_hours 34 = .ok (.iconst 0, 1) := by decide +kernel
theorem dX7_hours_35 : decode cX7_hours 35 = .ok (.istore_n 3, 1) := by decide +kernel
theorem dX7_hours_36 : decode cX7_hours 36 = .ok (.iload_n 3, 1) := by decide +kernel
theorem dX7_hours_37 : decode cX7_hours 37 = .ok (.iload_n 1, 1) := by decide +kernel
theorem dX7_hours_38 : decode cX7_hours 38 = .ok (.if_icmp .ge 20, 3) := by decide +kernel
theorem dX7_hours_41 : decode cX7_hours 41 = .ok (.iload_n 2, 1) := by decide +kernel
theorem dX7_hours_42 : decode cX7_hours 42 = .ok (.aload_n 0, 1) := by decide +kernel
theorem dX7_hours_43 : decode cX7_hours 43 = .ok (.iconst 0, 1) := by decide +kernel
theorem dX7_hours_44 : decode cX7_hours 44 = .ok (.invokevirtual 196, 3) := by decide +kernel
theorem dX7_hours_47 : decode cX7_hours 47 = .ok (.invokestatic 199, 3) := by decide +kernel
theorem dX7_hours_50 : decode cX7_hours 50 = .ok (.iadd, 1) := by decide +kernel
theorem dX7_hours_51 : decode cX7_hours 51 = .ok (.istore_n 2, 1) := by decide +kernel
theorem dX7_hours_52 : decode cX7_hours 52 = .ok (.iinc 3 1, 3) := by decide +kernel
theorem dX7_hours_55 : decode cX7_hours 55 = .ok (.goto (-19), 3) := by decide +kernel
theorem dX7_hours_58 : decode cX7_hours 58 = .ok (.iload_n 2, 1) := by decide +kernel
theorem dX7_hours_59 : decode cX7_hours 59 = .ok (.ireturn, 1) := by decide +kernel
theorem dX7_bitsOf_0 : decode cX7_bitsOf 0 = .ok (.iconst 0, 1) := by decide +kernel
theorem dX7_bitsOf_1 : decode cX7_bitsOf 1 = .ok (.istore_n 1, 1) := by decide +kernel
theorem dX7_bitsOf_2 : decode cX7_bitsOf 2 = .ok (.iload_n 0, 1) := by decide +kernel
theorem dX7_bitsOf_3 : decode cX7_bitsOf 3 = .ok (.istore_n 2, 1) := by decide +kernel
theorem dX7_bitsOf_4 : decode cX7_bitsOf 4 = .ok (.iload_n 2, 1) := by decide +kernel
theorem dX7_bitsOf_5 : decode cX7_bitsOf 5 = .ok (.ifCond .le 16, 3) := by decide +kernel
theorem dX7_bitsOf_8 : decode cX7_bitsOf 8 = .ok (.iload_n 1, 1) := by decide +kernel
theorem dX7_bitsOf_9 : decode cX7_bitsOf 9 = .ok (.iload_n 2, 1) := by decide +kernel
theorem dX7_bitsOf_10 : decode cX7_bitsOf 10 = .ok (.iconst 1, 1) := by decide +kernel
theorem dX7_bitsOf_11 : decode cX7_bitsOf 11 = .ok (.iand, 1) := by decide +kernel
theorem dX7_bitsOf_12 : decode cX7_bitsOf 12 = .ok (.iadd, 1) := by decide +kernel
theorem dX7_bitsOf_13 : decode cX7_bitsOf 13 = .ok (.istore_n 1, 1) := by decide +kernel
theorem dX7_bitsOf_14 : decode cX7_bitsOf 14 = .ok (.iload_n 2, 1) := by decide +kernel
theorem dX7_bitsOf_15 : decode cX7_bitsOf 15 = .ok (.iconst 1, 1) := by decide +kernel
theorem dX7_bitsOf_16 : decode cX7_bitsOf 16 = .ok (.ishr, 1) := by decide +kernel
theorem dX7_bitsOf_17 : decode cX7_bitsOf 17 = .ok (.istore_n 2, 1) := by decide +kernel
theorem dX7_bitsOf_18 : decode cX7_bitsOf 18 = .ok (.goto (-14), 3) := by decide +kernel
theorem dX7_bitsOf_21 : decode cX7_bitsOf 21 = .ok (.iload_n 1, 1) := by decide +kernel
theorem dX7_bitsOf_22 : decode cX7_bitsOf 22 = .ok (.ireturn, 1) := by decide +kernel
theorem dX7_copies_0 : decode cX7_copies 0 = .ok (.iconst 0, 1) := by decide +kernel
theorem dX7_copies_1 : decode cX7_copies 1 = .ok (.istore_n 3, 1) := by decide +kernel
theorem dX7_copies_2 : decode cX7_copies 2 = .ok (.iload_n 3, 1) := by decide +kernel
theorem dX7_copies_3 : decode cX7_copies 3 = .ok (.bipush 53, 2) := by decide +kernel
theorem dX7_copies_5 : decode cX7_copies 5 = .ok (.if_icmp .ge 25, 3) := by decide +kernel
theorem dX7_copies_8 : decode cX7_copies 8 = .ok (.aload_n 0, 1) := by decide +kernel
theorem dX7_copies_9 : decode cX7_copies 9 = .ok (.getfield 7, 3) := by decide +kernel
theorem dX7_copies_12 : decode cX7_copies 12 = .ok (.iload_n 2, 1) := by decide +kernel
theorem dX7_copies_13 : decode cX7_copies 13 = .ok (.iload_n 3, 1) := by decide +kernel
theorem dX7_copies_14 : decode cX7_copies 14 = .ok (.iadd, 1) := by decide +kernel
theorem dX7_copies_15 : decode cX7_copies 15 = .ok (.aload_n 0, 1) := by decide +kernel
theorem dX7_copies_16 : decode cX7_copies 16 = .ok (.getfield 7, 3) := by decide +kernel
theorem dX7_copies_19 : decode cX7_copies 19 = .ok (.iload_n 1, 1) := by decide +kernel
theorem dX7_copies_20 : decode cX7_copies 20 = .ok (.iload_n 3, 1) := by decide +kernel
theorem dX7_copies_21 : decode cX7_copies 21 = .ok (.iadd, 1) := by decide +kernel
theorem dX7_copies_22 : decode cX7_copies 22 = .ok (.iaload, 1) := by decide +kernel
theorem dX7_copies_23 : decode cX7_copies 23 = .ok (.iastore, 1) := by decide +kernel
theorem dX7_copies_24 : decode cX7_copies 24 = .ok (.iinc 3 1, 3) := by decide +kernel
theorem dX7_copies_27 : decode cX7_copies 27 = .ok (.goto (-25), 3) := by decide +kernel
theorem dX7_copies_30 : decode cX7_copies 30 = .ok (.return_, 1) := by decide +kernel
theorem dX7_feels_0 : decode cX7_feels 0 = .ok (.iconst 0, 1) := by decide +kernel
theorem dX7_feels_1 : decode cX7_feels 1 = .ok (.istore_n 2, 1) := by decide +kernel
theorem dX7_feels_2 : decode cX7_feels 2 = .ok (.iload_n 2, 1) := by decide +kernel
theorem dX7_feels_3 : decode cX7_feels 3 = .ok (.aload_n 0, 1) := by decide +kernel
theorem dX7_feels_4 : decode cX7_feels 4 = .ok (.getfield 7, 3) := by decide +kernel
theorem dX7_feels_7 : decode cX7_feels 7 = .ok (.iload_n 1, 1) := by decide +kernel
theorem dX7_feels_8 : decode cX7_feels 8 = .ok (.bipush 24, 2) := by decide +kernel
theorem dX7_feels_10 : decode cX7_feels 10 = .ok (.iadd, 1) := by decide +kernel
theorem dX7_feels_11 : decode cX7_feels 11 = .ok (.iaload, 1) := by decide +kernel
theorem dX7_feels_12 : decode cX7_feels 12 = .ok (.if_icmp .ge 49, 3) := by decide +kernel
theorem dX7_feels_15 : decode cX7_feels 15 = .ok (.aload_n 0, 1) := by decide +kernel
theorem dX7_feels_16 : decode cX7_feels 16 = .ok (.aload_n 0, 1) := by decide +kernel
theorem dX7_feels_17 : decode cX7_feels 17 = .ok (.getfield 7, 3) := by decide +kernel
theorem dX7_feels_20 : decode cX7_feels 20 = .ok (.iload_n 1, 1) := by decide +kernel
theorem dX7_feels_21 : decode cX7_feels 21 = .ok (.bipush 12, 2) := by decide +kernel
theorem dX7_feels_23 : decode cX7_feels 23 = .ok (.iadd, 1) := by decide +kernel
theorem dX7_feels_24 : decode cX7_feels 24 = .ok (.iload_n 2, 1) := by decide +kernel
theorem dX7_feels_25 : decode cX7_feels 25 = .ok (.iadd, 1) := by decide +kernel
theorem dX7_feels_26 : decode cX7_feels 26 = .ok (.iaload, 1) := by decide +kernel
theorem dX7_feels_27 : decode cX7_feels 27 = .ok (.aload_n 0, 1) := by decide +kernel
theorem dX7_feels_28 : decode cX7_feels 28 = .ok (.getfield 202, 3) := by decide +kernel
theorem dX7_feels_31 : decode cX7_feels 31 = .ok (.if_icmp .le 17, 3) := by decide +kernel
theorem dX7_feels_34 : decode cX7_feels 34 = .ok (.aload_n 0, 1) := by decide +kernel
theorem dX7_feels_35 : decode cX7_feels 35 = .ok (.getfield 7, 3) := by decide +kernel
theorem dX7_feels_38 : decode cX7_feels 38 = .ok (.iload_n 1, 1) := by decide +kernel
theorem dX7_feels_39 : decode cX7_feels 39 = .ok (.bipush 12, 2) := by decide +kernel
theorem dX7_feels_41 : decode cX7_feels 41 = .ok (.iadd, 1) := by decide +kernel
theorem dX7_feels_42 : decode cX7_feels 42 = .ok (.iload_n 2, 1) := by decide +kernel
theorem dX7_feels_43 : decode cX7_feels 43 = .ok (.iadd, 1) := by decide +kernel
theorem dX7_feels_44 : decode cX7_feels 44 = .ok (.iaload, 1) := by decide +kernel
theorem dX7_feels_45 : decode cX7_feels 45 = .ok (.goto 7, 3) := by decide +kernel
theorem dX7_feels_48 : decode cX7_feels 48 = .ok (.aload_n 0, 1) := by decide +kernel
theorem dX7_feels_49 : decode cX7_feels 49 = .ok (.getfield 202, 3) := by decide +kernel
theorem dX7_feels_52 : decode cX7_feels 52 = .ok (.putfield 202, 3) := by decide +kernel
theorem dX7_feels_55 : decode cX7_feels 55 = .ok (.iinc 2 1, 3) := by decide +kernel
theorem dX7_feels_58 : decode cX7_feels 58 = .ok (.goto (-56), 3) := by decide +kernel
theorem dX7_feels_61 : decode cX7_feels 61 = .ok (.return_, 1) := by decide +kernel
theorem dX7_hoursGo_0 : decode cX7_hoursGo 0 = .ok (.aload_n 0, 1) := by decide +kernel
theorem dX7_hoursGo_1 : decode cX7_hoursGo 1 = .ok (.iload_n 1, 1) := by decide +kernel
theorem dX7_hoursGo_2 : decode cX7_hoursGo 2 = .ok (.sipush 212, 3) := by decide +kernel
theorem dX7_hoursGo_5 : decode cX7_hoursGo 5 = .ok (.invokevirtual 205, 3) := by decide +kernel
theorem dX7_hoursGo_8 : decode cX7_hoursGo 8 = .ok (.iconst 0, 1) := by decide +kernel
theorem dX7_hoursGo_9 : decode cX7_hoursGo 9 = .ok (.istore_n 3, 1) := by decide +kernel
theorem dX7_hoursGo_10 : decode cX7_hoursGo 10 = .ok (.aload_n 0, 1) := by decide +kernel
theorem dX7_hoursGo_11 : decode cX7_hoursGo 11 = .ok (.iconst 0, 1) := by decide +kernel
theorem dX7_hoursGo_12 : decode cX7_hoursGo 12 = .ok (.putfield 209, 3) := by decide +kernel
theorem dX7_hoursGo_15 : decode cX7_hoursGo 15 = .ok (.aload_n 0, 1) := by decide +kernel
theorem dX7_hoursGo_16 : decode cX7_hoursGo 16 = .ok (.iconst 0, 1) := by decide +kernel
theorem dX7_hoursGo_17 : decode cX7_hoursGo 17 = .ok (.putfield 212, 3) := by decide +kernel
theorem dX7_hoursGo_20 : decode cX7_hoursGo 20 = .ok (.aload_n 0, 1) := by decide +kernel
theorem dX7_hoursGo_21 : decode cX7_hoursGo 21 = .ok (.iconst 0, 1) := by decide +kernel
theorem dX7_hoursGo_22 : decode cX7_hoursGo 22 = .ok (.putfield 202, 3) := by decide +kernel
theorem dX7_hoursGo_25 : decode cX7_hoursGo 25 = .ok (.aload_n 0, 1) := by decide +kernel
theorem dX7_hoursGo_26 : decode cX7_hoursGo 26 = .ok (.sipush 212, 3) := by decide +kernel
theorem dX7_hoursGo_29 : decode cX7_hoursGo 29 = .ok (.invokevirtual 215, 3) := by decide +kernel
theorem dX7_hoursGo_32 : decode cX7_hoursGo 32 = .ok (.iconst 0, 1) := by decide +kernel
theorem dX7_hoursGo_33 : decode cX7_hoursGo 33 = .ok (.istore 4, 2) := by decide +kernel
theorem dX7_hoursGo_35 : decode cX7_hoursGo 35 = .ok (.iload 4, 2) := by decide +kernel
theorem dX7_hoursGo_37 : decode cX7_hoursGo 37 = .ok (.iload_n 2, 1) := by decide +kernel
theorem dX7_hoursGo_38 : decode cX7_hoursGo 38 = .ok (.if_icmp .ge 82, 3) := by decide +kernel
theorem dX7_hoursGo_41 : decode cX7_hoursGo 41 = .ok (.aload_n 0, 1) := by decide +kernel
theorem dX7_hoursGo_42 : decode cX7_hoursGo 42 = .ok (.sipush 212, 3) := by decide +kernel
theorem dX7_hoursGo_45 : decode cX7_hoursGo 45 = .ok (.invokevirtual 148, 3) := by decide +kernel
theorem dX7_hoursGo_48 : decode cX7_hoursGo 48 = .ok (.istore 5, 2) := by decide +kernel
theorem dX7_hoursGo_50 : decode cX7_hoursGo 50 = .ok (.aload_n 0, 1) := by decide +kernel
theorem dX7_hoursGo_51 : decode cX7_hoursGo 51 = .ok (.sipush 212, 3) := by decide +kernel
theorem dX7_hoursGo_54 : decode cX7_hoursGo 54 = .ok (.invokevirtual 196, 3) := by decide +kernel
theorem dX7_hoursGo_57 : decode cX7_hoursGo 57 = .ok (.istore 6, 2) := by decide +kernel
theorem dX7_hoursGo_59 : decode cX7_hoursGo 59 = .ok (.iload_n 3, 1) := by decide +kernel
theorem dX7_hoursGo_60 : decode cX7_hoursGo 60 = .ok (.iload 6, 2) := by decide +kernel
theorem dX7_hoursGo_62 : decode cX7_hoursGo 62 = .ok (.invokestatic 199, 3) := by decide +kernel
theorem dX7_hoursGo_65 : decode cX7_hoursGo 65 = .ok (.iadd, 1) := by decide +kernel
theorem dX7_hoursGo_66 : decode cX7_hoursGo 66 = .ok (.istore_n 3, 1) := by decide +kernel
theorem dX7_hoursGo_67 : decode cX7_hoursGo 67 = .ok (.aload_n 0, 1) := by decide +kernel
theorem dX7_hoursGo_68 : decode cX7_hoursGo 68 = .ok (.dup, 1) := by decide +kernel
theorem dX7_hoursGo_69 : decode cX7_hoursGo 69 = .ok (.getfield 209, 3) := by decide +kernel
theorem dX7_hoursGo_72 : decode cX7_hoursGo 72 = .ok (.iload 6, 2) := by decide +kernel
theorem dX7_hoursGo_74 : decode cX7_hoursGo 74 = .ok (.ifCond .le 8, 3) := by decide +kernel
theorem dX7_hoursGo_77 : decode cX7_hoursGo 77 = .ok (.iload 5, 2) := by decide +kernel
theorem dX7_hoursGo_79 : decode cX7_hoursGo 79 = .ok (.goto 4, 3) := by decide +kernel
theorem dX7_hoursGo_82 : decode cX7_hoursGo 82 = .ok (.iconst 0, 1) := by decide +kernel
theorem dX7_hoursGo_83 : decode cX7_hoursGo 83 = .ok (.iadd, 1) := by decide +kernel
theorem dX7_hoursGo_84 : decode cX7_hoursGo 84 = .ok (.putfield 209, 3) := by decide +kernel
theorem dX7_hoursGo_87 : decode cX7_hoursGo 87 = .ok (.aload_n 0, 1) := by decide +kernel
theorem dX7_hoursGo_88 : decode cX7_hoursGo 88 = .ok (.dup, 1) := by decide +kernel
theorem dX7_hoursGo_89 : decode cX7_hoursGo 89 = .ok (.getfield 212, 3) := by decide +kernel
theorem dX7_hoursGo_92 : decode cX7_hoursGo 92 = .ok (.iload 6, 2) := by decide +kernel
theorem dX7_hoursGo_94 : decode cX7_hoursGo 94 = .ok (.ifCond .le 7, 3) := by decide +kernel
theorem dX7_hoursGo_97 : decode cX7_hoursGo 97 = .ok (.iconst 0, 1) := by decide +kernel
theorem dX7_hoursGo_98 : decode cX7_hoursGo 98 = .ok (.goto 5, 3) := by decide +kernel
theorem dX7_hoursGo_101 : decode cX7_hoursGo 101 = .ok (.iload 5, 2) := by decide +kernel
theorem dX7_hoursGo_103 : decode cX7_hoursGo 103 = .ok (.iadd, 1) := by decide +kernel
theorem dX7_hoursGo_104 : decode cX7_hoursGo 104 = .ok (.putfield 212, 3) := by decide +kernel
theorem dX7_hoursGo_107 : decode cX7_hoursGo 107 = .ok (.aload_n 0, 1) := by decide +kernel
theorem dX7_hoursGo_108 : decode cX7_hoursGo 108 = .ok (.sipush 212, 3) := by decide +kernel
theorem dX7_hoursGo_111 : decode cX7_hoursGo 111 = .ok (.invokevirtual 215, 3) := by decide +kernel
theorem dX7_hoursGo_114 : decode cX7_hoursGo 114 = .ok (.iinc 4 1, 3) := by decide +kernel
theorem dX7_hoursGo_117 : decode cX7_hoursGo 117 = .ok (.goto (-82), 3) := by decide +kernel
theorem dX7_hoursGo_120 : decode cX7_hoursGo 120 = .ok (.iload_n 3, 1) := by decide +kernel
theorem dX7_hoursGo_121 : decode cX7_hoursGo 121 = .ok (.ireturn, 1) := by decide +kernel
theorem dX7_wentThen_0 : decode cX7_wentThen 0 = .ok (.aload_n 0, 1) := by decide +kernel
theorem dX7_wentThen_1 : decode cX7_wentThen 1 = .ok (.getfield 7, 3) := by decide +kernel
theorem dX7_wentThen_4 : decode cX7_wentThen 4 = .ok (.sipush 232, 3) := by decide +kernel
theorem dX7_wentThen_7 : decode cX7_wentThen 7 = .ok (.iload_n 1, 1) := by decide +kernel
theorem dX7_wentThen_8 : decode cX7_wentThen 8 = .ok (.iadd, 1) := by decide +kernel
theorem dX7_wentThen_9 : decode cX7_wentThen 9 = .ok (.iaload, 1) := by decide +kernel
theorem dX7_wentThen_10 : decode cX7_wentThen 10 = .ok (.aload_n 0, 1) := by decide +kernel
theorem dX7_wentThen_11 : decode cX7_wentThen 11 = .ok (.getfield 7, 3) := by decide +kernel
theorem dX7_wentThen_14 : decode cX7_wentThen 14 = .ok (.bipush 20, 2) := by decide +kernel
theorem dX7_wentThen_16 : decode cX7_wentThen 16 = .ok (.iload_n 1, 1) := by decide +kernel
theorem dX7_wentThen_17 : decode cX7_wentThen 17 = .ok (.iadd, 1) := by decide +kernel
theorem dX7_wentThen_18 : decode cX7_wentThen 18 = .ok (.iaload, 1) := by decide +kernel
theorem dX7_wentThen_19 : decode cX7_wentThen 19 = .ok (.isub, 1) := by decide +kernel
theorem dX7_wentThen_20 : decode cX7_wentThen 20 = .ok (.ireturn, 1) := by decide +kernel
theorem dX7_runs_0 : decode cX7_runs 0 = .ok (.iload_n 1, 1) := by decide +kernel
theorem dX7_runs_1 : decode cX7_runs 1 = .ok (.invokestatic 218, 3) := by decide +kernel
theorem dX7_runs_4 : decode cX7_runs 4 = .ok (.ifCond .eq 15, 3) := by decide +kernel
theorem dX7_runs_7 : decode cX7_runs 7 = .ok (.iload_n 2, 1) := by decide +kernel
theorem dX7_runs_8 : decode cX7_runs 8 = .ok (.i2l, 1) := by decide +kernel
theorem dX7_runs_9 : decode cX7_runs 9 = .ok (.lconst 0, 1) := by decide +kernel
theorem dX7_runs_10 : decode cX7_runs 10 = .ok (.ldc2_w 189, 3) := by decide +kernel
theorem dX7_runs_13 : decode cX7_runs 13 = .ok (.invokestatic 55, 3) := by decide +kernel
theorem dX7_runs_16 : decode cX7_runs 16 = .ok (.ifCond .ne 5, 3) := by decide +kernel
theorem dX7_runs_19 : decode cX7_runs 19 = .ok (.iconst (-1), 1) := by decide +kernel
theorem dX7_runs_20 : decode cX7_runs 20 = .ok (.ireturn, 1) := by decide +kernel
theorem dX7_runs_21 : decode cX7_runs 21 = .ok (.aload_n 0, 1) := by decide +kernel
theorem dX7_runs_22 : decode cX7_runs 22 = .ok (.iconst 0, 1) := by decide +kernel
theorem dX7_runs_23 : decode cX7_runs 23 = .ok (.iload_n 1, 1) := by decide +kernel
theorem dX7_runs_24 : decode cX7_runs 24 = .ok (.invokevirtual 221, 3) := by decide +kernel
theorem dX7_runs_27 : decode cX7_runs 27 = .ok (.istore_n 3, 1) := by decide +kernel
theorem dX7_runs_28 : decode cX7_runs 28 = .ok (.iload_n 2, 1) := by decide +kernel
theorem dX7_runs_29 : decode cX7_runs 29 = .ok (.tableswitch 53 0 3 #[31, 33, 38, 43], 31) := by decide +kernel
theorem dX7_runs_60 : decode cX7_runs 60 = .ok (.iload_n 3, 1) := by decide +kernel
theorem dX7_runs_61 : decode cX7_runs 61 = .ok (.ireturn, 1) := by decide +kernel
theorem dX7_runs_62 : decode cX7_runs 62 = .ok (.aload_n 0, 1) := by decide +kernel
theorem dX7_runs_63 : decode cX7_runs 63 = .ok (.getfield 209, 3) := by decide +kernel
theorem dX7_runs_66 : decode cX7_runs 66 = .ok (.ireturn, 1) := by decide +kernel
theorem dX7_runs_67 : decode cX7_runs 67 = .ok (.aload_n 0, 1) := by decide +kernel
theorem dX7_runs_68 : decode cX7_runs 68 = .ok (.getfield 212, 3) := by decide +kernel
theorem dX7_runs_71 : decode cX7_runs 71 = .ok (.ireturn, 1) := by decide +kernel
theorem dX7_runs_72 : decode cX7_runs 72 = .ok (.aload_n 0, 1) := by decide +kernel
theorem dX7_runs_73 : decode cX7_runs 73 = .ok (.sipush 212, 3) := by decide +kernel
theorem dX7_runs_76 : decode cX7_runs 76 = .ok (.bipush 16, 2) := by decide +kernel
theorem dX7_runs_78 : decode cX7_runs 78 = .ok (.invokevirtual 157, 3) := by decide +kernel
theorem dX7_runs_81 : decode cX7_runs 81 = .ok (.ireturn, 1) := by decide +kernel
theorem dX7_runs_82 : decode cX7_runs 82 = .ok (.aload_n 0, 1) := by decide +kernel
theorem dX7_runs_83 : decode cX7_runs 83 = .ok (.getfield 202, 3) := by decide +kernel
theorem dX7_runs_86 : decode cX7_runs 86 = .ok (.ireturn, 1) := by decide +kernel
theorem dX7_ahead_0 : decode cX7_ahead 0 = .ok (.aload_n 0, 1) := by decide +kernel
theorem dX7_ahead_1 : decode cX7_ahead 1 = .ok (.iload_n 1, 1) := by decide +kernel
theorem dX7_ahead_2 : decode cX7_ahead 2 = .ok (.invokevirtual 160, 3) := by decide +kernel
theorem dX7_ahead_5 : decode cX7_ahead 5 = .ok (.ifCond .eq 22, 3) := by decide +kernel
theorem dX7_ahead_8 : decode cX7_ahead 8 = .ok (.iload_n 2, 1) := by decide +kernel
theorem dX7_ahead_9 : decode cX7_ahead 9 = .ok (.invokestatic 218, 3) := by decide +kernel
theorem dX7_ahead_12 : decode cX7_ahead 12 = .ok (.ifCond .eq 15, 3) := by decide +kernel
theorem dX7_ahead_15 : decode cX7_ahead 15 = .ok (.iload_n 3, 1) := by decide +kernel
theorem dX7_ahead_16 : decode cX7_ahead 16 = .ok (.i2l, 1) := by decide +kernel
theorem dX7_ahead_17 : decode cX7_ahead 17 = .ok (.lconst 0, 1) := by decide +kernel
theorem dX7_ahead_18 : decode cX7_ahead 18 = .ok (.ldc2_w 224, 3) := by decide +kernel
theorem dX7_ahead_21 : decode cX7_ahead 21 = .ok (.invokestatic 55, 3) := by decide +kernel
theorem dX7_ahead_24 : decode cX7_ahead 24 = .ok (.ifCond .ne 5, 3) := by decide +kernel
theorem dX7_ahead_27 : decode cX7_ahead 27 = .ok (.iconst (-1), 1) := by decide +kernel
theorem dX7_ahead_28 : decode cX7_ahead 28 = .ok (.ireturn, 1) := by decide +kernel
theorem dX7_ahead_29 : decode cX7_ahead 29 = .ok (.aload_n 0, 1) := by decide +kernel
theorem dX7_ahead_30 : decode cX7_ahead 30 = .ok (.iconst 0, 1) := by decide +kernel
theorem dX7_ahead_31 : decode cX7_ahead 31 = .ok (.iload_n 2, 1) := by decide +kernel
theorem dX7_ahead_32 : decode cX7_ahead 32 = .ok (.invokevirtual 221, 3) := by decide +kernel
theorem dX7_ahead_35 : decode cX7_ahead 35 = .ok (.pop, 1) := by decide +kernel
theorem dX7_ahead_36 : decode cX7_ahead 36 = .ok (.iload_n 3, 1) := by decide +kernel
theorem dX7_ahead_37 : decode cX7_ahead 37 = .ok (.ifCond .ne 16, 3) := by decide +kernel
theorem dX7_ahead_40 : decode cX7_ahead 40 = .ok (.aload_n 0, 1) := by decide +kernel
theorem dX7_ahead_41 : decode cX7_ahead 41 = .ok (.getfield 7, 3) := by decide +kernel
theorem dX7_ahead_44 : decode cX7_ahead 44 = .ok (.sipush 224, 3) := by decide +kernel
theorem dX7_ahead_47 : decode cX7_ahead 47 = .ok (.iload_n 1, 1) := by decide +kernel
theorem dX7_ahead_48 : decode cX7_ahead 48 = .ok (.iadd, 1) := by decide +kernel
theorem dX7_ahead_49 : decode cX7_ahead 49 = .ok (.iaload, 1) := by decide +kernel
theorem dX7_ahead_50 : decode cX7_ahead 50 = .ok (.goto 26, 3) := by decide +kernel
theorem dX7_ahead_53 : decode cX7_ahead 53 = .ok (.iload_n 3, 1) := by decide +kernel
theorem dX7_ahead_54 : decode cX7_ahead 54 = .ok (.iconst 1, 1) := by decide +kernel
theorem dX7_ahead_55 : decode cX7_ahead 55 = .ok (.if_icmp .ne 16, 3) := by decide +kernel
theorem dX7_ahead_58 : decode cX7_ahead 58 = .ok (.aload_n 0, 1) := by decide +kernel
theorem dX7_ahead_59 : decode cX7_ahead 59 = .ok (.getfield 7, 3) := by decide +kernel
theorem dX7_ahead_62 : decode cX7_ahead 62 = .ok (.sipush 228, 3) := by decide +kernel
theorem dX7_ahead_65 : decode cX7_ahead 65 = .ok (.iload_n 1, 1) := by decide +kernel
theorem dX7_ahead_66 : decode cX7_ahead 66 = .ok (.iadd, 1) := by decide +kernel
theorem dX7_ahead_67 : decode cX7_ahead 67 = .ok (.iaload, 1) := by decide +kernel
theorem dX7_ahead_68 : decode cX7_ahead 68 = .ok (.goto 8, 3) := by decide +kernel
theorem dX7_ahead_71 : decode cX7_ahead 71 = .ok (.aload_n 0, 1) := by decide +kernel
theorem dX7_ahead_72 : decode cX7_ahead 72 = .ok (.iload_n 1, 1) := by decide +kernel
theorem dX7_ahead_73 : decode cX7_ahead 73 = .ok (.invokevirtual 226, 3) := by decide +kernel
theorem dX7_ahead_76 : decode cX7_ahead 76 = .ok (.ireturn, 1) := by decide +kernel
theorem dX7_ups_0 : decode cX7_ups 0 = .ok (.iload_n 1, 1) := by decide +kernel
theorem dX7_ups_1 : decode cX7_ups 1 = .ok (.invokestatic 218, 3) := by decide +kernel
theorem dX7_ups_4 : decode cX7_ups 4 = .ok (.ifCond .ne 5, 3) := by decide +kernel
theorem dX7_ups_7 : decode cX7_ups 7 = .ok (.iconst (-1), 1) := by decide +kernel
theorem dX7_ups_8 : decode cX7_ups 8 = .ok (.ireturn, 1) := by decide +kernel
theorem dX7_ups_9 : decode cX7_ups 9 = .ok (.aload_n 0, 1) := by decide +kernel
theorem dX7_ups_10 : decode cX7_ups 10 = .ok (.iconst 0, 1) := by decide +kernel
theorem dX7_ups_11 : decode cX7_ups 11 = .ok (.iload_n 1, 1) := by decide +kernel
theorem dX7_ups_12 : decode cX7_ups 12 = .ok (.invokevirtual 221, 3) := by decide +kernel
theorem dX7_ups_15 : decode cX7_ups 15 = .ok (.pop, 1) := by decide +kernel
theorem dX7_ups_16 : decode cX7_ups 16 = .ok (.aload_n 0, 1) := by decide +kernel
theorem dX7_ups_17 : decode cX7_ups 17 = .ok (.sipush 212, 3) := by decide +kernel
theorem dX7_ups_20 : decode cX7_ups 20 = .ok (.invokevirtual 196, 3) := by decide +kernel
theorem dX7_ups_23 : decode cX7_ups 23 = .ok (.ireturn, 1) := by decide +kernel
theorem dX7_when_0 : decode cX7_when 0 = .ok (.aload_n 0, 1) := by decide +kernel
theorem dX7_when_1 : decode cX7_when 1 = .ok (.iload_n 1, 1) := by decide +kernel
theorem dX7_when_2 : decode cX7_when 2 = .ok (.invokevirtual 160, 3) := by decide +kernel
theorem dX7_when_5 : decode cX7_when 5 = .ok (.ifCond .ne 5, 3) := by decide +kernel
theorem dX7_when_8 : decode cX7_when 8 = .ok (.iconst (-1), 1) := by decide +kernel
theorem dX7_when_9 : decode cX7_when 9 = .ok (.ireturn, 1) := by decide +kernel
theorem dX7_when_10 : decode cX7_when 10 = .ok (.aload_n 0, 1) := by decide +kernel
theorem dX7_when_11 : decode cX7_when 11 = .ok (.iconst 0, 1) := by decide +kernel
theorem dX7_when_12 : decode cX7_when 12 = .ok (.sipush 212, 3) := by decide +kernel
theorem dX7_when_15 : decode cX7_when 15 = .ok (.invokevirtual 205, 3) := by decide +kernel
theorem dX7_when_18 : decode cX7_when 18 = .ok (.iconst 0, 1) := by decide +kernel
theorem dX7_when_19 : decode cX7_when 19 = .ok (.istore_n 2, 1) := by decide +kernel
theorem dX7_when_20 : decode cX7_when 20 = .ok (.iload_n 2, 1) := by decide +kernel
theorem dX7_when_21 : decode cX7_when 21 = .ok (.sipush 200, 3) := by decide +kernel
theorem dX7_when_24 : decode cX7_when 24 = .ok (.if_icmp .gt 26, 3) := by decide +kernel
theorem dX7_when_27 : decode cX7_when 27 = .ok (.aload_n 0, 1) := by decide +kernel
theorem dX7_when_28 : decode cX7_when 28 = .ok (.sipush 212, 3) := by decide +kernel
theorem dX7_when_31 : decode cX7_when 31 = .ok (.invokevirtual 196, 3) := by decide +kernel
theorem dX7_when_34 : decode cX7_when 34 = .ok (.iload_n 1, 1) := by decide +kernel
theorem dX7_when_35 : decode cX7_when 35 = .ok (.ishr, 1) := by decide +kernel
theorem dX7_when_36 : decode cX7_when 36 = .ok (.iconst 1, 1) := by decide +kernel
theorem dX7_when_37 : decode cX7_when 37 = .ok (.iand, 1) := by decide +kernel
theorem dX7_when_38 : decode cX7_when 38 = .ok (.iconst 1, 1) := by decide +kernel
theorem dX7_when_39 : decode cX7_when 39 = .ok (.if_icmp .ne 5, 3) := by decide +kernel
theorem dX7_when_42 : decode cX7_when 42 = .ok (.iload_n 2, 1) := by decide +kernel
theorem dX7_when_43 : decode cX7_when 43 = .ok (.ireturn, 1) := by decide +kernel
theorem dX7_when_44 : decode cX7_when 44 = .ok (.iinc 2 1, 3) := by decide +kernel
theorem dX7_when_47 : decode cX7_when 47 = .ok (.goto (-27), 3) := by decide +kernel
theorem dX7_when_50 : decode cX7_when 50 = .ok (.bipush (-4), 2) := by decide +kernel
theorem dX7_when_52 : decode cX7_when 52 = .ok (.ireturn, 1) := by decide +kernel
theorem dX7_again_0 : decode cX7_again 0 = .ok (.aload_n 0, 1) := by decide +kernel
theorem dX7_again_1 : decode cX7_again 1 = .ok (.getfield 7, 3) := by decide +kernel
theorem dX7_again_4 : decode cX7_again 4 = .ok (.bipush 49, 2) := by decide +kernel
theorem dX7_again_6 : decode cX7_again 6 = .ok (.iaload, 1) := by decide +kernel
theorem dX7_again_7 : decode cX7_again 7 = .ok (.istore_n 1, 1) := by decide +kernel
theorem dX7_again_8 : decode cX7_again 8 = .ok (.aload_n 0, 1) := by decide +kernel
theorem dX7_again_9 : decode cX7_again 9 = .ok (.iconst 0, 1) := by decide +kernel
theorem dX7_again_10 : decode cX7_again 10 = .ok (.sipush 212, 3) := by decide +kernel
theorem dX7_again_13 : decode cX7_again 13 = .ok (.invokevirtual 205, 3) := by decide +kernel
theorem dX7_again_16 : decode cX7_again 16 = .ok (.iconst 1, 1) := by decide +kernel
theorem dX7_again_17 : decode cX7_again 17 = .ok (.istore_n 2, 1) := by decide +kernel
theorem dX7_again_18 : decode cX7_again 18 = .ok (.iload_n 2, 1) := by decide +kernel
theorem dX7_again_19 : decode cX7_again 19 = .ok (.sipush 200, 3) := by decide +kernel
theorem dX7_again_22 : decode cX7_again 22 = .ok (.if_icmp .gt 118, 3) := by decide +kernel
theorem dX7_again_25 : decode cX7_again 25 = .ok (.aload_n 0, 1) := by decide +kernel
theorem dX7_again_26 : decode cX7_again 26 = .ok (.sipush 212, 3) := by decide +kernel
theorem dX7_again_29 : decode cX7_again 29 = .ok (.invokevirtual 196, 3) := by decide +kernel
theorem dX7_again_32 : decode cX7_again 32 = .ok (.pop, 1) := by decide +kernel
theorem dX7_again_33 : decode cX7_again 33 = .ok (.iload_n 1, 1) := by decide +kernel
theorem dX7_again_34 : decode cX7_again 34 = .ok (.ifCond .eq 9, 3) := by decide +kernel
theorem dX7_again_37 : decode cX7_again 37 = .ok (.iload_n 2, 1) := by decide +kernel
theorem dX7_again_38 : decode cX7_again 38 = .ok (.iload_n 1, 1) := by decide +kernel
theorem dX7_again_39 : decode cX7_again 39 = .ok (.irem, 1) := by decide +kernel
theorem dX7_again_40 : decode cX7_again 40 = .ok (.ifCond .ne 7, 3) := by decide +kernel
theorem dX7_again_43 : decode cX7_again 43 = .ok (.iconst 1, 1) := by decide +kernel
theorem dX7_again_44 : decode cX7_again 44 = .ok (.goto 4, 3) := by decide +kernel
theorem dX7_again_47 : decode cX7_again 47 = .ok (.iconst 0, 1) := by decide +kernel
theorem dX7_again_48 : decode cX7_again 48 = .ok (.istore_n 3, 1) := by decide +kernel
theorem dX7_again_49 : decode cX7_again 49 = .ok (.iconst 0, 1) := by decide +kernel
theorem dX7_again_50 : decode cX7_again 50 = .ok (.istore 4, 2) := by decide +kernel
theorem dX7_again_52 : decode cX7_again 52 = .ok (.iload 4, 2) := by decide +kernel
theorem dX7_again_54 : decode cX7_again 54 = .ok (.aload_n 0, 1) := by decide +kernel
theorem dX7_again_55 : decode cX7_again 55 = .ok (.getfield 7, 3) := by decide +kernel
theorem dX7_again_58 : decode cX7_again 58 = .ok (.bipush 24, 2) := by decide +kernel
theorem dX7_again_60 : decode cX7_again 60 = .ok (.iaload, 1) := by decide +kernel
theorem dX7_again_61 : decode cX7_again 61 = .ok (.if_icmp .ge 67, 3) := by decide +kernel
theorem dX7_again_64 : decode cX7_again 64 = .ok (.iload_n 3, 1) := by decide +kernel
theorem dX7_again_65 : decode cX7_again 65 = .ok (.ifCond .eq 55, 3) := by decide +kernel
theorem dX7_again_68 : decode cX7_again 68 = .ok (.aload_n 0, 1) := by decide +kernel
theorem dX7_again_69 : decode cX7_again 69 = .ok (.getfield 7, 3) := by decide +kernel
theorem dX7_again_72 : decode cX7_again 72 = .ok (.sipush 224, 3) := by decide +kernel
theorem dX7_again_75 : decode cX7_again 75 = .ok (.iload 4, 2) := by decide +kernel
theorem dX7_again_77 : decode cX7_again 77 = .ok (.iadd, 1) := by decide +kernel
theorem dX7_again_78 : decode cX7_again 78 = .ok (.iaload, 1) := by decide +kernel
theorem dX7_again_79 : decode cX7_again 79 = .ok (.aload_n 0, 1) := by decide +kernel
theorem dX7_again_80 : decode cX7_again 80 = .ok (.getfield 7, 3) := by decide +kernel
theorem dX7_again_83 : decode cX7_again 83 = .ok (.bipush 12, 2) := by decide +kernel
theorem dX7_again_85 : decode cX7_again 85 = .ok (.iload 4, 2) := by decide +kernel
theorem dX7_again_87 : decode cX7_again 87 = .ok (.iadd, 1) := by decide +kernel
theorem dX7_again_88 : decode cX7_again 88 = .ok (.iaload, 1) := by decide +kernel
theorem dX7_again_89 : decode cX7_again 89 = .ok (.if_icmp .ne 31, 3) := by decide +kernel
theorem dX7_again_92 : decode cX7_again 92 = .ok (.aload_n 0, 1) := by decide +kernel
theorem dX7_again_93 : decode cX7_again 93 = .ok (.getfield 7, 3) := by decide +kernel
theorem dX7_again_96 : decode cX7_again 96 = .ok (.sipush 228, 3) := by decide +kernel
theorem dX7_again_99 : decode cX7_again 99 = .ok (.iload 4, 2) := by decide +kernel
theorem dX7_again_101 : decode cX7_again 101 = .ok (.iadd, 1) := by decide +kernel
theorem dX7_again_102 : decode cX7_again 102 = .ok (.iaload, 1) := by decide +kernel
theorem dX7_again_103 : decode cX7_again 103 = .ok (.aload_n 0, 1) := by decide +kernel
theorem dX7_again_104 : decode cX7_again 104 = .ok (.getfield 7, 3) := by decide +kernel
theorem dX7_again_107 : decode cX7_again 107 = .ok (.bipush 16, 2) := by decide +kernel
theorem dX7_again_109 : decode cX7_again 109 = .ok (.iload 4, 2) := by decide +kernel
theorem dX7_again_111 : decode cX7_again 111 = .ok (.iadd, 1) := by decide +kernel
theorem dX7_again_112 : decode cX7_again 112 = .ok (.iaload, 1) := by decide +kernel
theorem dX7_again_113 : decode cX7_again 113 = .ok (.if_icmp .ne 7, 3) := by decide +kernel
theorem dX7_again_116 : decode cX7_again 116 = .ok (.iconst 1, 1) := by decide +kernel
theorem dX7_again_117 : decode cX7_again 117 = .ok (.goto 4, 3) := by decide +kernel
theorem dX7_again_120 : decode cX7_again 120 = .ok (.iconst 0, 1) := by decide +kernel
theorem dX7_again_121 : decode cX7_again 121 = .ok (.istore_n 3, 1) := by decide +kernel
theorem dX7_again_122 : decode cX7_again 122 = .ok (.iinc 4 1, 3) := by decide +kernel
theorem dX7_again_125 : decode cX7_again 125 = .ok (.goto (-73), 3) := by decide +kernel
theorem dX7_again_128 : decode cX7_again 128 = .ok (.iload_n 3, 1) := by decide +kernel
theorem dX7_again_129 : decode cX7_again 129 = .ok (.ifCond .eq 5, 3) := by decide +kernel
theorem dX7_again_132 : decode cX7_again 132 = .ok (.iload_n 2, 1) := by decide +kernel
theorem dX7_again_133 : decode cX7_again 133 = .ok (.ireturn, 1) := by decide +kernel
theorem dX7_again_134 : decode cX7_again 134 = .ok (.iinc 2 1, 3) := by decide +kernel
theorem dX7_again_137 : decode cX7_again 137 = .ok (.goto (-119), 3) := by decide +kernel
theorem dX7_again_140 : decode cX7_again 140 = .ok (.bipush (-4), 2) := by decide +kernel
theorem dX7_again_142 : decode cX7_again 142 = .ok (.ireturn, 1) := by decide +kernel
theorem dX7_whomBy_0 : decode cX7_whomBy 0 = .ok (.iload_n 1, 1) := by decide +kernel
theorem dX7_whomBy_1 : decode cX7_whomBy 1 = .ok (.aload_n 0, 1) := by decide +kernel
theorem dX7_whomBy_2 : decode cX7_whomBy 2 = .ok (.getfield 7, 3) := by decide +kernel
theorem dX7_whomBy_5 : decode cX7_whomBy 5 = .ok (.bipush 24, 2) := by decide +kernel
theorem dX7_whomBy_7 : decode cX7_whomBy 7 = .ok (.iaload, 1) := by decide +kernel
theorem dX7_whomBy_8 : decode cX7_whomBy 8 = .ok (.if_icmp .ge 7, 3) := by decide +kernel
theorem dX7_whomBy_11 : decode cX7_whomBy 11 = .ok (.iload_n 1, 1) := by decide +kernel
theorem dX7_whomBy_12 : decode cX7_whomBy 12 = .ok (.goto 4, 3) := by decide +kernel
theorem dX7_whomBy_15 : decode cX7_whomBy 15 = .ok (.iconst 4, 1) := by decide +kernel
theorem dX7_whomBy_16 : decode cX7_whomBy 16 = .ok (.ireturn, 1) := by decide +kernel
theorem dX7_whom_0 : decode cX7_whom 0 = .ok (.aload_n 0, 1) := by decide +kernel
theorem dX7_whom_1 : decode cX7_whom 1 = .ok (.iload_n 1, 1) := by decide +kernel
theorem dX7_whom_2 : decode cX7_whom 2 = .ok (.invokevirtual 166, 3) := by decide +kernel
theorem dX7_whom_5 : decode cX7_whom 5 = .ok (.ifCond .eq 20, 3) := by decide +kernel
theorem dX7_whom_8 : decode cX7_whom 8 = .ok (.iload_n 2, 1) := by decide +kernel
theorem dX7_whom_9 : decode cX7_whom 9 = .ok (.invokestatic 218, 3) := by decide +kernel
theorem dX7_whom_12 : decode cX7_whom 12 = .ok (.ifCond .eq 13, 3) := by decide +kernel
theorem dX7_whom_15 : decode cX7_whom 15 = .ok (.iload_n 3, 1) := by decide +kernel
theorem dX7_whom_16 : decode cX7_whom 16 = .ok (.i2l, 1) := by decide +kernel
theorem dX7_whom_17 : decode cX7_whom 17 = .ok (.lconst 0, 1) := by decide +kernel
theorem dX7_whom_18 : decode cX7_whom 18 = .ok (.lconst 1, 1) := by decide +kernel
theorem dX7_whom_19 : decode cX7_whom 19 = .ok (.invokestatic 55, 3) := by decide +kernel
theorem dX7_whom_22 : decode cX7_whom 22 = .ok (.ifCond .ne 5, 3) := by decide +kernel
theorem dX7_whom_25 : decode cX7_whom 25 = .ok (.iconst (-1), 1) := by decide +kernel
theorem dX7_whom_26 : decode cX7_whom 26 = .ok (.ireturn, 1) := by decide +kernel
theorem dX7_whom_27 : decode cX7_whom 27 = .ok (.iconst (-1), 1) := by decide +kernel
theorem dX7_whom_28 : decode cX7_whom 28 = .ok (.istore 4, 2) := by decide +kernel
theorem dX7_whom_30 : decode cX7_whom 30 = .ok (.iconst 0, 1) := by decide +kernel
theorem dX7_whom_31 : decode cX7_whom 31 = .ok (.istore 5, 2) := by decide +kernel
theorem dX7_whom_33 : decode cX7_whom 33 = .ok (.aload_n 0, 1) := by decide +kernel
theorem dX7_whom_34 : decode cX7_whom 34 = .ok (.iconst 0, 1) := by decide +kernel
theorem dX7_whom_35 : decode cX7_whom 35 = .ok (.sipush 265, 3) := by decide +kernel
theorem dX7_whom_38 : decode cX7_whom 38 = .ok (.invokevirtual 205, 3) := by decide +kernel
theorem dX7_whom_41 : decode cX7_whom 41 = .ok (.iconst 0, 1) := by decide +kernel
theorem dX7_whom_42 : decode cX7_whom 42 = .ok (.istore 6, 2) := by decide +kernel
theorem dX7_whom_44 : decode cX7_whom 44 = .ok (.iload 6, 2) := by decide +kernel
theorem dX7_whom_46 : decode cX7_whom 46 = .ok (.aload_n 0, 1) := by decide +kernel
theorem dX7_whom_47 : decode cX7_whom 47 = .ok (.getfield 7, 3) := by decide +kernel
theorem dX7_whom_50 : decode cX7_whom 50 = .ok (.bipush 24, 2) := by decide +kernel
theorem dX7_whom_52 : decode cX7_whom 52 = .ok (.iaload, 1) := by decide +kernel
theorem dX7_whom_53 : decode cX7_whom 53 = .ok (.if_icmp .gt 71, 3) := by decide +kernel
theorem dX7_whom_56 : decode cX7_whom 56 = .ok (.aload_n 0, 1) := by decide +kernel
theorem dX7_whom_57 : decode cX7_whom 57 = .ok (.getfield 7, 3) := by decide +kernel
theorem dX7_whom_60 : decode cX7_whom 60 = .ok (.sipush 302, 3) := by decide +kernel
theorem dX7_whom_63 : decode cX7_whom 63 = .ok (.iload_n 1, 1) := by decide +kernel
theorem dX7_whom_64 : decode cX7_whom 64 = .ok (.iadd, 1) := by decide +kernel
theorem dX7_whom_65 : decode cX7_whom 65 = .ok (.aload_n 0, 1) := by decide +kernel
theorem dX7_whom_66 : decode cX7_whom 66 = .ok (.iload 6, 2) := by decide +kernel
theorem dX7_whom_68 : decode cX7_whom 68 = .ok (.invokevirtual 229, 3) := by decide +kernel
theorem dX7_whom_71 : decode cX7_whom 71 = .ok (.iastore, 1) := by decide +kernel
theorem dX7_whom_72 : decode cX7_whom 72 = .ok (.aload_n 0, 1) := by decide +kernel
theorem dX7_whom_73 : decode cX7_whom 73 = .ok (.sipush 265, 3) := by decide +kernel
theorem dX7_whom_76 : decode cX7_whom 76 = .ok (.iload_n 2, 1) := by decide +kernel
theorem dX7_whom_77 : decode cX7_whom 77 = .ok (.invokevirtual 221, 3) := by decide +kernel
theorem dX7_whom_80 : decode cX7_whom 80 = .ok (.istore 7, 2) := by decide +kernel
theorem dX7_whom_82 : decode cX7_whom 82 = .ok (.iload 7, 2) := by decide +kernel
theorem dX7_whom_84 : decode cX7_whom 84 = .ok (.iload 4, 2) := by decide +kernel
theorem dX7_whom_86 : decode cX7_whom 86 = .ok (.if_icmp .le 12, 3) := by decide +kernel
theorem dX7_whom_89 : decode cX7_whom 89 = .ok (.aload_n 0, 1) := by decide +kernel
theorem dX7_whom_90 : decode cX7_whom 90 = .ok (.iload 6, 2) := by decide +kernel
theorem dX7_whom_92 : decode cX7_whom 92 = .ok (.invokevirtual 229, 3) := by decide +kernel
theorem dX7_whom_95 : decode cX7_whom 95 = .ok (.goto 5, 3) := by decide +kernel
theorem dX7_whom_98 : decode cX7_whom 98 = .ok (.iload 5, 2) := by decide +kernel
theorem dX7_whom_100 : decode cX7_whom 100 = .ok (.istore 5, 2) := by decide +kernel
theorem dX7_whom_102 : decode cX7_whom 102 = .ok (.iload 7, 2) := by decide +kernel
theorem dX7_whom_104 : decode cX7_whom 104 = .ok (.iload 4, 2) := by decide +kernel
theorem dX7_whom_106 : decode cX7_whom 106 = .ok (.if_icmp .le 8, 3) := by decide +kernel
theorem dX7_whom_109 : decode cX7_whom 109 = .ok (.iload 7, 2) := by decide +kernel
theorem dX7_whom_111 : decode cX7_whom 111 = .ok (.goto 5, 3) := by decide +kernel
theorem dX7_whom_114 : decode cX7_whom 114 = .ok (.iload 4, 2) := by decide +kernel
theorem dX7_whom_116 : decode cX7_whom 116 = .ok (.istore 4, 2) := by decide +kernel
theorem dX7_whom_118 : decode cX7_whom 118 = .ok (.iinc 6 1, 3) := by decide +kernel
theorem dX7_whom_121 : decode cX7_whom 121 = .ok (.goto (-77), 3) := by decide +kernel
theorem dX7_whom_124 : decode cX7_whom 124 = .ok (.iload_n 3, 1) := by decide +kernel
theorem dX7_whom_125 : decode cX7_whom 125 = .ok (.ifCond .ne 8, 3) := by decide +kernel
theorem dX7_whom_128 : decode cX7_whom 128 = .ok (.iload 5, 2) := by decide +kernel
theorem dX7_whom_130 : decode cX7_whom 130 = .ok (.goto 5, 3) := by decide +kernel
theorem dX7_whom_133 : decode cX7_whom 133 = .ok (.iload 4, 2) := by decide +kernel
theorem dX7_whom_135 : decode cX7_whom 135 = .ok (.ireturn, 1) := by decide +kernel
theorem dX7_route_0 : decode cX7_route 0 = .ok (.iload_n 1, 1) := by decide +kernel
theorem dX7_route_1 : decode cX7_route 1 = .ok (.i2l, 1) := by decide +kernel
theorem dX7_route_2 : decode cX7_route 2 = .ok (.lconst 0, 1) := by decide +kernel
theorem dX7_route_3 : decode cX7_route 3 = .ok (.ldc2_w 189, 3) := by decide +kernel
theorem dX7_route_6 : decode cX7_route 6 = .ok (.invokestatic 55, 3) := by decide +kernel
theorem dX7_route_9 : decode cX7_route 9 = .ok (.ifCond .eq 23, 3) := by decide +kernel
theorem dX7_route_12 : decode cX7_route 12 = .ok (.iload_n 2, 1) := by decide +kernel
theorem dX7_route_13 : decode cX7_route 13 = .ok (.ifCond .eq 21, 3) := by decide +kernel
theorem dX7_route_16 : decode cX7_route 16 = .ok (.iload_n 2, 1) := by decide +kernel
theorem dX7_route_17 : decode cX7_route 17 = .ok (.bipush 10, 2) := by decide +kernel
theorem dX7_route_19 : decode cX7_route 19 = .ok (.isub, 1) := by decide +kernel
theorem dX7_route_20 : decode cX7_route 20 = .ok (.i2l, 1) := by decide +kernel
theorem dX7_route_21 : decode cX7_route 21 = .ok (.lconst 0, 1) := by decide +kernel
theorem dX7_route_22 : decode cX7_route 22 = .ok (.iload_n 1, 1) := by decide +kernel
theorem dX7_route_23 : decode cX7_route 23 = .ok (.iconst 1, 1) := by decide +kernel
theorem dX7_route_24 : decode cX7_route 24 = .ok (.isub, 1) := by decide +kernel
theorem dX7_route_25 : decode cX7_route 25 = .ok (.i2l, 1) := by decide +kernel
theorem dX7_route_26 : decode cX7_route 26 = .ok (.invokestatic 55, 3) := by decide +kernel
theorem dX7_route_29 : decode cX7_route 29 = .ok (.ifCond .ne 5, 3) := by decide +kernel
theorem dX7_route_32 : decode cX7_route 32 = .ok (.iconst (-1), 1) := by decide +kernel
theorem dX7_route_33 : decode cX7_route 33 = .ok (.ireturn, 1) := by decide +kernel
theorem dX7_route_34 : decode cX7_route 34 = .ok (.aload_n 0, 1) := by decide +kernel
theorem dX7_route_35 : decode cX7_route 35 = .ok (.getfield 7, 3) := by decide +kernel
theorem dX7_route_38 : decode cX7_route 38 = .ok (.bipush 24, 2) := by decide +kernel
theorem dX7_route_40 : decode cX7_route 40 = .ok (.iaload, 1) := by decide +kernel
theorem dX7_route_41 : decode cX7_route 41 = .ok (.iconst 1, 1) := by decide +kernel
theorem dX7_route_42 : decode cX7_route 42 = .ok (.iadd, 1) := by decide +kernel
theorem dX7_route_43 : decode cX7_route 43 = .ok (.istore_n 3, 1) := by decide +kernel
theorem dX7_route_44 : decode cX7_route 44 = .ok (.iconst 1, 1) := by decide +kernel
theorem dX7_route_45 : decode cX7_route 45 = .ok (.istore 4, 2) := by decide +kernel
theorem dX7_route_47 : decode cX7_route 47 = .ok (.iconst 0, 1) := by decide +kernel
theorem dX7_route_48 : decode cX7_route 48 = .ok (.istore 5, 2) := by decide +kernel
theorem dX7_route_50 : decode cX7_route 50 = .ok (.iload 5, 2) := by decide +kernel
theorem dX7_route_52 : decode cX7_route 52 = .ok (.iload_n 1, 1) := by decide +kernel
theorem dX7_route_53 : decode cX7_route 53 = .ok (.if_icmp .ge 15, 3) := by decide +kernel
theorem dX7_route_56 : decode cX7_route 56 = .ok (.iload 4, 2) := by decide +kernel
theorem dX7_route_58 : decode cX7_route 58 = .ok (.iload_n 3, 1) := by decide +kernel
theorem dX7_route_59 : decode cX7_route 59 = .ok (.imul, 1) := by decide +kernel
theorem dX7_route_60 : decode cX7_route 60 = .ok (.istore 4, 2) := by decide +kernel
theorem dX7_route_62 : decode cX7_route 62 = .ok (.iinc 5 1, 3) := by decide +kernel
theorem dX7_route_65 : decode cX7_route 65 = .ok (.goto (-15), 3) := by decide +kernel
theorem dX7_route_68 : decode cX7_route 68 = .ok (.iconst (-1), 1) := by decide +kernel
theorem dX7_route_69 : decode cX7_route 69 = .ok (.istore 5, 2) := by decide +kernel
theorem dX7_route_71 : decode cX7_route 71 = .ok (.iconst 0, 1) := by decide +kernel
theorem dX7_route_72 : decode cX7_route 72 = .ok (.istore 6, 2) := by decide +kernel
theorem dX7_route_74 : decode cX7_route 74 = .ok (.iconst 0, 1) := by decide +kernel
theorem dX7_route_75 : decode cX7_route 75 = .ok (.istore 7, 2) := by decide +kernel
theorem dX7_route_77 : decode cX7_route 77 = .ok (.iload 7, 2) := by decide +kernel
theorem dX7_route_79 : decode cX7_route 79 = .ok (.iload 4, 2) := by decide +kernel
theorem dX7_route_81 : decode cX7_route 81 = .ok (.if_icmp .ge 110, 3) := by decide +kernel
theorem dX7_route_84 : decode cX7_route 84 = .ok (.iload 4, 2) := by decide +kernel
theorem dX7_route_86 : decode cX7_route 86 = .ok (.istore 8, 2) := by decide +kernel
theorem dX7_route_88 : decode cX7_route 88 = .ok (.iconst 0, 1) := by decide +kernel
theorem dX7_route_89 : decode cX7_route 89 = .ok (.istore 9, 2) := by decide +kernel
theorem dX7_route_91 : decode cX7_route 91 = .ok (.aload_n 0, 1) := by decide +kernel
theorem dX7_route_92 : decode cX7_route 92 = .ok (.iconst 0, 1) := by decide +kernel
theorem dX7_route_93 : decode cX7_route 93 = .ok (.sipush 212, 3) := by decide +kernel
theorem dX7_route_96 : decode cX7_route 96 = .ok (.invokevirtual 205, 3) := by decide +kernel
theorem dX7_route_99 : decode cX7_route 99 = .ok (.iconst 0, 1) := by decide +kernel
theorem dX7_route_100 : decode cX7_route 100 = .ok (.istore 10, 2) := by decide +kernel
theorem dX7_route_102 : decode cX7_route 102 = .ok (.iload 10, 2) := by decide +kernel
theorem dX7_route_104 : decode cX7_route 104 = .ok (.iload_n 1, 1) := by decide +kernel
theorem dX7_route_105 : decode cX7_route 105 = .ok (.if_icmp .ge 48, 3) := by decide +kernel
theorem dX7_route_108 : decode cX7_route 108 = .ok (.iload 8, 2) := by decide +kernel
theorem dX7_route_110 : decode cX7_route 110 = .ok (.iload_n 3, 1) := by decide +kernel
theorem dX7_route_111 : decode cX7_route 111 = .ok (.idiv, 1) := by decide +kernel
theorem dX7_route_112 : decode cX7_route 112 = .ok (.istore 8, 2) := by decide +kernel
theorem dX7_route_114 : decode cX7_route 114 = .ok (.iload 9, 2) := by decide +kernel
theorem dX7_route_116 : decode cX7_route 116 = .ok (.aload_n 0, 1) := by decide +kernel
theorem dX7_route_117 : decode cX7_route 117 = .ok (.sipush 212, 3) := by decide +kernel
theorem dX7_route_120 : decode cX7_route 120 = .ok (.aload_n 0, 1) := by decide +kernel
theorem dX7_route_121 : decode cX7_route 121 = .ok (.sipush 212, 3) := by decide +kernel
theorem dX7_route_124 : decode cX7_route 124 = .ok (.invokevirtual 148, 3) := by decide +kernel
theorem dX7_route_127 : decode cX7_route 127 = .ok (.aload_n 0, 1) := by decide +kernel
theorem dX7_route_128 : decode cX7_route 128 = .ok (.iload 7, 2) := by decide +kernel
theorem dX7_route_130 : decode cX7_route 130 = .ok (.iload 8, 2) := by decide +kernel
theorem dX7_route_132 : decode cX7_route 132 = .ok (.idiv, 1) := by decide +kernel
theorem dX7_route_133 : decode cX7_route 133 = .ok (.iload_n 3, 1) := by decide +kernel
theorem dX7_route_134 : decode cX7_route 134 = .ok (.irem, 1) := by decide +kernel
theorem dX7_route_135 : decode cX7_route 135 = .ok (.invokevirtual 229, 3) := by decide +kernel
theorem dX7_route_138 : decode cX7_route 138 = .ok (.invokevirtual 154, 3) := by decide +kernel
theorem dX7_route_141 : decode cX7_route 141 = .ok (.invokestatic 199, 3) := by decide +kernel
theorem dX7_route_144 : decode cX7_route 144 = .ok (.iadd, 1) := by decide +kernel
theorem dX7_route_145 : decode cX7_route 145 = .ok (.istore 9, 2) := by decide +kernel
theorem dX7_route_147 : decode cX7_route 147 = .ok (.iinc 10 1, 3) := by decide +kernel
theorem dX7_route_150 : decode cX7_route 150 = .ok (.goto (-48), 3) := by decide +kernel
theorem dX7_route_153 : decode cX7_route 153 = .ok (.iload 9, 2) := by decide +kernel
theorem dX7_route_155 : decode cX7_route 155 = .ok (.iload 5, 2) := by decide +kernel
theorem dX7_route_157 : decode cX7_route 157 = .ok (.if_icmp .le 8, 3) := by decide +kernel
theorem dX7_route_160 : decode cX7_route 160 = .ok (.iload 7, 2) := by decide +kernel
theorem dX7_route_162 : decode cX7_route 162 = .ok (.goto 5, 3) := by decide +kernel
theorem dX7_route_165 : decode cX7_route 165 = .ok (.iload 6, 2) := by decide +kernel
theorem dX7_route_167 : decode cX7_route 167 = .ok (.istore 6, 2) := by decide +kernel
theorem dX7_route_169 : decode cX7_route 169 = .ok (.iload 9, 2) := by decide +kernel
theorem dX7_route_171 : decode cX7_route 171 = .ok (.iload 5, 2) := by decide +kernel
theorem dX7_route_173 : decode cX7_route 173 = .ok (.if_icmp .le 8, 3) := by decide +kernel
theorem dX7_route_176 : decode cX7_route 176 = .ok (.iload 9, 2) := by decide +kernel
theorem dX7_route_178 : decode cX7_route 178 = .ok (.goto 5, 3) := by decide +kernel
theorem dX7_route_181 : decode cX7_route 181 = .ok (.iload 5, 2) := by decide +kernel
theorem dX7_route_183 : decode cX7_route 183 = .ok (.istore 5, 2) := by decide +kernel
theorem dX7_route_185 : decode cX7_route 185 = .ok (.iinc 7 1, 3) := by decide +kernel
theorem dX7_route_188 : decode cX7_route 188 = .ok (.goto (-111), 3) := by decide +kernel
theorem dX7_route_191 : decode cX7_route 191 = .ok (.iload_n 1, 1) := by decide +kernel
theorem dX7_route_192 : decode cX7_route 192 = .ok (.iconst 1, 1) := by decide +kernel
theorem dX7_route_193 : decode cX7_route 193 = .ok (.isub, 1) := by decide +kernel
theorem dX7_route_194 : decode cX7_route 194 = .ok (.istore 7, 2) := by decide +kernel
theorem dX7_route_196 : decode cX7_route 196 = .ok (.iload 7, 2) := by decide +kernel
theorem dX7_route_198 : decode cX7_route 198 = .ok (.iload_n 2, 1) := by decide +kernel
theorem dX7_route_199 : decode cX7_route 199 = .ok (.bipush 10, 2) := by decide +kernel
theorem dX7_route_201 : decode cX7_route 201 = .ok (.isub, 1) := by decide +kernel
theorem dX7_route_202 : decode cX7_route 202 = .ok (.if_icmp .le 19, 3) := by decide +kernel
theorem dX7_route_205 : decode cX7_route 205 = .ok (.iload_n 2, 1) := by decide +kernel
theorem dX7_route_206 : decode cX7_route 206 = .ok (.ifCond .le 15, 3) := by decide +kernel
theorem dX7_route_209 : decode cX7_route 209 = .ok (.iload 6, 2) := by decide +kernel
theorem dX7_route_211 : decode cX7_route 211 = .ok (.iload_n 3, 1) := by decide +kernel
theorem dX7_route_212 : decode cX7_route 212 = .ok (.idiv, 1) := by decide +kernel
theorem dX7_route_213 : decode cX7_route 213 = .ok (.istore 6, 2) := by decide +kernel
theorem dX7_route_215 : decode cX7_route 215 = .ok (.iinc 7 (-1), 3) := by decide +kernel
theorem dX7_route_218 : decode cX7_route 218 = .ok (.goto (-22), 3) := by decide +kernel
theorem dX7_route_221 : decode cX7_route 221 = .ok (.iload_n 2, 1) := by decide +kernel
theorem dX7_route_222 : decode cX7_route 222 = .ok (.ifCond .ne 8, 3) := by decide +kernel
theorem dX7_route_225 : decode cX7_route 225 = .ok (.iload 5, 2) := by decide +kernel
theorem dX7_route_227 : decode cX7_route 227 = .ok (.goto 11, 3) := by decide +kernel
theorem dX7_route_230 : decode cX7_route 230 = .ok (.aload_n 0, 1) := by decide +kernel
theorem dX7_route_231 : decode cX7_route 231 = .ok (.iload 6, 2) := by decide +kernel
theorem dX7_route_233 : decode cX7_route 233 = .ok (.iload_n 3, 1) := by decide +kernel
theorem dX7_route_234 : decode cX7_route 234 = .ok (.irem, 1) := by decide +kernel
theorem dX7_route_235 : decode cX7_route 235 = .ok (.invokevirtual 229, 3) := by decide +kernel
theorem dX7_route_238 : decode cX7_route 238 = .ok (.ireturn, 1) := by decide +kernel
theorem dX7_swap_0 : decode cX7_swap 0 = .ok (.iload_n 1, 1) := by decide +kernel
theorem dX7_swap_1 : decode cX7_swap 1 = .ok (.invokestatic 218, 3) := by decide +kernel
theorem dX7_swap_4 : decode cX7_swap 4 = .ok (.ifCond .eq 13, 3) := by decide +kernel
theorem dX7_swap_7 : decode cX7_swap 7 = .ok (.iload_n 2, 1) := by decide +kernel
theorem dX7_swap_8 : decode cX7_swap 8 = .ok (.i2l, 1) := by decide +kernel
theorem dX7_swap_9 : decode cX7_swap 9 = .ok (.lconst 0, 1) := by decide +kernel
theorem dX7_swap_10 : decode cX7_swap 10 = .ok (.lconst 1, 1) := by decide +kernel
theorem dX7_swap_11 : decode cX7_swap 11 = .ok (.invokestatic 55, 3) := by decide +kernel
theorem dX7_swap_14 : decode cX7_swap 14 = .ok (.ifCond .ne 5, 3) := by decide +kernel
theorem dX7_swap_17 : decode cX7_swap 17 = .ok (.iconst (-1), 1) := by decide +kernel
theorem dX7_swap_18 : decode cX7_swap 18 = .ok (.ireturn, 1) := by decide +kernel
theorem dX7_swap_19 : decode cX7_swap 19 = .ok (.aload_n 0, 1) := by decide +kernel
theorem dX7_swap_20 : decode cX7_swap 20 = .ok (.iconst 0, 1) := by decide +kernel
theorem dX7_swap_21 : decode cX7_swap 21 = .ok (.iload_n 1, 1) := by decide +kernel
theorem dX7_swap_22 : decode cX7_swap 22 = .ok (.invokevirtual 221, 3) := by decide +kernel
theorem dX7_swap_25 : decode cX7_swap 25 = .ok (.pop, 1) := by decide +kernel
theorem dX7_swap_26 : decode cX7_swap 26 = .ok (.aload_n 0, 1) := by decide +kernel
theorem dX7_swap_27 : decode cX7_swap 27 = .ok (.getfield 209, 3) := by decide +kernel
theorem dX7_swap_30 : decode cX7_swap 30 = .ok (.istore_n 3, 1) := by decide +kernel
theorem dX7_swap_31 : decode cX7_swap 31 = .ok (.bipush (-4), 2) := by decide +kernel
theorem dX7_swap_33 : decode cX7_swap 33 = .ok (.istore 4, 2) := by decide +kernel
theorem dX7_swap_35 : decode cX7_swap 35 = .ok (.iconst 0, 1) := by decide +kernel
theorem dX7_swap_36 : decode cX7_swap 36 = .ok (.istore 5, 2) := by decide +kernel
theorem dX7_swap_38 : decode cX7_swap 38 = .ok (.iload 5, 2) := by decide +kernel
theorem dX7_swap_40 : decode cX7_swap 40 = .ok (.aload_n 0, 1) := by decide +kernel
theorem dX7_swap_41 : decode cX7_swap 41 = .ok (.getfield 7, 3) := by decide +kernel
theorem dX7_swap_44 : decode cX7_swap 44 = .ok (.bipush 49, 2) := by decide +kernel
theorem dX7_swap_46 : decode cX7_swap 46 = .ok (.iaload, 1) := by decide +kernel
theorem dX7_swap_47 : decode cX7_swap 47 = .ok (.if_icmp .ge 174, 3) := by decide +kernel
theorem dX7_swap_50 : decode cX7_swap 50 = .ok (.iload 5, 2) := by decide +kernel
theorem dX7_swap_52 : decode cX7_swap 52 = .ok (.iconst 1, 1) := by decide +kernel
theorem dX7_swap_53 : decode cX7_swap 53 = .ok (.iadd, 1) := by decide +kernel
theorem dX7_swap_54 : decode cX7_swap 54 = .ok (.istore 6, 2) := by decide +kernel
theorem dX7_swap_56 : decode cX7_swap 56 = .ok (.iload 6, 2) := by decide +kernel
theorem dX7_swap_58 : decode cX7_swap 58 = .ok (.aload_n 0, 1) := by decide +kernel
theorem dX7_swap_59 : decode cX7_swap 59 = .ok (.getfield 7, 3) := by decide +kernel
theorem dX7_swap_62 : decode cX7_swap 62 = .ok (.bipush 49, 2) := by decide +kernel
theorem dX7_swap_64 : decode cX7_swap 64 = .ok (.iaload, 1) := by decide +kernel
theorem dX7_swap_65 : decode cX7_swap 65 = .ok (.if_icmp .ge 150, 3) := by decide +kernel
theorem dX7_swap_68 : decode cX7_swap 68 = .ok (.aload_n 0, 1) := by decide +kernel
theorem dX7_swap_69 : decode cX7_swap 69 = .ok (.iconst 0, 1) := by decide +kernel
theorem dX7_swap_70 : decode cX7_swap 70 = .ok (.sipush 265, 3) := by decide +kernel
theorem dX7_swap_73 : decode cX7_swap 73 = .ok (.invokevirtual 205, 3) := by decide +kernel
theorem dX7_swap_76 : decode cX7_swap 76 = .ok (.aload_n 0, 1) := by decide +kernel
theorem dX7_swap_77 : decode cX7_swap 77 = .ok (.getfield 7, 3) := by decide +kernel
theorem dX7_swap_80 : decode cX7_swap 80 = .ok (.sipush 290, 3) := by decide +kernel
theorem dX7_swap_83 : decode cX7_swap 83 = .ok (.iload 5, 2) := by decide +kernel
theorem dX7_swap_85 : decode cX7_swap 85 = .ok (.iadd, 1) := by decide +kernel
theorem dX7_swap_86 : decode cX7_swap 86 = .ok (.aload_n 0, 1) := by decide +kernel
theorem dX7_swap_87 : decode cX7_swap 87 = .ok (.getfield 7, 3) := by decide +kernel
theorem dX7_swap_90 : decode cX7_swap 90 = .ok (.bipush 25, 2) := by decide +kernel
theorem dX7_swap_92 : decode cX7_swap 92 = .ok (.iload 6, 2) := by decide +kernel
theorem dX7_swap_94 : decode cX7_swap 94 = .ok (.iadd, 1) := by decide +kernel
theorem dX7_swap_95 : decode cX7_swap 95 = .ok (.iaload, 1) := by decide +kernel
theorem dX7_swap_96 : decode cX7_swap 96 = .ok (.iastore, 1) := by decide +kernel
theorem dX7_swap_97 : decode cX7_swap 97 = .ok (.aload_n 0, 1) := by decide +kernel
theorem dX7_swap_98 : decode cX7_swap 98 = .ok (.getfield 7, 3) := by decide +kernel
theorem dX7_swap_101 : decode cX7_swap 101 = .ok (.sipush 290, 3) := by decide +kernel
theorem dX7_swap_104 : decode cX7_swap 104 = .ok (.iload 6, 2) := by decide +kernel
theorem dX7_swap_106 : decode cX7_swap 106 = .ok (.iadd, 1) := by decide +kernel
theorem dX7_swap_107 : decode cX7_swap 107 = .ok (.aload_n 0, 1) := by decide +kernel
theorem dX7_swap_108 : decode cX7_swap 108 = .ok (.getfield 7, 3) := by decide +kernel
theorem dX7_swap_111 : decode cX7_swap 111 = .ok (.bipush 25, 2) := by decide +kernel
theorem dX7_swap_113 : decode cX7_swap 113 = .ok (.iload 5, 2) := by decide +kernel
theorem dX7_swap_115 : decode cX7_swap 115 = .ok (.iadd, 1) := by decide +kernel
theorem dX7_swap_116 : decode cX7_swap 116 = .ok (.iaload, 1) := by decide +kernel
theorem dX7_swap_117 : decode cX7_swap 117 = .ok (.iastore, 1) := by decide +kernel
theorem dX7_swap_118 : decode cX7_swap 118 = .ok (.aload_n 0, 1) := by decide +kernel
theorem dX7_swap_119 : decode cX7_swap 119 = .ok (.getfield 7, 3) := by decide +kernel
theorem dX7_swap_122 : decode cX7_swap 122 = .ok (.sipush 302, 3) := by decide +kernel
theorem dX7_swap_125 : decode cX7_swap 125 = .ok (.iload 5, 2) := by decide +kernel
theorem dX7_swap_127 : decode cX7_swap 127 = .ok (.iadd, 1) := by decide +kernel
theorem dX7_swap_128 : decode cX7_swap 128 = .ok (.aload_n 0, 1) := by decide +kernel
theorem dX7_swap_129 : decode cX7_swap 129 = .ok (.getfield 7, 3) := by decide +kernel
theorem dX7_swap_132 : decode cX7_swap 132 = .ok (.bipush 37, 2) := by decide +kernel
theorem dX7_swap_134 : decode cX7_swap 134 = .ok (.iload 6, 2) := by decide +kernel
theorem dX7_swap_136 : decode cX7_swap 136 = .ok (.iadd, 1) := by decide +kernel
theorem dX7_swap_137 : decode cX7_swap 137 = .ok (.iaload, 1) := by decide +kernel
theorem dX7_swap_138 : decode cX7_swap 138 = .ok (.iastore, 1) := by decide +kernel
theorem dX7_swap_139 : decode cX7_swap 139 = .ok (.aload_n 0, 1) := by decide +kernel
theorem dX7_swap_140 : decode cX7_swap 140 = .ok (.getfield 7, 3) := by decide +kernel
theorem dX7_swap_143 : decode cX7_swap 143 = .ok (.sipush 302, 3) := by decide +kernel
theorem dX7_swap_146 : decode cX7_swap 146 = .ok (.iload 6, 2) := by decide +kernel
theorem dX7_swap_148 : decode cX7_swap 148 = .ok (.iadd, 1) := by decide +kernel
theorem dX7_swap_149 : decode cX7_swap 149 = .ok (.aload_n 0, 1) := by decide +kernel
theorem dX7_swap_150 : decode cX7_swap 150 = .ok (.getfield 7, 3) := by decide +kernel
theorem dX7_swap_153 : decode cX7_swap 153 = .ok (.bipush 37, 2) := by decide +kernel
theorem dX7_swap_155 : decode cX7_swap 155 = .ok (.iload 5, 2) := by decide +kernel
theorem dX7_swap_157 : decode cX7_swap 157 = .ok (.iadd, 1) := by decide +kernel
theorem dX7_swap_158 : decode cX7_swap 158 = .ok (.iaload, 1) := by decide +kernel
theorem dX7_swap_159 : decode cX7_swap 159 = .ok (.iastore, 1) := by decide +kernel
theorem dX7_swap_160 : decode cX7_swap 160 = .ok (.aload_n 0, 1) := by decide +kernel
theorem dX7_swap_161 : decode cX7_swap 161 = .ok (.sipush 265, 3) := by decide +kernel
theorem dX7_swap_164 : decode cX7_swap 164 = .ok (.iload_n 1, 1) := by decide +kernel
theorem dX7_swap_165 : decode cX7_swap 165 = .ok (.invokevirtual 221, 3) := by decide +kernel
theorem dX7_swap_168 : decode cX7_swap 168 = .ok (.pop, 1) := by decide +kernel
theorem dX7_swap_169 : decode cX7_swap 169 = .ok (.aload_n 0, 1) := by decide +kernel
theorem dX7_swap_170 : decode cX7_swap 170 = .ok (.getfield 209, 3) := by decide +kernel
theorem dX7_swap_173 : decode cX7_swap 173 = .ok (.iload_n 3, 1) := by decide +kernel
theorem dX7_swap_174 : decode cX7_swap 174 = .ok (.if_icmp .le 14, 3) := by decide +kernel
theorem dX7_swap_177 : decode cX7_swap 177 = .ok (.bipush 100, 2) := by decide +kernel
theorem dX7_swap_179 : decode cX7_swap 179 = .ok (.iload 5, 2) := by decide +kernel
theorem dX7_swap_181 : decode cX7_swap 181 = .ok (.imul, 1) := by decide +kernel
theorem dX7_swap_182 : decode cX7_swap 182 = .ok (.iload 6, 2) := by decide +kernel
theorem dX7_swap_184 : decode cX7_swap 184 = .ok (.iadd, 1) := by decide +kernel
theorem dX7_swap_185 : decode cX7_swap 185 = .ok (.goto 5, 3) := by decide +kernel
theorem dX7_swap_188 : decode cX7_swap 188 = .ok (.iload 4, 2) := by decide +kernel
theorem dX7_swap_190 : decode cX7_swap 190 = .ok (.istore 4, 2) := by decide +kernel
theorem dX7_swap_192 : decode cX7_swap 192 = .ok (.aload_n 0, 1) := by decide +kernel
theorem dX7_swap_193 : decode cX7_swap 193 = .ok (.getfield 209, 3) := by decide +kernel
theorem dX7_swap_196 : decode cX7_swap 196 = .ok (.iload_n 3, 1) := by decide +kernel
theorem dX7_swap_197 : decode cX7_swap 197 = .ok (.if_icmp .le 10, 3) := by decide +kernel
theorem dX7_swap_200 : decode cX7_swap 200 = .ok (.aload_n 0, 1) := by decide +kernel
theorem dX7_swap_201 : decode cX7_swap 201 = .ok (.getfield 209, 3) := by decide +kernel
theorem dX7_swap_204 : decode cX7_swap 204 = .ok (.goto 4, 3) := by decide +kernel
theorem dX7_swap_207 : decode cX7_swap 207 = .ok (.iload_n 3, 1) := by decide +kernel
theorem dX7_swap_208 : decode cX7_swap 208 = .ok (.istore_n 3, 1) := by decide +kernel
theorem dX7_swap_209 : decode cX7_swap 209 = .ok (.iinc 6 1, 3) := by decide +kernel
theorem dX7_swap_212 : decode cX7_swap 212 = .ok (.goto (-156), 3) := by decide +kernel
theorem dX7_swap_215 : decode cX7_swap 215 = .ok (.iinc 5 1, 3) := by decide +kernel
theorem dX7_swap_218 : decode cX7_swap 218 = .ok (.goto (-180), 3) := by decide +kernel
theorem dX7_swap_221 : decode cX7_swap 221 = .ok (.iload 4, 2) := by decide +kernel
theorem dX7_swap_223 : decode cX7_swap 223 = .ok (.bipush (-4), 2) := by decide +kernel
theorem dX7_swap_225 : decode cX7_swap 225 = .ok (.if_icmp .eq 7, 3) := by decide +kernel
theorem dX7_swap_228 : decode cX7_swap 228 = .ok (.iload_n 2, 1) := by decide +kernel
theorem dX7_swap_229 : decode cX7_swap 229 = .ok (.ifCond .ne 8, 3) := by decide +kernel
theorem dX7_swap_232 : decode cX7_swap 232 = .ok (.iload 4, 2) := by decide +kernel
theorem dX7_swap_234 : decode cX7_swap 234 = .ok (.goto 4, 3) := by decide +kernel
theorem dX7_swap_237 : decode cX7_swap 237 = .ok (.iload_n 3, 1) := by decide +kernel
theorem dX7_swap_238 : decode cX7_swap 238 = .ok (.ireturn, 1) := by decide +kernel
theorem dX7_bears_0 : decode cX7_bears 0 = .ok (.aload_n 0, 1) := by decide +kernel
theorem dX7_bears_1 : decode cX7_bears 1 = .ok (.iload_n 1, 1) := by decide +kernel
theorem dX7_bears_2 : decode cX7_bears 2 = .ok (.invokevirtual 166, 3) := by decide +kernel
theorem dX7_bears_5 : decode cX7_bears 5 = .ok (.ifCond .eq 10, 3) := by decide +kernel
theorem dX7_bears_8 : decode cX7_bears 8 = .ok (.iload_n 2, 1) := by decide +kernel
theorem dX7_bears_9 : decode cX7_bears 9 = .ok (.invokestatic 218, 3) := by decide +kernel
theorem dX7_bears_12 : decode cX7_bears 12 = .ok (.ifCond .ne 5, 3) := by decide +kernel
theorem dX7_bears_15 : decode cX7_bears 15 = .ok (.iconst (-1), 1) := by decide +kernel
theorem dX7_bears_16 : decode cX7_bears 16 = .ok (.ireturn, 1) := by decide +kernel
theorem dX7_bears_17 : decode cX7_bears 17 = .ok (.aload_n 0, 1) := by decide +kernel
theorem dX7_bears_18 : decode cX7_bears 18 = .ok (.iconst 0, 1) := by decide +kernel
theorem dX7_bears_19 : decode cX7_bears 19 = .ok (.sipush 265, 3) := by decide +kernel
theorem dX7_bears_22 : decode cX7_bears 22 = .ok (.invokevirtual 205, 3) := by decide +kernel
theorem dX7_bears_25 : decode cX7_bears 25 = .ok (.aload_n 0, 1) := by decide +kernel
theorem dX7_bears_26 : decode cX7_bears 26 = .ok (.getfield 7, 3) := by decide +kernel
theorem dX7_bears_29 : decode cX7_bears 29 = .ok (.sipush 290, 3) := by decide +kernel
theorem dX7_bears_32 : decode cX7_bears 32 = .ok (.iload_n 1, 1) := by decide +kernel
theorem dX7_bears_33 : decode cX7_bears 33 = .ok (.iadd, 1) := by decide +kernel
theorem dX7_bears_34 : decode cX7_bears 34 = .ok (.iconst 0, 1) := by decide +kernel
theorem dX7_bears_35 : decode cX7_bears 35 = .ok (.iastore, 1) := by decide +kernel
theorem dX7_bears_36 : decode cX7_bears 36 = .ok (.aload_n 0, 1) := by decide +kernel
theorem dX7_bears_37 : decode cX7_bears 37 = .ok (.sipush 265, 3) := by decide +kernel
theorem dX7_bears_40 : decode cX7_bears 40 = .ok (.iload_n 2, 1) := by decide +kernel
theorem dX7_bears_41 : decode cX7_bears 41 = .ok (.invokevirtual 221, 3) := by decide +kernel
theorem dX7_bears_44 : decode cX7_bears 44 = .ok (.istore_n 3, 1) := by decide +kernel
theorem dX7_bears_45 : decode cX7_bears 45 = .ok (.iconst 0, 1) := by decide +kernel
theorem dX7_bears_46 : decode cX7_bears 46 = .ok (.istore 4, 2) := by decide +kernel
theorem dX7_bears_48 : decode cX7_bears 48 = .ok (.iconst 1, 1) := by decide +kernel
theorem dX7_bears_49 : decode cX7_bears 49 = .ok (.istore 5, 2) := by decide +kernel
theorem dX7_bears_51 : decode cX7_bears 51 = .ok (.iload 5, 2) := by decide +kernel
theorem dX7_bears_53 : decode cX7_bears 53 = .ok (.bipush 9, 2) := by decide +kernel
theorem dX7_bears_55 : decode cX7_bears 55 = .ok (.if_icmp .gt 42, 3) := by decide +kernel
theorem dX7_bears_58 : decode cX7_bears 58 = .ok (.aload_n 0, 1) := by decide +kernel
theorem dX7_bears_59 : decode cX7_bears 59 = .ok (.getfield 7, 3) := by decide +kernel
theorem dX7_bears_62 : decode cX7_bears 62 = .ok (.sipush 290, 3) := by decide +kernel
theorem dX7_bears_65 : decode cX7_bears 65 = .ok (.iload_n 1, 1) := by decide +kernel
theorem dX7_bears_66 : decode cX7_bears 66 = .ok (.iadd, 1) := by decide +kernel
theorem dX7_bears_67 : decode cX7_bears 67 = .ok (.iload 5, 2) := by decide +kernel
theorem dX7_bears_69 : decode cX7_bears 69 = .ok (.iastore, 1) := by decide +kernel
theorem dX7_bears_70 : decode cX7_bears 70 = .ok (.aload_n 0, 1) := by decide +kernel
theorem dX7_bears_71 : decode cX7_bears 71 = .ok (.sipush 265, 3) := by decide +kernel
theorem dX7_bears_74 : decode cX7_bears 74 = .ok (.iload_n 2, 1) := by decide +kernel
theorem dX7_bears_75 : decode cX7_bears 75 = .ok (.invokevirtual 221, 3) := by decide +kernel
theorem dX7_bears_78 : decode cX7_bears 78 = .ok (.iload_n 3, 1) := by decide +kernel
theorem dX7_bears_79 : decode cX7_bears 79 = .ok (.if_icmp .lt 8, 3) := by decide +kernel
theorem dX7_bears_82 : decode cX7_bears 82 = .ok (.iload 5, 2) := by decide +kernel
theorem dX7_bears_84 : decode cX7_bears 84 = .ok (.goto 5, 3) := by decide +kernel
theorem dX7_bears_87 : decode cX7_bears 87 = .ok (.iload 4, 2) := by decide +kernel
theorem dX7_bears_89 : decode cX7_bears 89 = .ok (.istore 4, 2) := by decide +kernel
theorem dX7_bears_91 : decode cX7_bears 91 = .ok (.iinc 5 1, 3) := by decide +kernel
theorem dX7_bears_94 : decode cX7_bears 94 = .ok (.goto (-43), 3) := by decide +kernel
theorem dX7_bears_97 : decode cX7_bears 97 = .ok (.iload 4, 2) := by decide +kernel
theorem dX7_bears_99 : decode cX7_bears 99 = .ok (.ireturn, 1) := by decide +kernel
theorem dX7_flow_0 : decode cX7_flow 0 = .ok (.aload_n 0, 1) := by decide +kernel
theorem dX7_flow_1 : decode cX7_flow 1 = .ok (.iload_n 1, 1) := by decide +kernel
theorem dX7_flow_2 : decode cX7_flow 2 = .ok (.invokevirtual 160, 3) := by decide +kernel
theorem dX7_flow_5 : decode cX7_flow 5 = .ok (.ifCond .eq 22, 3) := by decide +kernel
theorem dX7_flow_8 : decode cX7_flow 8 = .ok (.iload_n 2, 1) := by decide +kernel
theorem dX7_flow_9 : decode cX7_flow 9 = .ok (.invokestatic 218, 3) := by decide +kernel
theorem dX7_flow_12 : decode cX7_flow 12 = .ok (.ifCond .eq 15, 3) := by decide +kernel
theorem dX7_flow_15 : decode cX7_flow 15 = .ok (.iload_n 3, 1) := by decide +kernel
theorem dX7_flow_16 : decode cX7_flow 16 = .ok (.i2l, 1) := by decide +kernel
theorem dX7_flow_17 : decode cX7_flow 17 = .ok (.lconst 0, 1) := by decide +kernel
theorem dX7_flow_18 : decode cX7_flow 18 = .ok (.ldc2_w 177, 3) := by decide +kernel
theorem dX7_flow_21 : decode cX7_flow 21 = .ok (.invokestatic 55, 3) := by decide +kernel
theorem dX7_flow_24 : decode cX7_flow 24 = .ok (.ifCond .ne 5, 3) := by decide +kernel
theorem dX7_flow_27 : decode cX7_flow 27 = .ok (.iconst (-1), 1) := by decide +kernel
theorem dX7_flow_28 : decode cX7_flow 28 = .ok (.ireturn, 1) := by decide +kernel
theorem dX7_flow_29 : decode cX7_flow 29 = .ok (.aload_n 0, 1) := by decide +kernel
theorem dX7_flow_30 : decode cX7_flow 30 = .ok (.iconst 0, 1) := by decide +kernel
theorem dX7_flow_31 : decode cX7_flow 31 = .ok (.sipush 265, 3) := by decide +kernel
theorem dX7_flow_34 : decode cX7_flow 34 = .ok (.invokevirtual 205, 3) := by decide +kernel
theorem dX7_flow_37 : decode cX7_flow 37 = .ok (.iconst 0, 1) := by decide +kernel
theorem dX7_flow_38 : decode cX7_flow 38 = .ok (.istore 4, 2) := by decide +kernel
theorem dX7_flow_40 : decode cX7_flow 40 = .ok (.iload 4, 2) := by decide +kernel
theorem dX7_flow_42 : decode cX7_flow 42 = .ok (.bipush 40, 2) := by decide +kernel
theorem dX7_flow_44 : decode cX7_flow 44 = .ok (.if_icmp .gt 43, 3) := by decide +kernel
theorem dX7_flow_47 : decode cX7_flow 47 = .ok (.aload_n 0, 1) := by decide +kernel
theorem dX7_flow_48 : decode cX7_flow 48 = .ok (.getfield 7, 3) := by decide +kernel
theorem dX7_flow_51 : decode cX7_flow 51 = .ok (.sipush 315, 3) := by decide +kernel
theorem dX7_flow_54 : decode cX7_flow 54 = .ok (.iload 4, 2) := by decide +kernel
theorem dX7_flow_56 : decode cX7_flow 56 = .ok (.bipush 8, 2) := by decide +kernel
theorem dX7_flow_58 : decode cX7_flow 58 = .ok (.isub, 1) := by decide +kernel
theorem dX7_flow_59 : decode cX7_flow 59 = .ok (.iastore, 1) := by decide +kernel
theorem dX7_flow_60 : decode cX7_flow 60 = .ok (.aload_n 0, 1) := by decide +kernel
theorem dX7_flow_61 : decode cX7_flow 61 = .ok (.sipush 265, 3) := by decide +kernel
theorem dX7_flow_64 : decode cX7_flow 64 = .ok (.iload_n 2, 1) := by decide +kernel
theorem dX7_flow_65 : decode cX7_flow 65 = .ok (.invokevirtual 221, 3) := by decide +kernel
theorem dX7_flow_68 : decode cX7_flow 68 = .ok (.pop, 1) := by decide +kernel
theorem dX7_flow_69 : decode cX7_flow 69 = .ok (.aload_n 0, 1) := by decide +kernel
theorem dX7_flow_70 : decode cX7_flow 70 = .ok (.iload_n 1, 1) := by decide +kernel
theorem dX7_flow_71 : decode cX7_flow 71 = .ok (.invokevirtual 226, 3) := by decide +kernel
theorem dX7_flow_74 : decode cX7_flow 74 = .ok (.iload_n 3, 1) := by decide +kernel
theorem dX7_flow_75 : decode cX7_flow 75 = .ok (.if_icmp .lt 6, 3) := by decide +kernel
theorem dX7_flow_78 : decode cX7_flow 78 = .ok (.iload 4, 2) := by decide +kernel
theorem dX7_flow_80 : decode cX7_flow 80 = .ok (.ireturn, 1) := by decide +kernel
theorem dX7_flow_81 : decode cX7_flow 81 = .ok (.iinc 4 1, 3) := by decide +kernel
theorem dX7_flow_84 : decode cX7_flow 84 = .ok (.goto (-44), 3) := by decide +kernel
theorem dX7_flow_87 : decode cX7_flow 87 = .ok (.bipush (-4), 2) := by decide +kernel
theorem dX7_flow_89 : decode cX7_flow 89 = .ok (.ireturn, 1) := by decide +kernel
theorem dX7_kind_0 : decode cX7_kind 0 = .ok (.aload_n 0, 1) := by decide +kernel
theorem dX7_kind_1 : decode cX7_kind 1 = .ok (.iload_n 1, 1) := by decide +kernel
theorem dX7_kind_2 : decode cX7_kind 2 = .ok (.invokevirtual 160, 3) := by decide +kernel
theorem dX7_kind_5 : decode cX7_kind 5 = .ok (.ifCond .eq 20, 3) := by decide +kernel
theorem dX7_kind_8 : decode cX7_kind 8 = .ok (.iload_n 2, 1) := by decide +kernel
theorem dX7_kind_9 : decode cX7_kind 9 = .ok (.invokestatic 218, 3) := by decide +kernel
theorem dX7_kind_12 : decode cX7_kind 12 = .ok (.ifCond .eq 13, 3) := by decide +kernel
theorem dX7_kind_15 : decode cX7_kind 15 = .ok (.iload_n 3, 1) := by decide +kernel
theorem dX7_kind_16 : decode cX7_kind 16 = .ok (.i2l, 1) := by decide +kernel
theorem dX7_kind_17 : decode cX7_kind 17 = .ok (.lconst 0, 1) := by decide +kernel
theorem dX7_kind_18 : decode cX7_kind 18 = .ok (.lconst 1, 1) := by decide +kernel
theorem dX7_kind_19 : decode cX7_kind 19 = .ok (.invokestatic 55, 3) := by decide +kernel
theorem dX7_kind_22 : decode cX7_kind 22 = .ok (.ifCond .ne 5, 3) := by decide +kernel
theorem dX7_kind_25 : decode cX7_kind 25 = .ok (.iconst (-1), 1) := by decide +kernel
theorem dX7_kind_26 : decode cX7_kind 26 = .ok (.ireturn, 1) := by decide +kernel
theorem dX7_kind_27 : decode cX7_kind 27 = .ok (.iconst (-1), 1) := by decide +kernel
theorem dX7_kind_28 : decode cX7_kind 28 = .ok (.istore 4, 2) := by decide +kernel
theorem dX7_kind_30 : decode cX7_kind 30 = .ok (.iconst 0, 1) := by decide +kernel
theorem dX7_kind_31 : decode cX7_kind 31 = .ok (.istore 5, 2) := by decide +kernel
theorem dX7_kind_33 : decode cX7_kind 33 = .ok (.aload_n 0, 1) := by decide +kernel
theorem dX7_kind_34 : decode cX7_kind 34 = .ok (.iconst 0, 1) := by decide +kernel
theorem dX7_kind_35 : decode cX7_kind 35 = .ok (.sipush 265, 3) := by decide +kernel
theorem dX7_kind_38 : decode cX7_kind 38 = .ok (.invokevirtual 205, 3) := by decide +kernel
theorem dX7_kind_41 : decode cX7_kind 41 = .ok (.iconst 0, 1) := by decide +kernel
theorem dX7_kind_42 : decode cX7_kind 42 = .ok (.istore 6, 2) := by decide +kernel
theorem dX7_kind_44 : decode cX7_kind 44 = .ok (.iload 6, 2) := by decide +kernel
theorem dX7_kind_46 : decode cX7_kind 46 = .ok (.iconst 4, 1) := by decide +kernel
theorem dX7_kind_47 : decode cX7_kind 47 = .ok (.if_icmp .ge 71, 3) := by decide +kernel
theorem dX7_kind_50 : decode cX7_kind 50 = .ok (.aload_n 0, 1) := by decide +kernel
theorem dX7_kind_51 : decode cX7_kind 51 = .ok (.getfield 7, 3) := by decide +kernel
theorem dX7_kind_54 : decode cX7_kind 54 = .ok (.sipush 265, 3) := by decide +kernel
theorem dX7_kind_57 : decode cX7_kind 57 = .ok (.iload_n 1, 1) := by decide +kernel
theorem dX7_kind_58 : decode cX7_kind 58 = .ok (.iadd, 1) := by decide +kernel
theorem dX7_kind_59 : decode cX7_kind 59 = .ok (.iload 6, 2) := by decide +kernel
theorem dX7_kind_61 : decode cX7_kind 61 = .ok (.iastore, 1) := by decide +kernel
theorem dX7_kind_62 : decode cX7_kind 62 = .ok (.aload_n 0, 1) := by decide +kernel
theorem dX7_kind_63 : decode cX7_kind 63 = .ok (.sipush 265, 3) := by decide +kernel
theorem dX7_kind_66 : decode cX7_kind 66 = .ok (.iload_n 2, 1) := by decide +kernel
theorem dX7_kind_67 : decode cX7_kind 67 = .ok (.invokevirtual 221, 3) := by decide +kernel
theorem dX7_kind_70 : decode cX7_kind 70 = .ok (.pop, 1) := by decide +kernel
theorem dX7_kind_71 : decode cX7_kind 71 = .ok (.aload_n 0, 1) := by decide +kernel
theorem dX7_kind_72 : decode cX7_kind 72 = .ok (.iload_n 1, 1) := by decide +kernel
theorem dX7_kind_73 : decode cX7_kind 73 = .ok (.invokevirtual 226, 3) := by decide +kernel
theorem dX7_kind_76 : decode cX7_kind 76 = .ok (.iload 4, 2) := by decide +kernel
theorem dX7_kind_78 : decode cX7_kind 78 = .ok (.if_icmp .le 8, 3) := by decide +kernel
theorem dX7_kind_81 : decode cX7_kind 81 = .ok (.iload 6, 2) := by decide +kernel
theorem dX7_kind_83 : decode cX7_kind 83 = .ok (.goto 5, 3) := by decide +kernel
theorem dX7_kind_86 : decode cX7_kind 86 = .ok (.iload 5, 2) := by decide +kernel
theorem dX7_kind_88 : decode cX7_kind 88 = .ok (.istore 5, 2) := by decide +kernel
theorem dX7_kind_90 : decode cX7_kind 90 = .ok (.aload_n 0, 1) := by decide +kernel
theorem dX7_kind_91 : decode cX7_kind 91 = .ok (.iload_n 1, 1) := by decide +kernel
theorem dX7_kind_92 : decode cX7_kind 92 = .ok (.invokevirtual 226, 3) := by decide +kernel
theorem dX7_kind_95 : decode cX7_kind 95 = .ok (.iload 4, 2) := by decide +kernel
theorem dX7_kind_97 : decode cX7_kind 97 = .ok (.if_icmp .le 11, 3) := by decide +kernel
theorem dX7_kind_100 : decode cX7_kind 100 = .ok (.aload_n 0, 1) := by decide +kernel
theorem dX7_kind_101 : decode cX7_kind 101 = .ok (.iload_n 1, 1) := by decide +kernel
theorem dX7_kind_102 : decode cX7_kind 102 = .ok (.invokevirtual 226, 3) := by decide +kernel
theorem dX7_kind_105 : decode cX7_kind 105 = .ok (.goto 5, 3) := by decide +kernel
theorem dX7_kind_108 : decode cX7_kind 108 = .ok (.iload 4, 2) := by decide +kernel
theorem dX7_kind_110 : decode cX7_kind 110 = .ok (.istore 4, 2) := by decide +kernel
theorem dX7_kind_112 : decode cX7_kind 112 = .ok (.iinc 6 1, 3) := by decide +kernel
theorem dX7_kind_115 : decode cX7_kind 115 = .ok (.goto (-71), 3) := by decide +kernel
theorem dX7_kind_118 : decode cX7_kind 118 = .ok (.iload_n 3, 1) := by decide +kernel
theorem dX7_kind_119 : decode cX7_kind 119 = .ok (.ifCond .ne 8, 3) := by decide +kernel
theorem dX7_kind_122 : decode cX7_kind 122 = .ok (.iload 5, 2) := by decide +kernel
theorem dX7_kind_124 : decode cX7_kind 124 = .ok (.goto 5, 3) := by decide +kernel
theorem dX7_kind_127 : decode cX7_kind 127 = .ok (.iload 4, 2) := by decide +kernel
theorem dX7_kind_129 : decode cX7_kind 129 = .ok (.ireturn, 1) := by decide +kernel
theorem dX7_figuresOf_0 : decode cX7_figuresOf 0 = .ok (.iload_n 1, 1) := by decide +kernel
theorem dX7_figuresOf_1 : decode cX7_figuresOf 1 = .ok (.istore 4, 2) := by decide +kernel
theorem dX7_figuresOf_3 : decode cX7_figuresOf 3 = .ok (.iload_n 3, 1) := by decide +kernel
theorem dX7_figuresOf_4 : decode cX7_figuresOf 4 = .ok (.iconst 1, 1) := by decide +kernel
theorem dX7_figuresOf_5 : decode cX7_figuresOf 5 = .ok (.isub, 1) := by decide +kernel
theorem dX7_figuresOf_6 : decode cX7_figuresOf 6 = .ok (.istore 5, 2) := by decide +kernel
theorem dX7_figuresOf_8 : decode cX7_figuresOf 8 = .ok (.iload 5, 2) := by decide +kernel
theorem dX7_figuresOf_10 : decode cX7_figuresOf 10 = .ok (.ifCond .lt 26, 3) := by decide +kernel
theorem dX7_figuresOf_13 : decode cX7_figuresOf 13 = .ok (.aload_n 0, 1) := by decide +kernel
theorem dX7_figuresOf_14 : decode cX7_figuresOf 14 = .ok (.getfield 31, 3) := by decide +kernel
theorem dX7_figuresOf_17 : decode cX7_figuresOf 17 = .ok (.iload 5, 2) := by decide +kernel
theorem dX7_figuresOf_19 : decode cX7_figuresOf 19 = .ok (.iload 4, 2) := by decide +kernel
theorem dX7_figuresOf_21 : decode cX7_figuresOf 21 = .ok (.iload_n 2, 1) := by decide +kernel
theorem dX7_figuresOf_22 : decode cX7_figuresOf 22 = .ok (.irem, 1) := by decide +kernel
theorem dX7_figuresOf_23 : decode cX7_figuresOf 23 = .ok (.iastore, 1) := by decide +kernel
theorem dX7_figuresOf_24 : decode cX7_figuresOf 24 = .ok (.iload 4, 2) := by decide +kernel
theorem dX7_figuresOf_26 : decode cX7_figuresOf 26 = .ok (.iload_n 2, 1) := by decide +kernel
theorem dX7_figuresOf_27 : decode cX7_figuresOf 27 = .ok (.idiv, 1) := by decide +kernel
theorem dX7_figuresOf_28 : decode cX7_figuresOf 28 = .ok (.istore 4, 2) := by decide +kernel
theorem dX7_figuresOf_30 : decode cX7_figuresOf 30 = .ok (.iinc 5 (-1), 3) := by decide +kernel
theorem dX7_figuresOf_33 : decode cX7_figuresOf 33 = .ok (.goto (-25), 3) := by decide +kernel
theorem dX7_figuresOf_36 : decode cX7_figuresOf 36 = .ok (.return_, 1) := by decide +kernel
theorem dX7_goesBack_0 : decode cX7_goesBack 0 = .ok (.iload_n 1, 1) := by decide +kernel
theorem dX7_goesBack_1 : decode cX7_goesBack 1 = .ok (.istore 4, 2) := by decide +kernel
theorem dX7_goesBack_3 : decode cX7_goesBack 3 = .ok (.iload_n 3, 1) := by decide +kernel
theorem dX7_goesBack_4 : decode cX7_goesBack 4 = .ok (.iconst 1, 1) := by decide +kernel
theorem dX7_goesBack_5 : decode cX7_goesBack 5 = .ok (.isub, 1) := by decide +kernel
theorem dX7_goesBack_6 : decode cX7_goesBack 6 = .ok (.istore 5, 2) := by decide +kernel
theorem dX7_goesBack_8 : decode cX7_goesBack 8 = .ok (.iload 5, 2) := by decide +kernel
theorem dX7_goesBack_10 : decode cX7_goesBack 10 = .ok (.ifCond .lt 156, 3) := by decide +kernel
theorem dX7_goesBack_13 : decode cX7_goesBack 13 = .ok (.aload_n 0, 1) := by decide +kernel
theorem dX7_goesBack_14 : decode cX7_goesBack 14 = .ok (.getfield 25, 3) := by decide +kernel
theorem dX7_goesBack_17 : decode cX7_goesBack 17 = .ok (.iload 5, 2) := by decide +kernel
theorem dX7_goesBack_19 : decode cX7_goesBack 19 = .ok (.iload 4, 2) := by decide +kernel
theorem dX7_goesBack_21 : decode cX7_goesBack 21 = .ok (.aload_n 0, 1) := by decide +kernel
theorem dX7_goesBack_22 : decode cX7_goesBack 22 = .ok (.getfield 25, 3) := by decide +kernel
theorem dX7_goesBack_25 : decode cX7_goesBack 25 = .ok (.iload 5, 2) := by decide +kernel
theorem dX7_goesBack_27 : decode cX7_goesBack 27 = .ok (.iaload, 1) := by decide +kernel
theorem dX7_goesBack_28 : decode cX7_goesBack 28 = .ok (.if_icmp .ge 8, 3) := by decide +kernel
theorem dX7_goesBack_31 : decode cX7_goesBack 31 = .ok (.iload 4, 2) := by decide +kernel
theorem dX7_goesBack_33 : decode cX7_goesBack 33 = .ok (.goto 10, 3) := by decide +kernel
theorem dX7_goesBack_36 : decode cX7_goesBack 36 = .ok (.aload_n 0, 1) := by decide +kernel
theorem dX7_goesBack_37 : decode cX7_goesBack 37 = .ok (.getfield 25, 3) := by decide +kernel
theorem dX7_goesBack_40 : decode cX7_goesBack 40 = .ok (.iload 5, 2) := by decide +kernel
theorem dX7_goesBack_42 : decode cX7_goesBack 42 = .ok (.iaload, 1) := by decide +kernel
theorem dX7_goesBack_43 : decode cX7_goesBack 43 = .ok (.iastore, 1) := by decide +kernel
theorem dX7_goesBack_44 : decode cX7_goesBack 44 = .ok (.aload_n 0, 1) := by decide +kernel
theorem dX7_goesBack_45 : decode cX7_goesBack 45 = .ok (.getfield 31, 3) := by decide +kernel
theorem dX7_goesBack_48 : decode cX7_goesBack 48 = .ok (.iload 5, 2) := by decide +kernel
theorem dX7_goesBack_50 : decode cX7_goesBack 50 = .ok (.iaload, 1) := by decide +kernel
theorem dX7_goesBack_51 : decode cX7_goesBack 51 = .ok (.iconst 2, 1) := by decide +kernel
theorem dX7_goesBack_52 : decode cX7_goesBack 52 = .ok (.irem, 1) := by decide +kernel
theorem dX7_goesBack_53 : decode cX7_goesBack 53 = .ok (.ifCond .ne 4, 3) := by decide +kernel
theorem dX7_goesBack_56 : decode cX7_goesBack 56 = .ok (.return_, 1) := by decide +kernel
theorem dX7_goesBack_57 : decode cX7_goesBack 57 = .ok (.aload_n 0, 1) := by decide +kernel
theorem dX7_goesBack_58 : decode cX7_goesBack 58 = .ok (.getfield 25, 3) := by decide +kernel
theorem dX7_goesBack_61 : decode cX7_goesBack 61 = .ok (.iload 5, 2) := by decide +kernel
theorem dX7_goesBack_63 : decode cX7_goesBack 63 = .ok (.iaload, 1) := by decide +kernel
theorem dX7_goesBack_64 : decode cX7_goesBack 64 = .ok (.istore 4, 2) := by decide +kernel
theorem dX7_goesBack_66 : decode cX7_goesBack 66 = .ok (.aload_n 0, 1) := by decide +kernel
theorem dX7_goesBack_67 : decode cX7_goesBack 67 = .ok (.getfield 25, 3) := by decide +kernel
theorem dX7_goesBack_70 : decode cX7_goesBack 70 = .ok (.iload 5, 2) := by decide +kernel
theorem dX7_goesBack_72 : decode cX7_goesBack 72 = .ok (.ldc 232, 2) := by decide +kernel
theorem dX7_goesBack_74 : decode cX7_goesBack 74 = .ok (.iastore, 1) := by decide +kernel
theorem dX7_goesBack_75 : decode cX7_goesBack 75 = .ok (.iload 4, 2) := by decide +kernel
theorem dX7_goesBack_77 : decode cX7_goesBack 77 = .ok (.aload_n 0, 1) := by decide +kernel
theorem dX7_goesBack_78 : decode cX7_goesBack 78 = .ok (.getfield 28, 3) := by decide +kernel
theorem dX7_goesBack_81 : decode cX7_goesBack 81 = .ok (.iload 5, 2) := by decide +kernel
theorem dX7_goesBack_83 : decode cX7_goesBack 83 = .ok (.iaload, 1) := by decide +kernel
theorem dX7_goesBack_84 : decode cX7_goesBack 84 = .ok (.if_icmp .le 40, 3) := by decide +kernel
theorem dX7_goesBack_87 : decode cX7_goesBack 87 = .ok (.aload_n 0, 1) := by decide +kernel
theorem dX7_goesBack_88 : decode cX7_goesBack 88 = .ok (.getfield 28, 3) := by decide +kernel
theorem dX7_goesBack_91 : decode cX7_goesBack 91 = .ok (.iload 5, 2) := by decide +kernel
theorem dX7_goesBack_93 : decode cX7_goesBack 93 = .ok (.iload 4, 2) := by decide +kernel
theorem dX7_goesBack_95 : decode cX7_goesBack 95 = .ok (.iastore, 1) := by decide +kernel
theorem dX7_goesBack_96 : decode cX7_goesBack 96 = .ok (.aload_n 0, 1) := by decide +kernel
theorem dX7_goesBack_97 : decode cX7_goesBack 97 = .ok (.iload 5, 2) := by decide +kernel
theorem dX7_goesBack_99 : decode cX7_goesBack 99 = .ok (.ifCond .ne 18, 3) := by decide +kernel
theorem dX7_goesBack_102 : decode cX7_goesBack 102 = .ok (.aload_n 0, 1) := by decide +kernel
theorem dX7_goesBack_103 : decode cX7_goesBack 103 = .ok (.aload_n 0, 1) := by decide +kernel
theorem dX7_goesBack_104 : decode cX7_goesBack 104 = .ok (.getfield 31, 3) := by decide +kernel
theorem dX7_goesBack_107 : decode cX7_goesBack 107 = .ok (.iconst 0, 1) := by decide +kernel
theorem dX7_goesBack_108 : decode cX7_goesBack 108 = .ok (.iaload, 1) := by decide +kernel
theorem dX7_goesBack_109 : decode cX7_goesBack 109 = .ok (.iconst 2, 1) := by decide +kernel
theorem dX7_goesBack_110 : decode cX7_goesBack 110 = .ok (.idiv, 1) := by decide +kernel
theorem dX7_goesBack_111 : decode cX7_goesBack 111 = .ok (.invokevirtual 229, 3) := by decide +kernel
theorem dX7_goesBack_114 : decode cX7_goesBack 114 = .ok (.goto 7, 3) := by decide +kernel
theorem dX7_goesBack_117 : decode cX7_goesBack 117 = .ok (.aload_n 0, 1) := by decide +kernel
theorem dX7_goesBack_118 : decode cX7_goesBack 118 = .ok (.getfield 233, 3) := by decide +kernel
theorem dX7_goesBack_121 : decode cX7_goesBack 121 = .ok (.putfield 233, 3) := by decide +kernel
theorem dX7_goesBack_124 : decode cX7_goesBack 124 = .ok (.iload 5, 2) := by decide +kernel
theorem dX7_goesBack_126 : decode cX7_goesBack 126 = .ok (.ifCond .eq 16, 3) := by decide +kernel
theorem dX7_goesBack_129 : decode cX7_goesBack 129 = .ok (.aload_n 0, 1) := by decide +kernel
theorem dX7_goesBack_130 : decode cX7_goesBack 130 = .ok (.getfield 31, 3) := by decide +kernel
theorem dX7_goesBack_133 : decode cX7_goesBack 133 = .ok (.iload 5, 2) := by decide +kernel
theorem dX7_goesBack_135 : decode cX7_goesBack 135 = .ok (.iaload, 1) := by decide +kernel
theorem dX7_goesBack_136 : decode cX7_goesBack 136 = .ok (.iload_n 2, 1) := by decide +kernel
theorem dX7_goesBack_137 : decode cX7_goesBack 137 = .ok (.iconst 1, 1) := by decide +kernel
theorem dX7_goesBack_138 : decode cX7_goesBack 138 = .ok (.isub, 1) := by decide +kernel
theorem dX7_goesBack_139 : decode cX7_goesBack 139 = .ok (.if_icmp .ge 4, 3) := by decide +kernel
theorem dX7_goesBack_142 : decode cX7_goesBack 142 = .ok (.return_, 1) := by decide +kernel
theorem dX7_goesBack_143 : decode cX7_goesBack 143 = .ok (.aload_n 0, 1) := by decide +kernel
theorem dX7_goesBack_144 : decode cX7_goesBack 144 = .ok (.getfield 28, 3) := by decide +kernel
theorem dX7_goesBack_147 : decode cX7_goesBack 147 = .ok (.iload 5, 2) := by decide +kernel
theorem dX7_goesBack_149 : decode cX7_goesBack 149 = .ok (.iaload, 1) := by decide +kernel
theorem dX7_goesBack_150 : decode cX7_goesBack 150 = .ok (.istore 4, 2) := by decide +kernel
theorem dX7_goesBack_152 : decode cX7_goesBack 152 = .ok (.aload_n 0, 1) := by decide +kernel
theorem dX7_goesBack_153 : decode cX7_goesBack 153 = .ok (.getfield 28, 3) := by decide +kernel
theorem dX7_goesBack_156 : decode cX7_goesBack 156 = .ok (.iload 5, 2) := by decide +kernel
theorem dX7_goesBack_158 : decode cX7_goesBack 158 = .ok (.iconst (-1), 1) := by decide +kernel
theorem dX7_goesBack_159 : decode cX7_goesBack 159 = .ok (.iastore, 1) := by decide +kernel
theorem dX7_goesBack_160 : decode cX7_goesBack 160 = .ok (.iinc 5 (-1), 3) := by decide +kernel
theorem dX7_goesBack_163 : decode cX7_goesBack 163 = .ok (.goto (-155), 3) := by decide +kernel
theorem dX7_goesBack_166 : decode cX7_goesBack 166 = .ok (.return_, 1) := by decide +kernel
theorem dX7_play_0 : decode cX7_play 0 = .ok (.iload_n 1, 1) := by decide +kernel
theorem dX7_play_1 : decode cX7_play 1 = .ok (.i2l, 1) := by decide +kernel
theorem dX7_play_2 : decode cX7_play 2 = .ok (.lconst 0, 1) := by decide +kernel
theorem dX7_play_3 : decode cX7_play 3 = .ok (.ldc2_w 189, 3) := by decide +kernel
theorem dX7_play_6 : decode cX7_play 6 = .ok (.invokestatic 55, 3) := by decide +kernel
theorem dX7_play_9 : decode cX7_play 9 = .ok (.ifCond .eq 13, 3) := by decide +kernel
theorem dX7_play_12 : decode cX7_play 12 = .ok (.iload_n 2, 1) := by decide +kernel
theorem dX7_play_13 : decode cX7_play 13 = .ok (.i2l, 1) := by decide +kernel
theorem dX7_play_14 : decode cX7_play 14 = .ok (.lconst 0, 1) := by decide +kernel
theorem dX7_play_15 : decode cX7_play 15 = .ok (.lconst 1, 1) := by decide +kernel
theorem dX7_play_16 : decode cX7_play 16 = .ok (.invokestatic 55, 3) := by decide +kernel
theorem dX7_play_19 : decode cX7_play 19 = .ok (.ifCond .ne 5, 3) := by decide +kernel
theorem dX7_play_22 : decode cX7_play 22 = .ok (.iconst (-1), 1) := by decide +kernel
theorem dX7_play_23 : decode cX7_play 23 = .ok (.ireturn, 1) := by decide +kernel
theorem dX7_play_24 : decode cX7_play 24 = .ok (.iload_n 1, 1) := by decide +kernel
theorem dX7_play_25 : decode cX7_play 25 = .ok (.ifCond .ne 14, 3) := by decide +kernel
theorem dX7_play_28 : decode cX7_play 28 = .ok (.iload_n 2, 1) := by decide +kernel
theorem dX7_play_29 : decode cX7_play 29 = .ok (.ifCond .ne 7, 3) := by decide +kernel
theorem dX7_play_32 : decode cX7_play 32 = .ok (.iconst 0, 1) := by decide +kernel
theorem dX7_play_33 : decode cX7_play 33 = .ok (.goto 5, 3) := by decide +kernel
theorem dX7_play_36 : decode cX7_play 36 = .ok (.bipush (-4), 2) := by decide +kernel
theorem dX7_play_38 : decode cX7_play 38 = .ok (.ireturn, 1) := by decide +kernel
theorem dX7_play_39 : decode cX7_play 39 = .ok (.iconst 2, 1) := by decide +kernel
theorem dX7_play_40 : decode cX7_play 40 = .ok (.aload_n 0, 1) := by decide +kernel
theorem dX7_play_41 : decode cX7_play 41 = .ok (.getfield 7, 3) := by decide +kernel
theorem dX7_play_44 : decode cX7_play 44 = .ok (.bipush 24, 2) := by decide +kernel
theorem dX7_play_46 : decode cX7_play 46 = .ok (.iaload, 1) := by decide +kernel
theorem dX7_play_47 : decode cX7_play 47 = .ok (.imul, 1) := by decide +kernel
theorem dX7_play_48 : decode cX7_play 48 = .ok (.iconst 2, 1) := by decide +kernel
theorem dX7_play_49 : decode cX7_play 49 = .ok (.iadd, 1) := by decide +kernel
theorem dX7_play_50 : decode cX7_play 50 = .ok (.istore_n 3, 1) := by decide +kernel
theorem dX7_play_51 : decode cX7_play 51 = .ok (.iconst 1, 1) := by decide +kernel
theorem dX7_play_52 : decode cX7_play 52 = .ok (.istore 4, 2) := by decide +kernel
theorem dX7_play_54 : decode cX7_play 54 = .ok (.iconst 0, 1) := by decide +kernel
theorem dX7_play_55 : decode cX7_play 55 = .ok (.istore 5, 2) := by decide +kernel
theorem dX7_play_57 : decode cX7_play 57 = .ok (.iload 5, 2) := by decide +kernel
theorem dX7_play_59 : decode cX7_play 59 = .ok (.iload_n 1, 1) := by decide +kernel
theorem dX7_play_60 : decode cX7_play 60 = .ok (.if_icmp .ge 32, 3) := by decide +kernel
theorem dX7_play_63 : decode cX7_play 63 = .ok (.iload 4, 2) := by decide +kernel
theorem dX7_play_65 : decode cX7_play 65 = .ok (.iload_n 3, 1) := by decide +kernel
theorem dX7_play_66 : decode cX7_play 66 = .ok (.imul, 1) := by decide +kernel
theorem dX7_play_67 : decode cX7_play 67 = .ok (.istore 4, 2) := by decide +kernel
theorem dX7_play_69 : decode cX7_play 69 = .ok (.aload_n 0, 1) := by decide +kernel
theorem dX7_play_70 : decode cX7_play 70 = .ok (.getfield 25, 3) := by decide +kernel
theorem dX7_play_73 : decode cX7_play 73 = .ok (.iload 5, 2) := by decide +kernel
theorem dX7_play_75 : decode cX7_play 75 = .ok (.ldc 232, 2) := by decide +kernel
theorem dX7_play_77 : decode cX7_play 77 = .ok (.iastore, 1) := by decide +kernel
theorem dX7_play_78 : decode cX7_play 78 = .ok (.aload_n 0, 1) := by decide +kernel
theorem dX7_play_79 : decode cX7_play 79 = .ok (.getfield 28, 3) := by decide +kernel
theorem dX7_play_82 : decode cX7_play 82 = .ok (.iload 5, 2) := by decide +kernel
theorem dX7_play_84 : decode cX7_play 84 = .ok (.iconst (-1), 1) := by decide +kernel
theorem dX7_play_85 : decode cX7_play 85 = .ok (.iastore, 1) := by decide +kernel
theorem dX7_play_86 : decode cX7_play 86 = .ok (.iinc 5 1, 3) := by decide +kernel
theorem dX7_play_89 : decode cX7_play 89 = .ok (.goto (-32), 3) := by decide +kernel
theorem dX7_play_92 : decode cX7_play 92 = .ok (.iconst 0, 1) := by decide +kernel
theorem dX7_play_93 : decode cX7_play 93 = .ok (.istore 5, 2) := by decide +kernel
theorem dX7_play_95 : decode cX7_play 95 = .ok (.iload 5, 2) := by decide +kernel
theorem dX7_play_97 : decode cX7_play 97 = .ok (.iload 4, 2) := by decide +kernel
theorem dX7_play_99 : decode cX7_play 99 = .ok (.if_icmp .ge 97, 3) := by decide +kernel
theorem dX7_play_102 : decode cX7_play 102 = .ok (.aload_n 0, 1) := by decide +kernel
theorem dX7_play_103 : decode cX7_play 103 = .ok (.iload 5, 2) := by decide +kernel
theorem dX7_play_105 : decode cX7_play 105 = .ok (.iload_n 3, 1) := by decide +kernel
theorem dX7_play_106 : decode cX7_play 106 = .ok (.iload_n 1, 1) := by decide +kernel
theorem dX7_play_107 : decode cX7_play 107 = .ok (.invokevirtual 236, 3) := by decide +kernel
theorem dX7_play_110 : decode cX7_play 110 = .ok (.aload_n 0, 1) := by decide +kernel
theorem dX7_play_111 : decode cX7_play 111 = .ok (.iconst 0, 1) := by decide +kernel
theorem dX7_play_112 : decode cX7_play 112 = .ok (.sipush 212, 3) := by decide +kernel
theorem dX7_play_115 : decode cX7_play 115 = .ok (.invokevirtual 205, 3) := by decide +kernel
theorem dX7_play_118 : decode cX7_play 118 = .ok (.iconst 0, 1) := by decide +kernel
theorem dX7_play_119 : decode cX7_play 119 = .ok (.istore 6, 2) := by decide +kernel
theorem dX7_play_121 : decode cX7_play 121 = .ok (.iconst 0, 1) := by decide +kernel
theorem dX7_play_122 : decode cX7_play 122 = .ok (.istore 7, 2) := by decide +kernel
theorem dX7_play_124 : decode cX7_play 124 = .ok (.iload 7, 2) := by decide +kernel
theorem dX7_play_126 : decode cX7_play 126 = .ok (.iload_n 1, 1) := by decide +kernel
theorem dX7_play_127 : decode cX7_play 127 = .ok (.if_icmp .ge 55, 3) := by decide +kernel
theorem dX7_play_130 : decode cX7_play 130 = .ok (.iload 6, 2) := by decide +kernel
theorem dX7_play_132 : decode cX7_play 132 = .ok (.aload_n 0, 1) := by decide +kernel
theorem dX7_play_133 : decode cX7_play 133 = .ok (.sipush 212, 3) := by decide +kernel
theorem dX7_play_136 : decode cX7_play 136 = .ok (.aload_n 0, 1) := by decide +kernel
theorem dX7_play_137 : decode cX7_play 137 = .ok (.getfield 31, 3) := by decide +kernel
theorem dX7_play_140 : decode cX7_play 140 = .ok (.iload 7, 2) := by decide +kernel
theorem dX7_play_142 : decode cX7_play 142 = .ok (.iaload, 1) := by decide +kernel
theorem dX7_play_143 : decode cX7_play 143 = .ok (.iconst 2, 1) := by decide +kernel
theorem dX7_play_144 : decode cX7_play 144 = .ok (.irem, 1) := by decide +kernel
theorem dX7_play_145 : decode cX7_play 145 = .ok (.ifCond .ne 7, 3) := by decide +kernel
theorem dX7_play_148 : decode cX7_play 148 = .ok (.iconst 0, 1) := by decide +kernel
theorem dX7_play_149 : decode cX7_play 149 = .ok (.goto 5, 3) := by decide +kernel
theorem dX7_play_152 : decode cX7_play 152 = .ok (.bipush 9, 2) := by decide +kernel
theorem dX7_play_154 : decode cX7_play 154 = .ok (.aload_n 0, 1) := by decide +kernel
theorem dX7_play_155 : decode cX7_play 155 = .ok (.aload_n 0, 1) := by decide +kernel
theorem dX7_play_156 : decode cX7_play 156 = .ok (.getfield 31, 3) := by decide +kernel
theorem dX7_play_159 : decode cX7_play 159 = .ok (.iload 7, 2) := by decide +kernel
theorem dX7_play_161 : decode cX7_play 161 = .ok (.iaload, 1) := by decide +kernel
theorem dX7_play_162 : decode cX7_play 162 = .ok (.iconst 2, 1) := by decide +kernel
theorem dX7_play_163 : decode cX7_play 163 = .ok (.idiv, 1) := by decide +kernel
theorem dX7_play_164 : decode cX7_play 164 = .ok (.invokevirtual 229, 3) := by decide +kernel
theorem dX7_play_167 : decode cX7_play 167 = .ok (.invokevirtual 154, 3) := by decide +kernel
theorem dX7_play_170 : decode cX7_play 170 = .ok (.invokestatic 199, 3) := by decide +kernel
theorem dX7_play_173 : decode cX7_play 173 = .ok (.iadd, 1) := by decide +kernel
theorem dX7_play_174 : decode cX7_play 174 = .ok (.istore 6, 2) := by decide +kernel
theorem dX7_play_176 : decode cX7_play 176 = .ok (.iinc 7 1, 3) := by decide +kernel
theorem dX7_play_179 : decode cX7_play 179 = .ok (.goto (-55), 3) := by decide +kernel
theorem dX7_play_182 : decode cX7_play 182 = .ok (.aload_n 0, 1) := by decide +kernel
theorem dX7_play_183 : decode cX7_play 183 = .ok (.iload 6, 2) := by decide +kernel
theorem dX7_play_185 : decode cX7_play 185 = .ok (.iload_n 3, 1) := by decide +kernel
theorem dX7_play_186 : decode cX7_play 186 = .ok (.iload_n 1, 1) := by decide +kernel
theorem dX7_play_187 : decode cX7_play 187 = .ok (.invokevirtual 240, 3) := by decide +kernel
theorem dX7_play_190 : decode cX7_play 190 = .ok (.iinc 5 1, 3) := by decide +kernel
theorem dX7_play_193 : decode cX7_play 193 = .ok (.goto (-98), 3) := by decide +kernel
theorem dX7_play_196 : decode cX7_play 196 = .ok (.iload_n 2, 1) := by decide +kernel
theorem dX7_play_197 : decode cX7_play 197 = .ok (.ifCond .ne 12, 3) := by decide +kernel
theorem dX7_play_200 : decode cX7_play 200 = .ok (.aload_n 0, 1) := by decide +kernel
theorem dX7_play_201 : decode cX7_play 201 = .ok (.getfield 28, 3) := by decide +kernel
theorem dX7_play_204 : decode cX7_play 204 = .ok (.iconst 0, 1) := by decide +kernel
theorem dX7_play_205 : decode cX7_play 205 = .ok (.iaload, 1) := by decide +kernel
theorem dX7_play_206 : decode cX7_play 206 = .ok (.goto 7, 3) := by decide +kernel
theorem dX7_play_209 : decode cX7_play 209 = .ok (.aload_n 0, 1) := by decide +kernel
theorem dX7_play_210 : decode cX7_play 210 = .ok (.getfield 233, 3) := by decide +kernel
theorem dX7_play_213 : decode cX7_play 213 = .ok (.ireturn, 1) := by decide +kernel
theorem dX7_lowest_0 : decode cX7_lowest 0 = .ok (.lload_n 0, 1) := by decide +kernel
theorem dX7_lowest_1 : decode cX7_lowest 1 = .ok (.lstore 5, 2) := by decide +kernel
theorem dX7_lowest_3 : decode cX7_lowest 3 = .ok (.lload_n 2, 1) := by decide +kernel
theorem dX7_lowest_4 : decode cX7_lowest 4 = .ok (.lstore 7, 2) := by decide +kernel
theorem dX7_lowest_6 : decode cX7_lowest 6 = .ok (.lload 7, 2) := by decide +kernel
theorem dX7_lowest_8 : decode cX7_lowest 8 = .ok (.lconst 0, 1) := by decide +kernel
theorem dX7_lowest_9 : decode cX7_lowest 9 = .ok (.lcmp, 1) := by decide +kernel
theorem dX7_lowest_10 : decode cX7_lowest 10 = .ok (.ifCond .eq 21, 3) := by decide +kernel
theorem dX7_lowest_13 : decode cX7_lowest 13 = .ok (.lload 5, 2) := by decide +kernel
theorem dX7_lowest_15 : decode cX7_lowest 15 = .ok (.lload 7, 2) := by decide +kernel
theorem dX7_lowest_17 : decode cX7_lowest 17 = .ok (.lrem, 1) := by decide +kernel
theorem dX7_lowest_18 : decode cX7_lowest 18 = .ok (.lstore 9, 2) := by decide +kernel
theorem dX7_lowest_20 : decode cX7_lowest 20 = .ok (.lload 7, 2) := by decide +kernel
theorem dX7_lowest_22 : decode cX7_lowest 22 = .ok (.lstore 5, 2) := by decide +kernel
theorem dX7_lowest_24 : decode cX7_lowest 24 = .ok (.lload 9, 2) := by decide +kernel
theorem dX7_lowest_26 : decode cX7_lowest 26 = .ok (.lstore 7, 2) := by decide +kernel
theorem dX7_lowest_28 : decode cX7_lowest 28 = .ok (.goto (-22), 3) := by decide +kernel
theorem dX7_lowest_31 : decode cX7_lowest 31 = .ok (.iload 4, 2) := by decide +kernel
theorem dX7_lowest_33 : decode cX7_lowest 33 = .ok (.ifCond .ne 7, 3) := by decide +kernel
theorem dX7_lowest_36 : decode cX7_lowest 36 = .ok (.lload_n 0, 1) := by decide +kernel
theorem dX7_lowest_37 : decode cX7_lowest 37 = .ok (.goto 4, 3) := by decide +kernel
theorem dX7_lowest_40 : decode cX7_lowest 40 = .ok (.lload_n 2, 1) := by decide +kernel
theorem dX7_lowest_41 : decode cX7_lowest 41 = .ok (.lload 5, 2) := by decide +kernel
theorem dX7_lowest_43 : decode cX7_lowest 43 = .ok (.ldiv, 1) := by decide +kernel
theorem dX7_lowest_44 : decode cX7_lowest 44 = .ok (.lreturn, 1) := by decide +kernel
theorem dX7_byNobody_0 : decode cX7_byNobody 0 = .ok (.lconst 0, 1) := by decide +kernel
theorem dX7_byNobody_1 : decode cX7_byNobody 1 = .ok (.lstore 5, 2) := by decide +kernel
theorem dX7_byNobody_3 : decode cX7_byNobody 3 = .ok (.lconst 1, 1) := by decide +kernel
theorem dX7_byNobody_4 : decode cX7_byNobody 4 = .ok (.lstore 7, 2) := by decide +kernel
theorem dX7_byNobody_6 : decode cX7_byNobody 6 = .ok (.iconst 0, 1) := by decide +kernel
theorem dX7_byNobody_7 : decode cX7_byNobody 7 = .ok (.istore 9, 2) := by decide +kernel
theorem dX7_byNobody_9 : decode cX7_byNobody 9 = .ok (.iload 9, 2) := by decide +kernel
theorem dX7_byNobody_11 : decode cX7_byNobody 11 = .ok (.iload_n 3, 1) := by decide +kernel
theorem dX7_byNobody_12 : decode cX7_byNobody 12 = .ok (.if_icmp .ge 17, 3) := by decide +kernel
theorem dX7_byNobody_15 : decode cX7_byNobody 15 = .ok (.lload 7, 2) := by decide +kernel
theorem dX7_byNobody_17 : decode cX7_byNobody 17 = .ok (.ldc2_w 243, 3) := by decide +kernel
theorem dX7_byNobody_20 : decode cX7_byNobody 20 = .ok (.lmul, 1) := by decide +kernel
theorem dX7_byNobody_21 : decode cX7_byNobody 21 = .ok (.lstore 7, 2) := by decide +kernel
theorem dX7_byNobody_23 : decode cX7_byNobody 23 = .ok (.iinc 9 1, 3) := by decide +kernel
theorem dX7_byNobody_26 : decode cX7_byNobody 26 = .ok (.goto (-17), 3) := by decide +kernel
theorem dX7_byNobody_29 : decode cX7_byNobody 29 = .ok (.iconst 0, 1) := by decide +kernel
theorem dX7_byNobody_30 : decode cX7_byNobody 30 = .ok (.istore 9, 2) := by decide +kernel
theorem dX7_byNobody_32 : decode cX7_byNobody 32 = .ok (.iload 9, 2) := by decide +kernel
theorem dX7_byNobody_34 : decode cX7_byNobody 34 = .ok (.iconst 1, 1) := by decide +kernel
theorem dX7_byNobody_35 : decode cX7_byNobody 35 = .ok (.iload_n 3, 1) := by decide +kernel
theorem dX7_byNobody_36 : decode cX7_byNobody 36 = .ok (.ishl, 1) := by decide +kernel
theorem dX7_byNobody_37 : decode cX7_byNobody 37 = .ok (.if_icmp .ge 147, 3) := by decide +kernel
theorem dX7_byNobody_40 : decode cX7_byNobody 40 = .ok (.lconst 1, 1) := by decide +kernel
theorem dX7_byNobody_41 : decode cX7_byNobody 41 = .ok (.lstore 10, 2) := by decide +kernel
theorem dX7_byNobody_43 : decode cX7_byNobody 43 = .ok (.iconst 0, 1) := by decide +kernel
theorem dX7_byNobody_44 : decode cX7_byNobody 44 = .ok (.istore 12, 2) := by decide +kernel
theorem dX7_byNobody_46 : decode cX7_byNobody 46 = .ok (.aload_n 0, 1) := by decide +kernel
theorem dX7_byNobody_47 : decode cX7_byNobody 47 = .ok (.iconst 0, 1) := by decide +kernel
theorem dX7_byNobody_48 : decode cX7_byNobody 48 = .ok (.sipush 212, 3) := by decide +kernel
theorem dX7_byNobody_51 : decode cX7_byNobody 51 = .ok (.invokevirtual 205, 3) := by decide +kernel
theorem dX7_byNobody_54 : decode cX7_byNobody 54 = .ok (.iconst 0, 1) := by decide +kernel
theorem dX7_byNobody_55 : decode cX7_byNobody 55 = .ok (.istore 13, 2) := by decide +kernel
theorem dX7_byNobody_57 : decode cX7_byNobody 57 = .ok (.iload 13, 2) := by decide +kernel
theorem dX7_byNobody_59 : decode cX7_byNobody 59 = .ok (.iload_n 3, 1) := by decide +kernel
theorem dX7_byNobody_60 : decode cX7_byNobody 60 = .ok (.if_icmp .ge 85, 3) := by decide +kernel
theorem dX7_byNobody_63 : decode cX7_byNobody 63 = .ok (.iload 9, 2) := by decide +kernel
theorem dX7_byNobody_65 : decode cX7_byNobody 65 = .ok (.iload 13, 2) := by decide +kernel
theorem dX7_byNobody_67 : decode cX7_byNobody 67 = .ok (.ishr, 1) := by decide +kernel
theorem dX7_byNobody_68 : decode cX7_byNobody 68 = .ok (.iconst 1, 1) := by decide +kernel
theorem dX7_byNobody_69 : decode cX7_byNobody 69 = .ok (.iand, 1) := by decide +kernel
theorem dX7_byNobody_70 : decode cX7_byNobody 70 = .ok (.iconst 1, 1) := by decide +kernel
theorem dX7_byNobody_71 : decode cX7_byNobody 71 = .ok (.if_icmp .ne 7, 3) := by decide +kernel
theorem dX7_byNobody_74 : decode cX7_byNobody 74 = .ok (.iconst 1, 1) := by decide +kernel
theorem dX7_byNobody_75 : decode cX7_byNobody 75 = .ok (.goto 4, 3) := by decide +kernel
theorem dX7_byNobody_78 : decode cX7_byNobody 78 = .ok (.iconst 0, 1) := by decide +kernel
theorem dX7_byNobody_79 : decode cX7_byNobody 79 = .ok (.istore 14, 2) := by decide +kernel
theorem dX7_byNobody_81 : decode cX7_byNobody 81 = .ok (.lload 10, 2) := by decide +kernel
theorem dX7_byNobody_83 : decode cX7_byNobody 83 = .ok (.iload 14, 2) := by decide +kernel
theorem dX7_byNobody_85 : decode cX7_byNobody 85 = .ok (.ifCond .eq 8, 3) := by decide +kernel
theorem dX7_byNobody_88 : decode cX7_byNobody 88 = .ok (.iload_n 1, 1) := by decide +kernel
theorem dX7_byNobody_89 : decode cX7_byNobody 89 = .ok (.i2l, 1) := by decide +kernel
theorem dX7_byNobody_90 : decode cX7_byNobody 90 = .ok (.goto 8, 3) := by decide +kernel
theorem dX7_byNobody_93 : decode cX7_byNobody 93 = .ok (.bipush 10, 2) := by decide +kernel
theorem dX7_byNobody_95 : decode cX7_byNobody 95 = .ok (.iload_n 1, 1) := by decide +kernel
theorem dX7_byNobody_96 : decode cX7_byNobody 96 = .ok (.isub, 1) := by decide +kernel
theorem dX7_byNobody_97 : decode cX7_byNobody 97 = .ok (.i2l, 1) := by decide +kernel
theorem dX7_byNobody_98 : decode cX7_byNobody 98 = .ok (.lmul, 1) := by decide +kernel
theorem dX7_byNobody_99 : decode cX7_byNobody 99 = .ok (.lstore 10, 2) := by decide +kernel
theorem dX7_byNobody_101 : decode cX7_byNobody 101 = .ok (.iload 12, 2) := by decide +kernel
theorem dX7_byNobody_103 : decode cX7_byNobody 103 = .ok (.aload_n 0, 1) := by decide +kernel
theorem dX7_byNobody_104 : decode cX7_byNobody 104 = .ok (.sipush 212, 3) := by decide +kernel
theorem dX7_byNobody_107 : decode cX7_byNobody 107 = .ok (.iload 14, 2) := by decide +kernel
theorem dX7_byNobody_109 : decode cX7_byNobody 109 = .ok (.ifCond .eq 7, 3) := by decide +kernel
theorem dX7_byNobody_112 : decode cX7_byNobody 112 = .ok (.iconst 0, 1) := by decide +kernel
theorem dX7_byNobody_113 : decode cX7_byNobody 113 = .ok (.goto 10, 3) := by decide +kernel
theorem dX7_byNobody_116 : decode cX7_byNobody 116 = .ok (.aload_n 0, 1) := by decide +kernel
theorem dX7_byNobody_117 : decode cX7_byNobody 117 = .ok (.sipush 212, 3) := by decide +kernel
theorem dX7_byNobody_120 : decode cX7_byNobody 120 = .ok (.invokevirtual 148, 3) := by decide +kernel
theorem dX7_byNobody_123 : decode cX7_byNobody 123 = .ok (.aload_n 0, 1) := by decide +kernel
theorem dX7_byNobody_124 : decode cX7_byNobody 124 = .ok (.sipush 212, 3) := by decide +kernel
theorem dX7_byNobody_127 : decode cX7_byNobody 127 = .ok (.invokevirtual 151, 3) := by decide +kernel
theorem dX7_byNobody_130 : decode cX7_byNobody 130 = .ok (.invokevirtual 154, 3) := by decide +kernel
theorem dX7_byNobody_133 : decode cX7_byNobody 133 = .ok (.invokestatic 199, 3) := by decide +kernel
theorem dX7_byNobody_136 : decode cX7_byNobody 136 = .ok (.iadd, 1) := by decide +kernel
theorem dX7_byNobody_137 : decode cX7_byNobody 137 = .ok (.istore 12, 2) := by decide +kernel
theorem dX7_byNobody_139 : decode cX7_byNobody 139 = .ok (.iinc 13 1, 3) := by decide +kernel
theorem dX7_byNobody_142 : decode cX7_byNobody 142 = .ok (.goto (-85), 3) := by decide +kernel
theorem dX7_byNobody_145 : decode cX7_byNobody 145 = .ok (.lload 5, 2) := by decide +kernel
theorem dX7_byNobody_147 : decode cX7_byNobody 147 = .ok (.lload 10, 2) := by decide +kernel
theorem dX7_byNobody_149 : decode cX7_byNobody 149 = .ok (.iload_n 2, 1) := by decide +kernel
theorem dX7_byNobody_150 : decode cX7_byNobody 150 = .ok (.bipush (-4), 2) := by decide +kernel
theorem dX7_byNobody_152 : decode cX7_byNobody 152 = .ok (.if_icmp .ne 8, 3) := by decide +kernel
theorem dX7_byNobody_155 : decode cX7_byNobody 155 = .ok (.iload 12, 2) := by decide +kernel
theorem dX7_byNobody_157 : decode cX7_byNobody 157 = .ok (.goto 16, 3) := by decide +kernel
theorem dX7_byNobody_160 : decode cX7_byNobody 160 = .ok (.aload_n 0, 1) := by decide +kernel
theorem dX7_byNobody_161 : decode cX7_byNobody 161 = .ok (.iload_n 2, 1) := by decide +kernel
theorem dX7_byNobody_162 : decode cX7_byNobody 162 = .ok (.invokevirtual 226, 3) := by decide +kernel
theorem dX7_byNobody_165 : decode cX7_byNobody 165 = .ok (.ifCond .le 7, 3) := by decide +kernel
theorem dX7_byNobody_168 : decode cX7_byNobody 168 = .ok (.iconst 1, 1) := by decide +kernel
theorem dX7_byNobody_169 : decode cX7_byNobody 169 = .ok (.goto 4, 3) := by decide +kernel
theorem dX7_byNobody_172 : decode cX7_byNobody 172 = .ok (.iconst 0, 1) := by decide +kernel
theorem dX7_byNobody_173 : decode cX7_byNobody 173 = .ok (.i2l, 1) := by decide +kernel
theorem dX7_byNobody_174 : decode cX7_byNobody 174 = .ok (.lmul, 1) := by decide +kernel
theorem dX7_byNobody_175 : decode cX7_byNobody 175 = .ok (.ladd, 1) := by decide +kernel
theorem dX7_byNobody_176 : decode cX7_byNobody 176 = .ok (.lstore 5, 2) := by decide +kernel
theorem dX7_byNobody_178 : decode cX7_byNobody 178 = .ok (.iinc 9 1, 3) := by decide +kernel
theorem dX7_byNobody_181 : decode cX7_byNobody 181 = .ok (.goto (-149), 3) := by decide +kernel
theorem dX7_byNobody_184 : decode cX7_byNobody 184 = .ok (.lload 5, 2) := by decide +kernel
theorem dX7_byNobody_186 : decode cX7_byNobody 186 = .ok (.lload 7, 2) := by decide +kernel
theorem dX7_byNobody_188 : decode cX7_byNobody 188 = .ok (.iload 4, 2) := by decide +kernel
theorem dX7_byNobody_190 : decode cX7_byNobody 190 = .ok (.invokestatic 245, 3) := by decide +kernel
theorem dX7_byNobody_193 : decode cX7_byNobody 193 = .ok (.lreturn, 1) := by decide +kernel
theorem dX7_luck_0 : decode cX7_luck 0 = .ok (.iload_n 1, 1) := by decide +kernel
theorem dX7_luck_1 : decode cX7_luck 1 = .ok (.i2l, 1) := by decide +kernel
theorem dX7_luck_2 : decode cX7_luck 2 = .ok (.lconst 0, 1) := by decide +kernel
theorem dX7_luck_3 : decode cX7_luck 3 = .ok (.ldc2_w 243, 3) := by decide +kernel
theorem dX7_luck_6 : decode cX7_luck 6 = .ok (.invokestatic 55, 3) := by decide +kernel
theorem dX7_luck_9 : decode cX7_luck 9 = .ok (.ifCond .eq 46, 3) := by decide +kernel
theorem dX7_luck_12 : decode cX7_luck 12 = .ok (.aload_n 0, 1) := by decide +kernel
theorem dX7_luck_13 : decode cX7_luck 13 = .ok (.iload_n 2, 1) := by decide +kernel
theorem dX7_luck_14 : decode cX7_luck 14 = .ok (.invokevirtual 160, 3) := by decide +kernel
theorem dX7_luck_17 : decode cX7_luck 17 = .ok (.ifCond .eq 38, 3) := by decide +kernel
theorem dX7_luck_20 : decode cX7_luck 20 = .ok (.iload_n 3, 1) := by decide +kernel
theorem dX7_luck_21 : decode cX7_luck 21 = .ok (.i2l, 1) := by decide +kernel
theorem dX7_luck_22 : decode cX7_luck 22 = .ok (.lconst 0, 1) := by decide +kernel
theorem dX7_luck_23 : decode cX7_luck 23 = .ok (.ldc2_w 249, 3) := by decide +kernel
theorem dX7_luck_26 : decode cX7_luck 26 = .ok (.invokestatic 55, 3) := by decide +kernel
theorem dX7_luck_29 : decode cX7_luck 29 = .ok (.ifCond .eq 26, 3) := by decide +kernel
theorem dX7_luck_32 : decode cX7_luck 32 = .ok (.iload 4, 2) := by decide +kernel
theorem dX7_luck_34 : decode cX7_luck 34 = .ok (.i2l, 1) := by decide +kernel
theorem dX7_luck_35 : decode cX7_luck 35 = .ok (.lconst 0, 1) := by decide +kernel
theorem dX7_luck_36 : decode cX7_luck 36 = .ok (.lconst 1, 1) := by decide +kernel
theorem dX7_luck_37 : decode cX7_luck 37 = .ok (.invokestatic 55, 3) := by decide +kernel
theorem dX7_luck_40 : decode cX7_luck 40 = .ok (.ifCond .eq 15, 3) := by decide +kernel
theorem dX7_luck_43 : decode cX7_luck 43 = .ok (.aload_n 0, 1) := by decide +kernel
theorem dX7_luck_44 : decode cX7_luck 44 = .ok (.iload_n 1, 1) := by decide +kernel
theorem dX7_luck_45 : decode cX7_luck 45 = .ok (.iload_n 2, 1) := by decide +kernel
theorem dX7_luck_46 : decode cX7_luck 46 = .ok (.iload_n 3, 1) := by decide +kernel
theorem dX7_luck_47 : decode cX7_luck 47 = .ok (.iload 4, 2) := by decide +kernel
theorem dX7_luck_49 : decode cX7_luck 49 = .ok (.invokevirtual 251, 3) := by decide +kernel
theorem dX7_luck_52 : decode cX7_luck 52 = .ok (.goto 6, 3) := by decide +kernel
theorem dX7_luck_55 : decode cX7_luck 55 = .ok (.ldc2_w 255, 3) := by decide +kernel
theorem dX7_luck_58 : decode cX7_luck 58 = .ok (.lreturn, 1) := by decide +kernel
theorem dX7_mean_0 : decode cX7_mean 0 = .ok (.iload_n 1, 1) := by decide +kernel
theorem dX7_mean_1 : decode cX7_mean 1 = .ok (.i2l, 1) := by decide +kernel
theorem dX7_mean_2 : decode cX7_mean 2 = .ok (.lconst 0, 1) := by decide +kernel
theorem dX7_mean_3 : decode cX7_mean 3 = .ok (.ldc2_w 243, 3) := by decide +kernel
theorem dX7_mean_6 : decode cX7_mean 6 = .ok (.invokestatic 55, 3) := by decide +kernel
theorem dX7_mean_9 : decode cX7_mean 9 = .ok (.ifCond .eq 37, 3) := by decide +kernel
theorem dX7_mean_12 : decode cX7_mean 12 = .ok (.iload_n 2, 1) := by decide +kernel
theorem dX7_mean_13 : decode cX7_mean 13 = .ok (.i2l, 1) := by decide +kernel
theorem dX7_mean_14 : decode cX7_mean 14 = .ok (.lconst 0, 1) := by decide +kernel
theorem dX7_mean_15 : decode cX7_mean 15 = .ok (.ldc2_w 249, 3) := by decide +kernel
theorem dX7_mean_18 : decode cX7_mean 18 = .ok (.invokestatic 55, 3) := by decide +kernel
theorem dX7_mean_21 : decode cX7_mean 21 = .ok (.ifCond .eq 25, 3) := by decide +kernel
theorem dX7_mean_24 : decode cX7_mean 24 = .ok (.iload_n 3, 1) := by decide +kernel
theorem dX7_mean_25 : decode cX7_mean 25 = .ok (.i2l, 1) := by decide +kernel
theorem dX7_mean_26 : decode cX7_mean 26 = .ok (.lconst 0, 1) := by decide +kernel
theorem dX7_mean_27 : decode cX7_mean 27 = .ok (.lconst 1, 1) := by decide +kernel
theorem dX7_mean_28 : decode cX7_mean 28 = .ok (.invokestatic 55, 3) := by decide +kernel
theorem dX7_mean_31 : decode cX7_mean 31 = .ok (.ifCond .eq 15, 3) := by decide +kernel
theorem dX7_mean_34 : decode cX7_mean 34 = .ok (.aload_n 0, 1) := by decide +kernel
theorem dX7_mean_35 : decode cX7_mean 35 = .ok (.iload_n 1, 1) := by decide +kernel
theorem dX7_mean_36 : decode cX7_mean 36 = .ok (.bipush (-4), 2) := by decide +kernel
theorem dX7_mean_38 : decode cX7_mean 38 = .ok (.iload_n 2, 1) := by decide +kernel
theorem dX7_mean_39 : decode cX7_mean 39 = .ok (.iload_n 3, 1) := by decide +kernel
theorem dX7_mean_40 : decode cX7_mean 40 = .ok (.invokevirtual 251, 3) := by decide +kernel
theorem dX7_mean_43 : decode cX7_mean 43 = .ok (.goto 6, 3) := by decide +kernel
theorem dX7_mean_46 : decode cX7_mean 46 = .ok (.ldc2_w 255, 3) := by decide +kernel
theorem dX7_mean_49 : decode cX7_mean 49 = .ok (.lreturn, 1) := by decide +kernel
theorem dX7_see_0 : decode cX7_see 0 = .ok (.iload_n 1, 1) := by decide +kernel
theorem dX7_see_1 : decode cX7_see 1 = .ok (.i2l, 1) := by decide +kernel
theorem dX7_see_2 : decode cX7_see 2 = .ok (.lconst 0, 1) := by decide +kernel
theorem dX7_see_3 : decode cX7_see 3 = .ok (.ldc2_w 187, 3) := by decide +kernel
theorem dX7_see_6 : decode cX7_see 6 = .ok (.invokestatic 55, 3) := by decide +kernel
theorem dX7_see_9 : decode cX7_see 9 = .ok (.ifCond .eq 21, 3) := by decide +kernel
theorem dX7_see_12 : decode cX7_see 12 = .ok (.aload_n 0, 1) := by decide +kernel
theorem dX7_see_13 : decode cX7_see 13 = .ok (.iload_n 2, 1) := by decide +kernel
theorem dX7_see_14 : decode cX7_see 14 = .ok (.invokevirtual 160, 3) := by decide +kernel
theorem dX7_see_17 : decode cX7_see 17 = .ok (.ifCond .eq 13, 3) := by decide +kernel
theorem dX7_see_20 : decode cX7_see 20 = .ok (.iload_n 3, 1) := by decide +kernel
theorem dX7_see_21 : decode cX7_see 21 = .ok (.i2l, 1) := by decide +kernel
theorem dX7_see_22 : decode cX7_see 22 = .ok (.lconst 0, 1) := by decide +kernel
theorem dX7_see_23 : decode cX7_see 23 = .ok (.lconst 1, 1) := by decide +kernel
theorem dX7_see_24 : decode cX7_see 24 = .ok (.invokestatic 55, 3) := by decide +kernel
theorem dX7_see_27 : decode cX7_see 27 = .ok (.ifCond .ne 5, 3) := by decide +kernel
theorem dX7_see_30 : decode cX7_see 30 = .ok (.iconst (-1), 1) := by decide +kernel
theorem dX7_see_31 : decode cX7_see 31 = .ok (.ireturn, 1) := by decide +kernel
theorem dX7_see_32 : decode cX7_see 32 = .ok (.aload_n 0, 1) := by decide +kernel
theorem dX7_see_33 : decode cX7_see 33 = .ok (.getfield 126, 3) := by decide +kernel
theorem dX7_see_36 : decode cX7_see 36 = .ok (.bipush 6, 2) := by decide +kernel
theorem dX7_see_38 : decode cX7_see 38 = .ok (.if_icmp .ne 6, 3) := by decide +kernel
theorem dX7_see_41 : decode cX7_see 41 = .ok (.bipush (-3), 2) := by decide +kernel
theorem dX7_see_43 : decode cX7_see 43 = .ok (.ireturn, 1) := by decide +kernel
theorem dX7_see_44 : decode cX7_see 44 = .ok (.aload_n 0, 1) := by decide +kernel
theorem dX7_see_45 : decode cX7_see 45 = .ok (.getfield 34, 3) := by decide +kernel
theorem dX7_see_48 : decode cX7_see 48 = .ok (.iconst 3, 1) := by decide +kernel
theorem dX7_see_49 : decode cX7_see 49 = .ok (.aload_n 0, 1) := by decide +kernel
theorem dX7_see_50 : decode cX7_see 50 = .ok (.getfield 126, 3) := by decide +kernel
theorem dX7_see_53 : decode cX7_see 53 = .ok (.imul, 1) := by decide +kernel
theorem dX7_see_54 : decode cX7_see 54 = .ok (.iload_n 1, 1) := by decide +kernel
theorem dX7_see_55 : decode cX7_see 55 = .ok (.iastore, 1) := by decide +kernel
theorem dX7_see_56 : decode cX7_see 56 = .ok (.aload_n 0, 1) := by decide +kernel
theorem dX7_see_57 : decode cX7_see 57 = .ok (.getfield 34, 3) := by decide +kernel
theorem dX7_see_60 : decode cX7_see 60 = .ok (.iconst 3, 1) := by decide +kernel
theorem dX7_see_61 : decode cX7_see 61 = .ok (.aload_n 0, 1) := by decide +kernel
theorem dX7_see_62 : decode cX7_see 62 = .ok (.getfield 126, 3) := by decide +kernel
theorem dX7_see_65 : decode cX7_see 65 = .ok (.imul, 1) := by decide +kernel
theorem dX7_see_66 : decode cX7_see 66 = .ok (.iconst 1, 1) := by decide +kernel
theorem dX7_see_67 : decode cX7_see 67 = .ok (.iadd, 1) := by decide +kernel
theorem dX7_see_68 : decode cX7_see 68 = .ok (.iload_n 2, 1) := by decide +kernel
theorem dX7_see_69 : decode cX7_see 69 = .ok (.iastore, 1) := by decide +kernel
theorem dX7_see_70 : decode cX7_see 70 = .ok (.aload_n 0, 1) := by decide +kernel
theorem dX7_see_71 : decode cX7_see 71 = .ok (.getfield 34, 3) := by decide +kernel
theorem dX7_see_74 : decode cX7_see 74 = .ok (.iconst 3, 1) := by decide +kernel
theorem dX7_see_75 : decode cX7_see 75 = .ok (.aload_n 0, 1) := by decide +kernel
theorem dX7_see_76 : decode cX7_see 76 = .ok (.getfield 126, 3) := by decide +kernel
theorem dX7_see_79 : decode cX7_see 79 = .ok (.imul, 1) := by decide +kernel
theorem dX7_see_80 : decode cX7_see 80 = .ok (.iconst 2, 1) := by decide +kernel
theorem dX7_see_81 : decode cX7_see 81 = .ok (.iadd, 1) := by decide +kernel
theorem dX7_see_82 : decode cX7_see 82 = .ok (.iload_n 3, 1) := by decide +kernel
theorem dX7_see_83 : decode cX7_see 83 = .ok (.iastore, 1) := by decide +kernel
theorem dX7_see_84 : decode cX7_see 84 = .ok (.aload_n 0, 1) := by decide +kernel
theorem dX7_see_85 : decode cX7_see 85 = .ok (.dup, 1) := by decide +kernel
theorem dX7_see_86 : decode cX7_see 86 = .ok (.getfield 126, 3) := by decide +kernel
theorem dX7_see_89 : decode cX7_see 89 = .ok (.iconst 1, 1) := by decide +kernel
theorem dX7_see_90 : decode cX7_see 90 = .ok (.iadd, 1) := by decide +kernel
theorem dX7_see_91 : decode cX7_see 91 = .ok (.putfield 126, 3) := by decide +kernel
theorem dX7_see_94 : decode cX7_see 94 = .ok (.aload_n 0, 1) := by decide +kernel
theorem dX7_see_95 : decode cX7_see 95 = .ok (.getfield 126, 3) := by decide +kernel
theorem dX7_see_98 : decode cX7_see 98 = .ok (.ireturn, 1) := by decide +kernel
theorem dX7_forget_0 : decode cX7_forget 0 = .ok (.iload_n 1, 1) := by decide +kernel
theorem dX7_forget_1 : decode cX7_forget 1 = .ok (.i2l, 1) := by decide +kernel
theorem dX7_forget_2 : decode cX7_forget 2 = .ok (.lconst 0, 1) := by decide +kernel
theorem dX7_forget_3 : decode cX7_forget 3 = .ok (.aload_n 0, 1) := by decide +kernel
theorem dX7_forget_4 : decode cX7_forget 4 = .ok (.getfield 126, 3) := by decide +kernel
theorem dX7_forget_7 : decode cX7_forget 7 = .ok (.i2l, 1) := by decide +kernel
theorem dX7_forget_8 : decode cX7_forget 8 = .ok (.invokestatic 55, 3) := by decide +kernel
theorem dX7_forget_11 : decode cX7_forget 11 = .ok (.ifCond .ne 5, 3) := by decide +kernel
theorem dX7_forget_14 : decode cX7_forget 14 = .ok (.iconst (-1), 1) := by decide +kernel
theorem dX7_forget_15 : decode cX7_forget 15 = .ok (.ireturn, 1) := by decide +kernel
theorem dX7_forget_16 : decode cX7_forget 16 = .ok (.aload_n 0, 1) := by decide +kernel
theorem dX7_forget_17 : decode cX7_forget 17 = .ok (.getfield 126, 3) := by decide +kernel
theorem dX7_forget_20 : decode cX7_forget 20 = .ok (.istore_n 2, 1) := by decide +kernel
theorem dX7_forget_21 : decode cX7_forget 21 = .ok (.aload_n 0, 1) := by decide +kernel
theorem dX7_forget_22 : decode cX7_forget 22 = .ok (.iload_n 1, 1) := by decide +kernel
theorem dX7_forget_23 : decode cX7_forget 23 = .ok (.putfield 126, 3) := by decide +kernel
theorem dX7_forget_26 : decode cX7_forget 26 = .ok (.iload_n 2, 1) := by decide +kernel
theorem dX7_forget_27 : decode cX7_forget 27 = .ok (.ireturn, 1) := by decide +kernel
theorem dX7_isAsSeen_0 : decode cX7_isAsSeen 0 = .ok (.aload_n 0, 1) := by decide +kernel
theorem dX7_isAsSeen_1 : decode cX7_isAsSeen 1 = .ok (.iconst 0, 1) := by decide +kernel
theorem dX7_isAsSeen_2 : decode cX7_isAsSeen 2 = .ok (.sipush 212, 3) := by decide +kernel
theorem dX7_isAsSeen_5 : decode cX7_isAsSeen 5 = .ok (.invokevirtual 205, 3) := by decide +kernel
theorem dX7_isAsSeen_8 : decode cX7_isAsSeen 8 = .ok (.iconst 1, 1) := by decide +kernel
theorem dX7_isAsSeen_9 : decode cX7_isAsSeen 9 = .ok (.istore_n 2, 1) := by decide +kernel
theorem dX7_isAsSeen_10 : decode cX7_isAsSeen 10 = .ok (.iconst 0, 1) := by decide +kernel
theorem dX7_isAsSeen_11 : decode cX7_isAsSeen 11 = .ok (.istore_n 3, 1) := by decide +kernel
theorem dX7_isAsSeen_12 : decode cX7_isAsSeen 12 = .ok (.iload_n 3, 1) := by decide +kernel
theorem dX7_isAsSeen_13 : decode cX7_isAsSeen 13 = .ok (.bipush 40, 2) := by decide +kernel
theorem dX7_isAsSeen_15 : decode cX7_isAsSeen 15 = .ok (.if_icmp .gt 102, 3) := by decide +kernel
theorem dX7_isAsSeen_18 : decode cX7_isAsSeen 18 = .ok (.aload_n 0, 1) := by decide +kernel
theorem dX7_isAsSeen_19 : decode cX7_isAsSeen 19 = .ok (.sipush 212, 3) := by decide +kernel
theorem dX7_isAsSeen_22 : decode cX7_isAsSeen 22 = .ok (.invokevirtual 196, 3) := by decide +kernel
theorem dX7_isAsSeen_25 : decode cX7_isAsSeen 25 = .ok (.istore 4, 2) := by decide +kernel
theorem dX7_isAsSeen_27 : decode cX7_isAsSeen 27 = .ok (.aload_n 0, 1) := by decide +kernel
theorem dX7_isAsSeen_28 : decode cX7_isAsSeen 28 = .ok (.getfield 37, 3) := by decide +kernel
theorem dX7_isAsSeen_31 : decode cX7_isAsSeen 31 = .ok (.bipush 41, 2) := by decide +kernel
theorem dX7_isAsSeen_33 : decode cX7_isAsSeen 33 = .ok (.iload_n 1, 1) := by decide +kernel
theorem dX7_isAsSeen_34 : decode cX7_isAsSeen 34 = .ok (.imul, 1) := by decide +kernel
theorem dX7_isAsSeen_35 : decode cX7_isAsSeen 35 = .ok (.iload_n 3, 1) := by decide +kernel
theorem dX7_isAsSeen_36 : decode cX7_isAsSeen 36 = .ok (.iadd, 1) := by decide +kernel
theorem dX7_isAsSeen_37 : decode cX7_isAsSeen 37 = .ok (.iload 4, 2) := by decide +kernel
theorem dX7_isAsSeen_39 : decode cX7_isAsSeen 39 = .ok (.iastore, 1) := by decide +kernel
theorem dX7_isAsSeen_40 : decode cX7_isAsSeen 40 = .ok (.iconst 0, 1) := by decide +kernel
theorem dX7_isAsSeen_41 : decode cX7_isAsSeen 41 = .ok (.istore 5, 2) := by decide +kernel
theorem dX7_isAsSeen_43 : decode cX7_isAsSeen 43 = .ok (.iload 5, 2) := by decide +kernel
theorem dX7_isAsSeen_45 : decode cX7_isAsSeen 45 = .ok (.aload_n 0, 1) := by decide +kernel
theorem dX7_isAsSeen_46 : decode cX7_isAsSeen 46 = .ok (.getfield 126, 3) := by decide +kernel
theorem dX7_isAsSeen_49 : decode cX7_isAsSeen 49 = .ok (.if_icmp .ge 62, 3) := by decide +kernel
theorem dX7_isAsSeen_52 : decode cX7_isAsSeen 52 = .ok (.iload_n 2, 1) := by decide +kernel
theorem dX7_isAsSeen_53 : decode cX7_isAsSeen 53 = .ok (.ifCond .eq 50, 3) := by decide +kernel
theorem dX7_isAsSeen_56 : decode cX7_isAsSeen 56 = .ok (.aload_n 0, 1) := by decide +kernel
theorem dX7_isAsSeen_57 : decode cX7_isAsSeen 57 = .ok (.getfield 34, 3) := by decide +kernel
theorem dX7_isAsSeen_60 : decode cX7_isAsSeen 60 = .ok (.iconst 3, 1) := by decide +kernel
theorem dX7_isAsSeen_61 : decode cX7_isAsSeen 61 = .ok (.iload 5, 2) := by decide +kernel
theorem dX7_isAsSeen_63 : decode cX7_isAsSeen 63 = .ok (.imul, 1) := by decide +kernel
theorem dX7_isAsSeen_64 : decode cX7_isAsSeen 64 = .ok (.iaload, 1) := by decide +kernel
theorem dX7_isAsSeen_65 : decode cX7_isAsSeen 65 = .ok (.iload_n 3, 1) := by decide +kernel
theorem dX7_isAsSeen_66 : decode cX7_isAsSeen 66 = .ok (.if_icmp .ne 33, 3) := by decide +kernel
theorem dX7_isAsSeen_69 : decode cX7_isAsSeen 69 = .ok (.iload 4, 2) := by decide +kernel
theorem dX7_isAsSeen_71 : decode cX7_isAsSeen 71 = .ok (.aload_n 0, 1) := by decide +kernel
theorem dX7_isAsSeen_72 : decode cX7_isAsSeen 72 = .ok (.getfield 34, 3) := by decide +kernel
theorem dX7_isAsSeen_75 : decode cX7_isAsSeen 75 = .ok (.iconst 3, 1) := by decide +kernel
theorem dX7_isAsSeen_76 : decode cX7_isAsSeen 76 = .ok (.iload 5, 2) := by decide +kernel
theorem dX7_isAsSeen_78 : decode cX7_isAsSeen 78 = .ok (.imul, 1) := by decide +kernel
theorem dX7_isAsSeen_79 : decode cX7_isAsSeen 79 = .ok (.iconst 1, 1) := by decide +kernel
theorem dX7_isAsSeen_80 : decode cX7_isAsSeen 80 = .ok (.iadd, 1) := by decide +kernel
theorem dX7_isAsSeen_81 : decode cX7_isAsSeen 81 = .ok (.iaload, 1) := by decide +kernel
theorem dX7_isAsSeen_82 : decode cX7_isAsSeen 82 = .ok (.ishr, 1) := by decide +kernel
theorem dX7_isAsSeen_83 : decode cX7_isAsSeen 83 = .ok (.iconst 1, 1) := by decide +kernel
theorem dX7_isAsSeen_84 : decode cX7_isAsSeen 84 = .ok (.iand, 1) := by decide +kernel
theorem dX7_isAsSeen_85 : decode cX7_isAsSeen 85 = .ok (.aload_n 0, 1) := by decide +kernel
theorem dX7_isAsSeen_86 : decode cX7_isAsSeen 86 = .ok (.getfield 34, 3) := by decide +kernel
theorem dX7_isAsSeen_89 : decode cX7_isAsSeen 89 = .ok (.iconst 3, 1) := by decide +kernel
theorem dX7_isAsSeen_90 : decode cX7_isAsSeen 90 = .ok (.iload 5, 2) := by decide +kernel
theorem dX7_isAsSeen_92 : decode cX7_isAsSeen 92 = .ok (.imul, 1) := by decide +kernel
theorem dX7_isAsSeen_93 : decode cX7_isAsSeen 93 = .ok (.iconst 2, 1) := by decide +kernel
theorem dX7_isAsSeen_94 : decode cX7_isAsSeen 94 = .ok (.iadd, 1) := by decide +kernel
theorem dX7_isAsSeen_95 : decode cX7_isAsSeen 95 = .ok (.iaload, 1) := by decide +kernel
theorem dX7_isAsSeen_96 : decode cX7_isAsSeen 96 = .ok (.if_icmp .ne 7, 3) := by decide +kernel
theorem dX7_isAsSeen_99 : decode cX7_isAsSeen 99 = .ok (.iconst 1, 1) := by decide +kernel
theorem dX7_isAsSeen_100 : decode cX7_isAsSeen 100 = .ok (.goto 4, 3) := by decide +kernel
theorem dX7_isAsSeen_103 : decode cX7_isAsSeen 103 = .ok (.iconst 0, 1) := by decide +kernel
theorem dX7_isAsSeen_104 : decode cX7_isAsSeen 104 = .ok (.istore_n 2, 1) := by decide +kernel
theorem dX7_isAsSeen_105 : decode cX7_isAsSeen 105 = .ok (.iinc 5 1, 3) := by decide +kernel
theorem dX7_isAsSeen_108 : decode cX7_isAsSeen 108 = .ok (.goto (-65), 3) := by decide +kernel
theorem dX7_isAsSeen_111 : decode cX7_isAsSeen 111 = .ok (.iinc 3 1, 3) := by decide +kernel
theorem dX7_isAsSeen_114 : decode cX7_isAsSeen 114 = .ok (.goto (-102), 3) := by decide +kernel
theorem dX7_isAsSeen_117 : decode cX7_isAsSeen 117 = .ok (.iload_n 2, 1) := by decide +kernel
theorem dX7_isAsSeen_118 : decode cX7_isAsSeen 118 = .ok (.ireturn, 1) := by decide +kernel
theorem dX7_numbersAt_0 : decode cX7_numbersAt 0 = .ok (.aload_n 0, 1) := by decide +kernel
theorem dX7_numbersAt_1 : decode cX7_numbersAt 1 = .ok (.getfield 7, 3) := by decide +kernel
theorem dX7_numbersAt_4 : decode cX7_numbersAt 4 = .ok (.iload_n 1, 1) := by decide +kernel
theorem dX7_numbersAt_5 : decode cX7_numbersAt 5 = .ok (.iaload, 1) := by decide +kernel
theorem dX7_numbersAt_6 : decode cX7_numbersAt 6 = .ok (.istore_n 3, 1) := by decide +kernel
theorem dX7_numbersAt_7 : decode cX7_numbersAt 7 = .ok (.iconst 0, 1) := by decide +kernel
theorem dX7_numbersAt_8 : decode cX7_numbersAt 8 = .ok (.istore 4, 2) := by decide +kernel
theorem dX7_numbersAt_10 : decode cX7_numbersAt 10 = .ok (.iconst 0, 1) := by decide +kernel
theorem dX7_numbersAt_11 : decode cX7_numbersAt 11 = .ok (.istore 5, 2) := by decide +kernel
theorem dX7_numbersAt_13 : decode cX7_numbersAt 13 = .ok (.iload 5, 2) := by decide +kernel
theorem dX7_numbersAt_15 : decode cX7_numbersAt 15 = .ok (.iload_n 2, 1) := by decide +kernel
theorem dX7_numbersAt_16 : decode cX7_numbersAt 16 = .ok (.if_icmp .ge 39, 3) := by decide +kernel
theorem dX7_numbersAt_19 : decode cX7_numbersAt 19 = .ok (.aload_n 0, 1) := by decide +kernel
theorem dX7_numbersAt_20 : decode cX7_numbersAt 20 = .ok (.getfield 7, 3) := by decide +kernel
theorem dX7_numbersAt_23 : decode cX7_numbersAt 23 = .ok (.iload_n 1, 1) := by decide +kernel
theorem dX7_numbersAt_24 : decode cX7_numbersAt 24 = .ok (.iload 5, 2) := by decide +kernel
theorem dX7_numbersAt_26 : decode cX7_numbersAt 26 = .ok (.iastore, 1) := by decide +kernel
theorem dX7_numbersAt_27 : decode cX7_numbersAt 27 = .ok (.iload 4, 2) := by decide +kernel
theorem dX7_numbersAt_29 : decode cX7_numbersAt 29 = .ok (.aload_n 0, 1) := by decide +kernel
theorem dX7_numbersAt_30 : decode cX7_numbersAt 30 = .ok (.iload 5, 2) := by decide +kernel
theorem dX7_numbersAt_32 : decode cX7_numbersAt 32 = .ok (.invokevirtual 257, 3) := by decide +kernel
theorem dX7_numbersAt_35 : decode cX7_numbersAt 35 = .ok (.ifCond .eq 10, 3) := by decide +kernel
theorem dX7_numbersAt_38 : decode cX7_numbersAt 38 = .ok (.iconst 1, 1) := by decide +kernel
theorem dX7_numbersAt_39 : decode cX7_numbersAt 39 = .ok (.iload 5, 2) := by decide +kernel
theorem dX7_numbersAt_41 : decode cX7_numbersAt 41 = .ok (.ishl, 1) := by decide +kernel
theorem dX7_numbersAt_42 : decode cX7_numbersAt 42 = .ok (.goto 4, 3) := by decide +kernel
theorem dX7_numbersAt_45 : decode cX7_numbersAt 45 = .ok (.iconst 0, 1) := by decide +kernel
theorem dX7_numbersAt_46 : decode cX7_numbersAt 46 = .ok (.ior, 1) := by decide +kernel
theorem dX7_numbersAt_47 : decode cX7_numbersAt 47 = .ok (.istore 4, 2) := by decide +kernel
theorem dX7_numbersAt_49 : decode cX7_numbersAt 49 = .ok (.iinc 5 1, 3) := by decide +kernel
theorem dX7_numbersAt_52 : decode cX7_numbersAt 52 = .ok (.goto (-39), 3) := by decide +kernel
theorem dX7_numbersAt_55 : decode cX7_numbersAt 55 = .ok (.aload_n 0, 1) := by decide +kernel
theorem dX7_numbersAt_56 : decode cX7_numbersAt 56 = .ok (.getfield 7, 3) := by decide +kernel
theorem dX7_numbersAt_59 : decode cX7_numbersAt 59 = .ok (.iload_n 1, 1) := by decide +kernel
theorem dX7_numbersAt_60 : decode cX7_numbersAt 60 = .ok (.iload_n 3, 1) := by decide +kernel
theorem dX7_numbersAt_61 : decode cX7_numbersAt 61 = .ok (.iastore, 1) := by decide +kernel
theorem dX7_numbersAt_62 : decode cX7_numbersAt 62 = .ok (.iload 4, 2) := by decide +kernel
theorem dX7_numbersAt_64 : decode cX7_numbersAt 64 = .ok (.ireturn, 1) := by decide +kernel
theorem dX7_kinds_0 : decode cX7_kinds 0 = .ok (.aload_n 0, 1) := by decide +kernel
theorem dX7_kinds_1 : decode cX7_kinds 1 = .ok (.iload_n 1, 1) := by decide +kernel
theorem dX7_kinds_2 : decode cX7_kinds 2 = .ok (.invokevirtual 160, 3) := by decide +kernel
theorem dX7_kinds_5 : decode cX7_kinds 5 = .ok (.ifCond .eq 12, 3) := by decide +kernel
theorem dX7_kinds_8 : decode cX7_kinds 8 = .ok (.aload_n 0, 1) := by decide +kernel
theorem dX7_kinds_9 : decode cX7_kinds 9 = .ok (.iload_n 1, 1) := by decide +kernel
theorem dX7_kinds_10 : decode cX7_kinds 10 = .ok (.iconst 4, 1) := by decide +kernel
theorem dX7_kinds_11 : decode cX7_kinds 11 = .ok (.invokevirtual 260, 3) := by decide +kernel
theorem dX7_kinds_14 : decode cX7_kinds 14 = .ok (.goto 4, 3) := by decide +kernel
theorem dX7_kinds_17 : decode cX7_kinds 17 = .ok (.iconst (-1), 1) := by decide +kernel
theorem dX7_kinds_18 : decode cX7_kinds 18 = .ok (.ireturn, 1) := by decide +kernel
theorem dX7_nerves_0 : decode cX7_nerves 0 = .ok (.aload_n 0, 1) := by decide +kernel
theorem dX7_nerves_1 : decode cX7_nerves 1 = .ok (.iload_n 1, 1) := by decide +kernel
theorem dX7_nerves_2 : decode cX7_nerves 2 = .ok (.invokevirtual 160, 3) := by decide +kernel
theorem dX7_nerves_5 : decode cX7_nerves 5 = .ok (.ifCond .eq 16, 3) := by decide +kernel
theorem dX7_nerves_8 : decode cX7_nerves 8 = .ok (.aload_n 0, 1) := by decide +kernel
theorem dX7_nerves_9 : decode cX7_nerves 9 = .ok (.bipush 8, 2) := by decide +kernel
theorem dX7_nerves_11 : decode cX7_nerves 11 = .ok (.iload_n 1, 1) := by decide +kernel
theorem dX7_nerves_12 : decode cX7_nerves 12 = .ok (.iadd, 1) := by decide +kernel
theorem dX7_nerves_13 : decode cX7_nerves 13 = .ok (.bipush 10, 2) := by decide +kernel
theorem dX7_nerves_15 : decode cX7_nerves 15 = .ok (.invokevirtual 260, 3) := by decide +kernel
theorem dX7_nerves_18 : decode cX7_nerves 18 = .ok (.goto 4, 3) := by decide +kernel
theorem dX7_nerves_21 : decode cX7_nerves 21 = .ok (.iconst (-1), 1) := by decide +kernel
theorem dX7_nerves_22 : decode cX7_nerves 22 = .ok (.ireturn, 1) := by decide +kernel
theorem dX7_ask_0 : decode cX7_ask 0 = .ok (.aload_n 0, 1) := by decide +kernel
theorem dX7_ask_1 : decode cX7_ask 1 = .ok (.iload_n 1, 1) := by decide +kernel
theorem dX7_ask_2 : decode cX7_ask 2 = .ok (.invokevirtual 160, 3) := by decide +kernel
theorem dX7_ask_5 : decode cX7_ask 5 = .ok (.ifCond .eq 13, 3) := by decide +kernel
theorem dX7_ask_8 : decode cX7_ask 8 = .ok (.iload_n 2, 1) := by decide +kernel
theorem dX7_ask_9 : decode cX7_ask 9 = .ok (.i2l, 1) := by decide +kernel
theorem dX7_ask_10 : decode cX7_ask 10 = .ok (.lconst 0, 1) := by decide +kernel
theorem dX7_ask_11 : decode cX7_ask 11 = .ok (.lconst 1, 1) := by decide +kernel
theorem dX7_ask_12 : decode cX7_ask 12 = .ok (.invokestatic 55, 3) := by decide +kernel
theorem dX7_ask_15 : decode cX7_ask 15 = .ok (.ifCond .ne 5, 3) := by decide +kernel
theorem dX7_ask_18 : decode cX7_ask 18 = .ok (.iconst (-1), 1) := by decide +kernel
theorem dX7_ask_19 : decode cX7_ask 19 = .ok (.ireturn, 1) := by decide +kernel
theorem dX7_ask_20 : decode cX7_ask 20 = .ok (.aload_n 0, 1) := by decide +kernel
theorem dX7_ask_21 : decode cX7_ask 21 = .ok (.bipush 8, 2) := by decide +kernel
theorem dX7_ask_23 : decode cX7_ask 23 = .ok (.iload_n 1, 1) := by decide +kernel
theorem dX7_ask_24 : decode cX7_ask 24 = .ok (.iadd, 1) := by decide +kernel
theorem dX7_ask_25 : decode cX7_ask 25 = .ok (.bipush 10, 2) := by decide +kernel
theorem dX7_ask_27 : decode cX7_ask 27 = .ok (.invokevirtual 260, 3) := by decide +kernel
theorem dX7_ask_30 : decode cX7_ask 30 = .ok (.istore_n 3, 1) := by decide +kernel
theorem dX7_ask_31 : decode cX7_ask 31 = .ok (.iload_n 3, 1) := by decide +kernel
theorem dX7_ask_32 : decode cX7_ask 32 = .ok (.invokestatic 199, 3) := by decide +kernel
theorem dX7_ask_35 : decode cX7_ask 35 = .ok (.istore 4, 2) := by decide +kernel
theorem dX7_ask_37 : decode cX7_ask 37 = .ok (.iload 4, 2) := by decide +kernel
theorem dX7_ask_39 : decode cX7_ask 39 = .ok (.istore 5, 2) := by decide +kernel
theorem dX7_ask_41 : decode cX7_ask 41 = .ok (.bipush (-4), 2) := by decide +kernel
theorem dX7_ask_43 : decode cX7_ask 43 = .ok (.istore 6, 2) := by decide +kernel
theorem dX7_ask_45 : decode cX7_ask 45 = .ok (.iconst 0, 1) := by decide +kernel
theorem dX7_ask_46 : decode cX7_ask 46 = .ok (.istore 7, 2) := by decide +kernel
theorem dX7_ask_48 : decode cX7_ask 48 = .ok (.iload 7, 2) := by decide +kernel
theorem dX7_ask_50 : decode cX7_ask 50 = .ok (.bipush 40, 2) := by decide +kernel
theorem dX7_ask_52 : decode cX7_ask 52 = .ok (.if_icmp .gt 118, 3) := by decide +kernel
theorem dX7_ask_55 : decode cX7_ask 55 = .ok (.iconst 0, 1) := by decide +kernel
theorem dX7_ask_56 : decode cX7_ask 56 = .ok (.istore 8, 2) := by decide +kernel
theorem dX7_ask_58 : decode cX7_ask 58 = .ok (.iconst 0, 1) := by decide +kernel
theorem dX7_ask_59 : decode cX7_ask 59 = .ok (.istore 9, 2) := by decide +kernel
theorem dX7_ask_61 : decode cX7_ask 61 = .ok (.iload 9, 2) := by decide +kernel
theorem dX7_ask_63 : decode cX7_ask 63 = .ok (.bipush 9, 2) := by decide +kernel
theorem dX7_ask_65 : decode cX7_ask 65 = .ok (.if_icmp .gt 45, 3) := by decide +kernel
theorem dX7_ask_68 : decode cX7_ask 68 = .ok (.iload 8, 2) := by decide +kernel
theorem dX7_ask_70 : decode cX7_ask 70 = .ok (.iload_n 3, 1) := by decide +kernel
theorem dX7_ask_71 : decode cX7_ask 71 = .ok (.iload 9, 2) := by decide +kernel
theorem dX7_ask_73 : decode cX7_ask 73 = .ok (.ishr, 1) := by decide +kernel
theorem dX7_ask_74 : decode cX7_ask 74 = .ok (.iconst 1, 1) := by decide +kernel
theorem dX7_ask_75 : decode cX7_ask 75 = .ok (.iand, 1) := by decide +kernel
theorem dX7_ask_76 : decode cX7_ask 76 = .ok (.iconst 1, 1) := by decide +kernel
theorem dX7_ask_77 : decode cX7_ask 77 = .ok (.if_icmp .ne 23, 3) := by decide +kernel
theorem dX7_ask_80 : decode cX7_ask 80 = .ok (.aload_n 0, 1) := by decide +kernel
theorem dX7_ask_81 : decode cX7_ask 81 = .ok (.getfield 37, 3) := by decide +kernel
theorem dX7_ask_84 : decode cX7_ask 84 = .ok (.bipush 41, 2) := by decide +kernel
theorem dX7_ask_86 : decode cX7_ask 86 = .ok (.iload 9, 2) := by decide +kernel
theorem dX7_ask_88 : decode cX7_ask 88 = .ok (.imul, 1) := by decide +kernel
theorem dX7_ask_89 : decode cX7_ask 89 = .ok (.iload 7, 2) := by decide +kernel
theorem dX7_ask_91 : decode cX7_ask 91 = .ok (.iadd, 1) := by decide +kernel
theorem dX7_ask_92 : decode cX7_ask 92 = .ok (.iaload, 1) := by decide +kernel
theorem dX7_ask_93 : decode cX7_ask 93 = .ok (.iload_n 1, 1) := by decide +kernel
theorem dX7_ask_94 : decode cX7_ask 94 = .ok (.ishr, 1) := by decide +kernel
theorem dX7_ask_95 : decode cX7_ask 95 = .ok (.iconst 1, 1) := by decide +kernel
theorem dX7_ask_96 : decode cX7_ask 96 = .ok (.iand, 1) := by decide +kernel
theorem dX7_ask_97 : decode cX7_ask 97 = .ok (.goto 4, 3) := by decide +kernel
theorem dX7_ask_100 : decode cX7_ask 100 = .ok (.iconst 0, 1) := by decide +kernel
theorem dX7_ask_101 : decode cX7_ask 101 = .ok (.iadd, 1) := by decide +kernel
theorem dX7_ask_102 : decode cX7_ask 102 = .ok (.istore 8, 2) := by decide +kernel
theorem dX7_ask_104 : decode cX7_ask 104 = .ok (.iinc 9 1, 3) := by decide +kernel
theorem dX7_ask_107 : decode cX7_ask 107 = .ok (.goto (-46), 3) := by decide +kernel
theorem dX7_ask_110 : decode cX7_ask 110 = .ok (.iload 8, 2) := by decide +kernel
theorem dX7_ask_112 : decode cX7_ask 112 = .ok (.iload 4, 2) := by decide +kernel
theorem dX7_ask_114 : decode cX7_ask 114 = .ok (.iload 8, 2) := by decide +kernel
theorem dX7_ask_116 : decode cX7_ask 116 = .ok (.isub, 1) := by decide +kernel
theorem dX7_ask_117 : decode cX7_ask 117 = .ok (.if_icmp .le 8, 3) := by decide +kernel
theorem dX7_ask_120 : decode cX7_ask 120 = .ok (.iload 8, 2) := by decide +kernel
theorem dX7_ask_122 : decode cX7_ask 122 = .ok (.goto 8, 3) := by decide +kernel
theorem dX7_ask_125 : decode cX7_ask 125 = .ok (.iload 4, 2) := by decide +kernel
theorem dX7_ask_127 : decode cX7_ask 127 = .ok (.iload 8, 2) := by decide +kernel
theorem dX7_ask_129 : decode cX7_ask 129 = .ok (.isub, 1) := by decide +kernel
theorem dX7_ask_130 : decode cX7_ask 130 = .ok (.istore 9, 2) := by decide +kernel
theorem dX7_ask_132 : decode cX7_ask 132 = .ok (.iload 9, 2) := by decide +kernel
theorem dX7_ask_134 : decode cX7_ask 134 = .ok (.iload 5, 2) := by decide +kernel
theorem dX7_ask_136 : decode cX7_ask 136 = .ok (.if_icmp .ge 8, 3) := by decide +kernel
theorem dX7_ask_139 : decode cX7_ask 139 = .ok (.iload 7, 2) := by decide +kernel
theorem dX7_ask_141 : decode cX7_ask 141 = .ok (.goto 5, 3) := by decide +kernel
theorem dX7_ask_144 : decode cX7_ask 144 = .ok (.iload 6, 2) := by decide +kernel
theorem dX7_ask_146 : decode cX7_ask 146 = .ok (.istore 6, 2) := by decide +kernel
theorem dX7_ask_148 : decode cX7_ask 148 = .ok (.iload 9, 2) := by decide +kernel
theorem dX7_ask_150 : decode cX7_ask 150 = .ok (.iload 5, 2) := by decide +kernel
theorem dX7_ask_152 : decode cX7_ask 152 = .ok (.if_icmp .ge 8, 3) := by decide +kernel
theorem dX7_ask_155 : decode cX7_ask 155 = .ok (.iload 9, 2) := by decide +kernel
theorem dX7_ask_157 : decode cX7_ask 157 = .ok (.goto 5, 3) := by decide +kernel
theorem dX7_ask_160 : decode cX7_ask 160 = .ok (.iload 5, 2) := by decide +kernel
theorem dX7_ask_162 : decode cX7_ask 162 = .ok (.istore 5, 2) := by decide +kernel
theorem dX7_ask_164 : decode cX7_ask 164 = .ok (.iinc 7 1, 3) := by decide +kernel
theorem dX7_ask_167 : decode cX7_ask 167 = .ok (.goto (-119), 3) := by decide +kernel
theorem dX7_ask_170 : decode cX7_ask 170 = .ok (.iload 6, 2) := by decide +kernel
theorem dX7_ask_172 : decode cX7_ask 172 = .ok (.bipush (-4), 2) := by decide +kernel
theorem dX7_ask_174 : decode cX7_ask 174 = .ok (.if_icmp .eq 7, 3) := by decide +kernel
theorem dX7_ask_177 : decode cX7_ask 177 = .ok (.iload_n 2, 1) := by decide +kernel
theorem dX7_ask_178 : decode cX7_ask 178 = .ok (.ifCond .ne 8, 3) := by decide +kernel
theorem dX7_ask_181 : decode cX7_ask 181 = .ok (.iload 6, 2) := by decide +kernel
theorem dX7_ask_183 : decode cX7_ask 183 = .ok (.goto 5, 3) := by decide +kernel
theorem dX7_ask_186 : decode cX7_ask 186 = .ok (.iload 5, 2) := by decide +kernel
theorem dX7_ask_188 : decode cX7_ask 188 = .ok (.ireturn, 1) := by decide +kernel
theorem dX7_season_0 : decode cX7_season 0 = .ok (.iload_n 2, 1) := by decide +kernel
theorem dX7_season_1 : decode cX7_season 1 = .ok (.i2l, 1) := by decide +kernel
theorem dX7_season_2 : decode cX7_season 2 = .ok (.lconst 1, 1) := by decide +kernel
theorem dX7_season_3 : decode cX7_season 3 = .ok (.ldc2_w 129, 3) := by decide +kernel
theorem dX7_season_6 : decode cX7_season 6 = .ok (.invokestatic 55, 3) := by decide +kernel
theorem dX7_season_9 : decode cX7_season 9 = .ok (.ifCond .eq 13, 3) := by decide +kernel
theorem dX7_season_12 : decode cX7_season 12 = .ok (.iload_n 3, 1) := by decide +kernel
theorem dX7_season_13 : decode cX7_season 13 = .ok (.i2l, 1) := by decide +kernel
theorem dX7_season_14 : decode cX7_season 14 = .ok (.lconst 0, 1) := by decide +kernel
theorem dX7_season_15 : decode cX7_season 15 = .ok (.lconst 1, 1) := by decide +kernel
theorem dX7_season_16 : decode cX7_season 16 = .ok (.invokestatic 55, 3) := by decide +kernel
theorem dX7_season_19 : decode cX7_season 19 = .ok (.ifCond .ne 5, 3) := by decide +kernel
theorem dX7_season_22 : decode cX7_season 22 = .ok (.iconst (-1), 1) := by decide +kernel
theorem dX7_season_23 : decode cX7_season 23 = .ok (.ireturn, 1) := by decide +kernel
theorem dX7_season_24 : decode cX7_season 24 = .ok (.aload_n 0, 1) := by decide +kernel
theorem dX7_season_25 : decode cX7_season 25 = .ok (.getfield 7, 3) := by decide +kernel
theorem dX7_season_28 : decode cX7_season 28 = .ok (.bipush 24, 2) := by decide +kernel
theorem dX7_season_30 : decode cX7_season 30 = .ok (.iaload, 1) := by decide +kernel
theorem dX7_season_31 : decode cX7_season 31 = .ok (.ifCond .ne 6, 3) := by decide +kernel
theorem dX7_season_34 : decode cX7_season 34 = .ok (.bipush (-2), 2) := by decide +kernel
theorem dX7_season_36 : decode cX7_season 36 = .ok (.ireturn, 1) := by decide +kernel
theorem dX7_season_37 : decode cX7_season 37 = .ok (.aload_n 0, 1) := by decide +kernel
theorem dX7_season_38 : decode cX7_season 38 = .ok (.iconst 0, 1) := by decide +kernel
theorem dX7_season_39 : decode cX7_season 39 = .ok (.sipush 212, 3) := by decide +kernel
theorem dX7_season_42 : decode cX7_season 42 = .ok (.invokevirtual 205, 3) := by decide +kernel
theorem dX7_season_45 : decode cX7_season 45 = .ok (.iconst 0, 1) := by decide +kernel
theorem dX7_season_46 : decode cX7_season 46 = .ok (.istore 4, 2) := by decide +kernel
theorem dX7_season_48 : decode cX7_season 48 = .ok (.iload_n 1, 1) := by decide +kernel
theorem dX7_season_49 : decode cX7_season 49 = .ok (.istore 5, 2) := by decide +kernel
theorem dX7_season_51 : decode cX7_season 51 = .ok (.iconst 0, 1) := by decide +kernel
theorem dX7_season_52 : decode cX7_season 52 = .ok (.istore 6, 2) := by decide +kernel
theorem dX7_season_54 : decode cX7_season 54 = .ok (.iload 6, 2) := by decide +kernel
theorem dX7_season_56 : decode cX7_season 56 = .ok (.iload_n 2, 1) := by decide +kernel
theorem dX7_season_57 : decode cX7_season 57 = .ok (.if_icmp .ge 55, 3) := by decide +kernel
theorem dX7_season_60 : decode cX7_season 60 = .ok (.iload 5, 2) := by decide +kernel
theorem dX7_season_62 : decode cX7_season 62 = .ok (.ldc_w 263, 3) := by decide +kernel
theorem dX7_season_65 : decode cX7_season 65 = .ok (.imul, 1) := by decide +kernel
theorem dX7_season_66 : decode cX7_season 66 = .ok (.sipush 12345, 3) := by decide +kernel
theorem dX7_season_69 : decode cX7_season 69 = .ok (.iadd, 1) := by decide +kernel
theorem dX7_season_70 : decode cX7_season 70 = .ok (.istore 5, 2) := by decide +kernel
theorem dX7_season_72 : decode cX7_season 72 = .ok (.iload 4, 2) := by decide +kernel
theorem dX7_season_74 : decode cX7_season 74 = .ok (.aload_n 0, 1) := by decide +kernel
theorem dX7_season_75 : decode cX7_season 75 = .ok (.sipush 212, 3) := by decide +kernel
theorem dX7_season_78 : decode cX7_season 78 = .ok (.iload 5, 2) := by decide +kernel
theorem dX7_season_80 : decode cX7_season 80 = .ok (.bipush 16, 2) := by decide +kernel
theorem dX7_season_82 : decode cX7_season 82 = .ok (.ishr, 1) := by decide +kernel
theorem dX7_season_83 : decode cX7_season 83 = .ok (.sipush 32767, 3) := by decide +kernel
theorem dX7_season_86 : decode cX7_season 86 = .ok (.iand, 1) := by decide +kernel
theorem dX7_season_87 : decode cX7_season 87 = .ok (.bipush 10, 2) := by decide +kernel
theorem dX7_season_89 : decode cX7_season 89 = .ok (.irem, 1) := by decide +kernel
theorem dX7_season_90 : decode cX7_season 90 = .ok (.aload_n 0, 1) := by decide +kernel
theorem dX7_season_91 : decode cX7_season 91 = .ok (.sipush 212, 3) := by decide +kernel
theorem dX7_season_94 : decode cX7_season 94 = .ok (.invokevirtual 151, 3) := by decide +kernel
theorem dX7_season_97 : decode cX7_season 97 = .ok (.invokevirtual 154, 3) := by decide +kernel
theorem dX7_season_100 : decode cX7_season 100 = .ok (.invokestatic 199, 3) := by decide +kernel
theorem dX7_season_103 : decode cX7_season 103 = .ok (.iadd, 1) := by decide +kernel
theorem dX7_season_104 : decode cX7_season 104 = .ok (.istore 4, 2) := by decide +kernel
theorem dX7_season_106 : decode cX7_season 106 = .ok (.iinc 6 1, 3) := by decide +kernel
theorem dX7_season_109 : decode cX7_season 109 = .ok (.goto (-55), 3) := by decide +kernel
theorem dX7_season_112 : decode cX7_season 112 = .ok (.iload_n 3, 1) := by decide +kernel
theorem dX7_season_113 : decode cX7_season 113 = .ok (.ifCond .ne 8, 3) := by decide +kernel
theorem dX7_season_116 : decode cX7_season 116 = .ok (.iload 4, 2) := by decide +kernel
theorem dX7_season_118 : decode cX7_season 118 = .ok (.goto 12, 3) := by decide +kernel
theorem dX7_season_121 : decode cX7_season 121 = .ok (.aload_n 0, 1) := by decide +kernel
theorem dX7_season_122 : decode cX7_season 122 = .ok (.sipush 212, 3) := by decide +kernel
theorem dX7_season_125 : decode cX7_season 125 = .ok (.bipush 16, 2) := by decide +kernel
theorem dX7_season_127 : decode cX7_season 127 = .ok (.invokevirtual 157, 3) := by decide +kernel
theorem dX7_season_130 : decode cX7_season 130 = .ok (.ireturn, 1) := by decide +kernel
theorem dX7_keep_0 : decode cX7_keep 0 = .ok (.iload_n 1, 1) := by decide +kernel
theorem dX7_keep_1 : decode cX7_keep 1 = .ok (.i2l, 1) := by decide +kernel
theorem dX7_keep_2 : decode cX7_keep 2 = .ok (.lconst 0, 1) := by decide +kernel
theorem dX7_keep_3 : decode cX7_keep 3 = .ok (.lconst 1, 1) := by decide +kernel
theorem dX7_keep_4 : decode cX7_keep 4 = .ok (.invokestatic 55, 3) := by decide +kernel
theorem dX7_keep_7 : decode cX7_keep 7 = .ok (.ifCond .ne 5, 3) := by decide +kernel
theorem dX7_keep_10 : decode cX7_keep 10 = .ok (.iconst (-1), 1) := by decide +kernel
theorem dX7_keep_11 : decode cX7_keep 11 = .ok (.ireturn, 1) := by decide +kernel
theorem dX7_keep_12 : decode cX7_keep 12 = .ok (.aload_n 0, 1) := by decide +kernel
theorem dX7_keep_13 : decode cX7_keep 13 = .ok (.iconst 0, 1) := by decide +kernel
theorem dX7_keep_14 : decode cX7_keep 14 = .ok (.bipush 53, 2) := by decide +kernel
theorem dX7_keep_16 : decode cX7_keep 16 = .ok (.iload_n 1, 1) := by decide +kernel
theorem dX7_keep_17 : decode cX7_keep 17 = .ok (.iconst 1, 1) := by decide +kernel
theorem dX7_keep_18 : decode cX7_keep 18 = .ok (.iadd, 1) := by decide +kernel
theorem dX7_keep_19 : decode cX7_keep 19 = .ok (.imul, 1) := by decide +kernel
theorem dX7_keep_20 : decode cX7_keep 20 = .ok (.invokevirtual 205, 3) := by decide +kernel
theorem dX7_keep_23 : decode cX7_keep 23 = .ok (.aload_n 0, 1) := by decide +kernel
theorem dX7_keep_24 : decode cX7_keep 24 = .ok (.getfield 40, 3) := by decide +kernel
theorem dX7_keep_27 : decode cX7_keep 27 = .ok (.iload_n 1, 1) := by decide +kernel
theorem dX7_keep_28 : decode cX7_keep 28 = .ok (.baload, 1) := by decide +kernel
theorem dX7_keep_29 : decode cX7_keep 29 = .ok (.ifCond .eq 7, 3) := by decide +kernel
theorem dX7_keep_32 : decode cX7_keep 32 = .ok (.iconst 1, 1) := by decide +kernel
theorem dX7_keep_33 : decode cX7_keep 33 = .ok (.goto 4, 3) := by decide +kernel
theorem dX7_keep_36 : decode cX7_keep 36 = .ok (.iconst 0, 1) := by decide +kernel
theorem dX7_keep_37 : decode cX7_keep 37 = .ok (.istore_n 2, 1) := by decide +kernel
theorem dX7_keep_38 : decode cX7_keep 38 = .ok (.aload_n 0, 1) := by decide +kernel
theorem dX7_keep_39 : decode cX7_keep 39 = .ok (.getfield 40, 3) := by decide +kernel
theorem dX7_keep_42 : decode cX7_keep 42 = .ok (.iload_n 1, 1) := by decide +kernel
theorem dX7_keep_43 : decode cX7_keep 43 = .ok (.iconst 1, 1) := by decide +kernel
theorem dX7_keep_44 : decode cX7_keep 44 = .ok (.bastore, 1) := by decide +kernel
theorem dX7_keep_45 : decode cX7_keep 45 = .ok (.iload_n 2, 1) := by decide +kernel
theorem dX7_keep_46 : decode cX7_keep 46 = .ok (.ireturn, 1) := by decide +kernel
theorem dX7_back_0 : decode cX7_back 0 = .ok (.iload_n 1, 1) := by decide +kernel
theorem dX7_back_1 : decode cX7_back 1 = .ok (.i2l, 1) := by decide +kernel
theorem dX7_back_2 : decode cX7_back 2 = .ok (.lconst 0, 1) := by decide +kernel
theorem dX7_back_3 : decode cX7_back 3 = .ok (.lconst 1, 1) := by decide +kernel
theorem dX7_back_4 : decode cX7_back 4 = .ok (.invokestatic 55, 3) := by decide +kernel
theorem dX7_back_7 : decode cX7_back 7 = .ok (.ifCond .ne 5, 3) := by decide +kernel
theorem dX7_back_10 : decode cX7_back 10 = .ok (.iconst (-1), 1) := by decide +kernel
theorem dX7_back_11 : decode cX7_back 11 = .ok (.ireturn, 1) := by decide +kernel
theorem dX7_back_12 : decode cX7_back 12 = .ok (.aload_n 0, 1) := by decide +kernel
theorem dX7_back_13 : decode cX7_back 13 = .ok (.getfield 40, 3) := by decide +kernel
theorem dX7_back_16 : decode cX7_back 16 = .ok (.iload_n 1, 1) := by decide +kernel
theorem dX7_back_17 : decode cX7_back 17 = .ok (.baload, 1) := by decide +kernel
theorem dX7_back_18 : decode cX7_back 18 = .ok (.ifCond .ne 6, 3) := by decide +kernel
theorem dX7_back_21 : decode cX7_back 21 = .ok (.bipush (-2), 2) := by decide +kernel
theorem dX7_back_23 : decode cX7_back 23 = .ok (.ireturn, 1) := by decide +kernel
theorem dX7_back_24 : decode cX7_back 24 = .ok (.aload_n 0, 1) := by decide +kernel
theorem dX7_back_25 : decode cX7_back 25 = .ok (.bipush 53, 2) := by decide +kernel
theorem dX7_back_27 : decode cX7_back 27 = .ok (.iload_n 1, 1) := by decide +kernel
theorem dX7_back_28 : decode cX7_back 28 = .ok (.iconst 1, 1) := by decide +kernel
theorem dX7_back_29 : decode cX7_back 29 = .ok (.iadd, 1) := by decide +kernel
theorem dX7_back_30 : decode cX7_back 30 = .ok (.imul, 1) := by decide +kernel
theorem dX7_back_31 : decode cX7_back 31 = .ok (.iconst 0, 1) := by decide +kernel
theorem dX7_back_32 : decode cX7_back 32 = .ok (.invokevirtual 205, 3) := by decide +kernel
theorem dX7_back_35 : decode cX7_back 35 = .ok (.aload_n 0, 1) := by decide +kernel
theorem dX7_back_36 : decode cX7_back 36 = .ok (.getfield 7, 3) := by decide +kernel
theorem dX7_back_39 : decode cX7_back 39 = .ok (.bipush 52, 2) := by decide +kernel
theorem dX7_back_41 : decode cX7_back 41 = .ok (.iaload, 1) := by decide +kernel
theorem dX7_back_42 : decode cX7_back 42 = .ok (.ireturn, 1) := by decide +kernel
theorem dX7_sheet_0 : decode cX7_sheet 0 = .ok (.iload_n 1, 1) := by decide +kernel
theorem dX7_sheet_1 : decode cX7_sheet 1 = .ok (.i2l, 1) := by decide +kernel
theorem dX7_sheet_2 : decode cX7_sheet 2 = .ok (.lconst 0, 1) := by decide +kernel
theorem dX7_sheet_3 : decode cX7_sheet 3 = .ok (.ldc2_w 169, 3) := by decide +kernel
theorem dX7_sheet_6 : decode cX7_sheet 6 = .ok (.invokestatic 55, 3) := by decide +kernel
theorem dX7_sheet_9 : decode cX7_sheet 9 = .ok (.ifCond .eq 21, 3) := by decide +kernel
theorem dX7_sheet_12 : decode cX7_sheet 12 = .ok (.iload_n 2, 1) := by decide +kernel
theorem dX7_sheet_13 : decode cX7_sheet 13 = .ok (.i2l, 1) := by decide +kernel
theorem dX7_sheet_14 : decode cX7_sheet 14 = .ok (.lconst 0, 1) := by decide +kernel
theorem dX7_sheet_15 : decode cX7_sheet 15 = .ok (.ldc2_w 224, 3) := by decide +kernel
theorem dX7_sheet_18 : decode cX7_sheet 18 = .ok (.invokestatic 55, 3) := by decide +kernel
theorem dX7_sheet_21 : decode cX7_sheet 21 = .ok (.ifCond .eq 9, 3) := by decide +kernel
theorem dX7_sheet_24 : decode cX7_sheet 24 = .ok (.iload_n 3, 1) := by decide +kernel
theorem dX7_sheet_25 : decode cX7_sheet 25 = .ok (.bipush 40, 2) := by decide +kernel
theorem dX7_sheet_27 : decode cX7_sheet 27 = .ok (.if_icmp .le 5, 3) := by decide +kernel
theorem dX7_sheet_30 : decode cX7_sheet 30 = .ok (.iconst (-1), 1) := by decide +kernel
theorem dX7_sheet_31 : decode cX7_sheet 31 = .ok (.ireturn, 1) := by decide +kernel
theorem dX7_sheet_32 : decode cX7_sheet 32 = .ok (.iload_n 3, 1) := by decide +kernel
theorem dX7_sheet_33 : decode cX7_sheet 33 = .ok (.ifCond .ge 6, 3) := by decide +kernel
theorem dX7_sheet_36 : decode cX7_sheet 36 = .ok (.bipush (-14), 2) := by decide +kernel
theorem dX7_sheet_38 : decode cX7_sheet 38 = .ok (.ireturn, 1) := by decide +kernel
theorem dX7_sheet_39 : decode cX7_sheet 39 = .ok (.aload_n 0, 1) := by decide +kernel
theorem dX7_sheet_40 : decode cX7_sheet 40 = .ok (.getfield 44, 3) := by decide +kernel
theorem dX7_sheet_43 : decode cX7_sheet 43 = .ok (.iload_n 1, 1) := by decide +kernel
theorem dX7_sheet_44 : decode cX7_sheet 44 = .ok (.iload_n 2, 1) := by decide +kernel
theorem dX7_sheet_45 : decode cX7_sheet 45 = .ok (.iastore, 1) := by decide +kernel
theorem dX7_sheet_46 : decode cX7_sheet 46 = .ok (.aload_n 0, 1) := by decide +kernel
theorem dX7_sheet_47 : decode cX7_sheet 47 = .ok (.getfield 47, 3) := by decide +kernel
theorem dX7_sheet_50 : decode cX7_sheet 50 = .ok (.iload_n 1, 1) := by decide +kernel
theorem dX7_sheet_51 : decode cX7_sheet 51 = .ok (.iload_n 3, 1) := by decide +kernel
theorem dX7_sheet_52 : decode cX7_sheet 52 = .ok (.iastore, 1) := by decide +kernel
theorem dX7_sheet_53 : decode cX7_sheet 53 = .ok (.iconst 0, 1) := by decide +kernel
theorem dX7_sheet_54 : decode cX7_sheet 54 = .ok (.istore 4, 2) := by decide +kernel
theorem dX7_sheet_56 : decode cX7_sheet 56 = .ok (.iload 4, 2) := by decide +kernel
theorem dX7_sheet_58 : decode cX7_sheet 58 = .ok (.bipush 40, 2) := by decide +kernel
theorem dX7_sheet_60 : decode cX7_sheet 60 = .ok (.if_icmp .ge 22, 3) := by decide +kernel
theorem dX7_sheet_63 : decode cX7_sheet 63 = .ok (.aload_n 0, 1) := by decide +kernel
theorem dX7_sheet_64 : decode cX7_sheet 64 = .ok (.getfield 50, 3) := by decide +kernel
theorem dX7_sheet_67 : decode cX7_sheet 67 = .ok (.bipush 40, 2) := by decide +kernel
theorem dX7_sheet_69 : decode cX7_sheet 69 = .ok (.iload_n 1, 1) := by decide +kernel
theorem dX7_sheet_70 : decode cX7_sheet 70 = .ok (.imul, 1) := by decide +kernel
theorem dX7_sheet_71 : decode cX7_sheet 71 = .ok (.iload 4, 2) := by decide +kernel
theorem dX7_sheet_73 : decode cX7_sheet 73 = .ok (.iadd, 1) := by decide +kernel
theorem dX7_sheet_74 : decode cX7_sheet 74 = .ok (.iconst 0, 1) := by decide +kernel
theorem dX7_sheet_75 : decode cX7_sheet 75 = .ok (.iastore, 1) := by decide +kernel
theorem dX7_sheet_76 : decode cX7_sheet 76 = .ok (.iinc 4 1, 3) := by decide +kernel
theorem dX7_sheet_79 : decode cX7_sheet 79 = .ok (.goto (-23), 3) := by decide +kernel
theorem dX7_sheet_82 : decode cX7_sheet 82 = .ok (.iconst 1, 1) := by decide +kernel
theorem dX7_sheet_83 : decode cX7_sheet 83 = .ok (.ireturn, 1) := by decide +kernel
theorem dX7_lay_0 : decode cX7_lay 0 = .ok (.iload_n 1, 1) := by decide +kernel
theorem dX7_lay_1 : decode cX7_lay 1 = .ok (.i2l, 1) := by decide +kernel
theorem dX7_lay_2 : decode cX7_lay 2 = .ok (.lconst 0, 1) := by decide +kernel
theorem dX7_lay_3 : decode cX7_lay 3 = .ok (.ldc2_w 169, 3) := by decide +kernel
theorem dX7_lay_6 : decode cX7_lay 6 = .ok (.invokestatic 55, 3) := by decide +kernel
theorem dX7_lay_9 : decode cX7_lay 9 = .ok (.ifCond .ne 5, 3) := by decide +kernel
theorem dX7_lay_12 : decode cX7_lay 12 = .ok (.iconst (-1), 1) := by decide +kernel
theorem dX7_lay_13 : decode cX7_lay 13 = .ok (.ireturn, 1) := by decide +kernel
theorem dX7_lay_14 : decode cX7_lay 14 = .ok (.aload_n 0, 1) := by decide +kernel
theorem dX7_lay_15 : decode cX7_lay 15 = .ok (.getfield 44, 3) := by decide +kernel
theorem dX7_lay_18 : decode cX7_lay 18 = .ok (.iload_n 1, 1) := by decide +kernel
theorem dX7_lay_19 : decode cX7_lay 19 = .ok (.iaload, 1) := by decide +kernel
theorem dX7_lay_20 : decode cX7_lay 20 = .ok (.bipush (-4), 2) := by decide +kernel
theorem dX7_lay_22 : decode cX7_lay 22 = .ok (.if_icmp .ne 6, 3) := by decide +kernel
theorem dX7_lay_25 : decode cX7_lay 25 = .ok (.bipush (-11), 2) := by decide +kernel
theorem dX7_lay_27 : decode cX7_lay 27 = .ok (.ireturn, 1) := by decide +kernel
theorem dX7_lay_28 : decode cX7_lay 28 = .ok (.iload_n 2, 1) := by decide +kernel
theorem dX7_lay_29 : decode cX7_lay 29 = .ok (.i2l, 1) := by decide +kernel
theorem dX7_lay_30 : decode cX7_lay 30 = .ok (.lconst 0, 1) := by decide +kernel
theorem dX7_lay_31 : decode cX7_lay 31 = .ok (.aload_n 0, 1) := by decide +kernel
theorem dX7_lay_32 : decode cX7_lay 32 = .ok (.getfield 47, 3) := by decide +kernel
theorem dX7_lay_35 : decode cX7_lay 35 = .ok (.iload_n 1, 1) := by decide +kernel
theorem dX7_lay_36 : decode cX7_lay 36 = .ok (.iaload, 1) := by decide +kernel
theorem dX7_lay_37 : decode cX7_lay 37 = .ok (.iconst 1, 1) := by decide +kernel
theorem dX7_lay_38 : decode cX7_lay 38 = .ok (.isub, 1) := by decide +kernel
theorem dX7_lay_39 : decode cX7_lay 39 = .ok (.i2l, 1) := by decide +kernel
theorem dX7_lay_40 : decode cX7_lay 40 = .ok (.invokestatic 55, 3) := by decide +kernel
theorem dX7_lay_43 : decode cX7_lay 43 = .ok (.ifCond .ne 6, 3) := by decide +kernel
theorem dX7_lay_46 : decode cX7_lay 46 = .ok (.bipush (-12), 2) := by decide +kernel
theorem dX7_lay_48 : decode cX7_lay 48 = .ok (.ireturn, 1) := by decide +kernel
theorem dX7_lay_49 : decode cX7_lay 49 = .ok (.aload_n 0, 1) := by decide +kernel
theorem dX7_lay_50 : decode cX7_lay 50 = .ok (.getfield 50, 3) := by decide +kernel
theorem dX7_lay_53 : decode cX7_lay 53 = .ok (.bipush 40, 2) := by decide +kernel
theorem dX7_lay_55 : decode cX7_lay 55 = .ok (.iload_n 1, 1) := by decide +kernel
theorem dX7_lay_56 : decode cX7_lay 56 = .ok (.imul, 1) := by decide +kernel
theorem dX7_lay_57 : decode cX7_lay 57 = .ok (.iload_n 2, 1) := by decide +kernel
theorem dX7_lay_58 : decode cX7_lay 58 = .ok (.iadd, 1) := by decide +kernel
theorem dX7_lay_59 : decode cX7_lay 59 = .ok (.aload_n 0, 1) := by decide +kernel
theorem dX7_lay_60 : decode cX7_lay 60 = .ok (.getfield 44, 3) := by decide +kernel
theorem dX7_lay_63 : decode cX7_lay 63 = .ok (.iload_n 1, 1) := by decide +kernel
theorem dX7_lay_64 : decode cX7_lay 64 = .ok (.iaload, 1) := by decide +kernel
theorem dX7_lay_65 : decode cX7_lay 65 = .ok (.ifCond .ne 13, 3) := by decide +kernel
theorem dX7_lay_68 : decode cX7_lay 68 = .ok (.iload_n 3, 1) := by decide +kernel
theorem dX7_lay_69 : decode cX7_lay 69 = .ok (.bipush 16, 2) := by decide +kernel
theorem dX7_lay_71 : decode cX7_lay 71 = .ok (.ishl, 1) := by decide +kernel
theorem dX7_lay_72 : decode cX7_lay 72 = .ok (.bipush 16, 2) := by decide +kernel
theorem dX7_lay_74 : decode cX7_lay 74 = .ok (.ishr, 1) := by decide +kernel
theorem dX7_lay_75 : decode cX7_lay 75 = .ok (.goto 4, 3) := by decide +kernel
theorem dX7_lay_78 : decode cX7_lay 78 = .ok (.iload_n 3, 1) := by decide +kernel
theorem dX7_lay_79 : decode cX7_lay 79 = .ok (.iastore, 1) := by decide +kernel
theorem dX7_lay_80 : decode cX7_lay 80 = .ok (.iconst 1, 1) := by decide +kernel
theorem dX7_lay_81 : decode cX7_lay 81 = .ok (.ireturn, 1) := by decide +kernel
theorem dX7_read_0 : decode cX7_read 0 = .ok (.iload_n 1, 1) := by decide +kernel
theorem dX7_read_1 : decode cX7_read 1 = .ok (.i2l, 1) := by decide +kernel
theorem dX7_read_2 : decode cX7_read 2 = .ok (.lconst 0, 1) := by decide +kernel
theorem dX7_read_3 : decode cX7_read 3 = .ok (.ldc2_w 169, 3) := by decide +kernel
theorem dX7_read_6 : decode cX7_read 6 = .ok (.invokestatic 55, 3) := by decide +kernel
theorem dX7_read_9 : decode cX7_read 9 = .ok (.ifCond .eq 28, 3) := by decide +kernel
theorem dX7_read_12 : decode cX7_read 12 = .ok (.iload_n 2, 1) := by decide +kernel
theorem dX7_read_13 : decode cX7_read 13 = .ok (.i2l, 1) := by decide +kernel
theorem dX7_read_14 : decode cX7_read 14 = .ok (.lconst 0, 1) := by decide +kernel
theorem dX7_read_15 : decode cX7_read 15 = .ok (.ldc2_w 224, 3) := by decide +kernel
theorem dX7_read_18 : decode cX7_read 18 = .ok (.invokestatic 55, 3) := by decide +kernel
theorem dX7_read_21 : decode cX7_read 21 = .ok (.ifCond .eq 16, 3) := by decide +kernel
theorem dX7_read_24 : decode cX7_read 24 = .ok (.iload 4, 2) := by decide +kernel
theorem dX7_read_26 : decode cX7_read 26 = .ok (.i2l, 1) := by decide +kernel
theorem dX7_read_27 : decode cX7_read 27 = .ok (.lconst 0, 1) := by decide +kernel
theorem dX7_read_28 : decode cX7_read 28 = .ok (.ldc2_w 177, 3) := by decide +kernel
theorem dX7_read_31 : decode cX7_read 31 = .ok (.invokestatic 55, 3) := by decide +kernel
theorem dX7_read_34 : decode cX7_read 34 = .ok (.ifCond .ne 5, 3) := by decide +kernel
theorem dX7_read_37 : decode cX7_read 37 = .ok (.iconst (-1), 1) := by decide +kernel
theorem dX7_read_38 : decode cX7_read 38 = .ok (.ireturn, 1) := by decide +kernel
theorem dX7_read_39 : decode cX7_read 39 = .ok (.aload_n 0, 1) := by decide +kernel
theorem dX7_read_40 : decode cX7_read 40 = .ok (.iconst 0, 1) := by decide +kernel
theorem dX7_read_41 : decode cX7_read 41 = .ok (.sipush 159, 3) := by decide +kernel
theorem dX7_read_44 : decode cX7_read 44 = .ok (.invokevirtual 205, 3) := by decide +kernel
theorem dX7_read_47 : decode cX7_read 47 = .ok (.iconst 0, 1) := by decide +kernel
theorem dX7_read_48 : decode cX7_read 48 = .ok (.istore 5, 2) := by decide +kernel
theorem dX7_read_50 : decode cX7_read 50 = .ok (.iconst 0, 1) := by decide +kernel
theorem dX7_read_51 : decode cX7_read 51 = .ok (.istore 6, 2) := by decide +kernel
theorem dX7_read_53 : decode cX7_read 53 = .ok (.iconst 0, 1) := by decide +kernel
theorem dX7_read_54 : decode cX7_read 54 = .ok (.istore 7, 2) := by decide +kernel
theorem dX7_read_56 : decode cX7_read 56 = .ok (.iload 7, 2) := by decide +kernel
theorem dX7_read_58 : decode cX7_read 58 = .ok (.iconst 2, 1) := by decide +kernel
theorem dX7_read_59 : decode cX7_read 59 = .ok (.iload 4, 2) := by decide +kernel
theorem dX7_read_61 : decode cX7_read 61 = .ok (.imul, 1) := by decide +kernel
theorem dX7_read_62 : decode cX7_read 62 = .ok (.if_icmp .ge 136, 3) := by decide +kernel
theorem dX7_read_65 : decode cX7_read 65 = .ok (.iload 5, 2) := by decide +kernel
theorem dX7_read_67 : decode cX7_read 67 = .ok (.ifCond .ne 131, 3) := by decide +kernel
theorem dX7_read_70 : decode cX7_read 70 = .ok (.aload_n 0, 1) := by decide +kernel
theorem dX7_read_71 : decode cX7_read 71 = .ok (.getfield 44, 3) := by decide +kernel
theorem dX7_read_74 : decode cX7_read 74 = .ok (.iload_n 1, 1) := by decide +kernel
theorem dX7_read_75 : decode cX7_read 75 = .ok (.iaload, 1) := by decide +kernel
theorem dX7_read_76 : decode cX7_read 76 = .ok (.bipush (-4), 2) := by decide +kernel
theorem dX7_read_78 : decode cX7_read 78 = .ok (.if_icmp .ne 7, 3) := by decide +kernel
theorem dX7_read_81 : decode cX7_read 81 = .ok (.iconst 1, 1) := by decide +kernel
theorem dX7_read_82 : decode cX7_read 82 = .ok (.goto 44, 3) := by decide +kernel
theorem dX7_read_85 : decode cX7_read 85 = .ok (.aload_n 0, 1) := by decide +kernel
theorem dX7_read_86 : decode cX7_read 86 = .ok (.getfield 44, 3) := by decide +kernel
theorem dX7_read_89 : decode cX7_read 89 = .ok (.iload_n 1, 1) := by decide +kernel
theorem dX7_read_90 : decode cX7_read 90 = .ok (.iaload, 1) := by decide +kernel
theorem dX7_read_91 : decode cX7_read 91 = .ok (.iload_n 2, 1) := by decide +kernel
theorem dX7_read_92 : decode cX7_read 92 = .ok (.if_icmp .eq 7, 3) := by decide +kernel
theorem dX7_read_95 : decode cX7_read 95 = .ok (.iconst 3, 1) := by decide +kernel
theorem dX7_read_96 : decode cX7_read 96 = .ok (.goto 30, 3) := by decide +kernel
theorem dX7_read_99 : decode cX7_read 99 = .ok (.iload_n 3, 1) := by decide +kernel
theorem dX7_read_100 : decode cX7_read 100 = .ok (.i2l, 1) := by decide +kernel
theorem dX7_read_101 : decode cX7_read 101 = .ok (.iload 7, 2) := by decide +kernel
theorem dX7_read_103 : decode cX7_read 103 = .ok (.i2l, 1) := by decide +kernel
theorem dX7_read_104 : decode cX7_read 104 = .ok (.ladd, 1) := by decide +kernel
theorem dX7_read_105 : decode cX7_read 105 = .ok (.lconst 0, 1) := by decide +kernel
theorem dX7_read_106 : decode cX7_read 106 = .ok (.aload_n 0, 1) := by decide +kernel
theorem dX7_read_107 : decode cX7_read 107 = .ok (.getfield 47, 3) := by decide +kernel
theorem dX7_read_110 : decode cX7_read 110 = .ok (.iload_n 1, 1) := by decide +kernel
theorem dX7_read_111 : decode cX7_read 111 = .ok (.iaload, 1) := by decide +kernel
theorem dX7_read_112 : decode cX7_read 112 = .ok (.iconst 1, 1) := by decide +kernel
theorem dX7_read_113 : decode cX7_read 113 = .ok (.isub, 1) := by decide +kernel
theorem dX7_read_114 : decode cX7_read 114 = .ok (.i2l, 1) := by decide +kernel
theorem dX7_read_115 : decode cX7_read 115 = .ok (.invokestatic 55, 3) := by decide +kernel
theorem dX7_read_118 : decode cX7_read 118 = .ok (.ifCond .ne 7, 3) := by decide +kernel
theorem dX7_read_121 : decode cX7_read 121 = .ok (.iconst 2, 1) := by decide +kernel
theorem dX7_read_122 : decode cX7_read 122 = .ok (.goto 4, 3) := by decide +kernel
theorem dX7_read_125 : decode cX7_read 125 = .ok (.iconst 0, 1) := by decide +kernel
theorem dX7_read_126 : decode cX7_read 126 = .ok (.istore 5, 2) := by decide +kernel
theorem dX7_read_128 : decode cX7_read 128 = .ok (.iload 5, 2) := by decide +kernel
theorem dX7_read_130 : decode cX7_read 130 = .ok (.ifCond .ne 62, 3) := by decide +kernel
theorem dX7_read_133 : decode cX7_read 133 = .ok (.iload 7, 2) := by decide +kernel
theorem dX7_read_135 : decode cX7_read 135 = .ok (.iconst 2, 1) := by decide +kernel
theorem dX7_read_136 : decode cX7_read 136 = .ok (.irem, 1) := by decide +kernel
theorem dX7_read_137 : decode cX7_read 137 = .ok (.iconst 1, 1) := by decide +kernel
theorem dX7_read_138 : decode cX7_read 138 = .ok (.if_icmp .ne 54, 3) := by decide +kernel
theorem dX7_read_141 : decode cX7_read 141 = .ok (.bipush 40, 2) := by decide +kernel
theorem dX7_read_143 : decode cX7_read 143 = .ok (.iload_n 1, 1) := by decide +kernel
theorem dX7_read_144 : decode cX7_read 144 = .ok (.imul, 1) := by decide +kernel
theorem dX7_read_145 : decode cX7_read 145 = .ok (.iload_n 3, 1) := by decide +kernel
theorem dX7_read_146 : decode cX7_read 146 = .ok (.iadd, 1) := by decide +kernel
theorem dX7_read_147 : decode cX7_read 147 = .ok (.iload 7, 2) := by decide +kernel
theorem dX7_read_149 : decode cX7_read 149 = .ok (.iadd, 1) := by decide +kernel
theorem dX7_read_150 : decode cX7_read 150 = .ok (.istore 8, 2) := by decide +kernel
theorem dX7_read_152 : decode cX7_read 152 = .ok (.aload_n 0, 1) := by decide +kernel
theorem dX7_read_153 : decode cX7_read 153 = .ok (.aload_n 0, 1) := by decide +kernel
theorem dX7_read_154 : decode cX7_read 154 = .ok (.getfield 50, 3) := by decide +kernel
theorem dX7_read_157 : decode cX7_read 157 = .ok (.iload 8, 2) := by decide +kernel
theorem dX7_read_159 : decode cX7_read 159 = .ok (.iconst 1, 1) := by decide +kernel
theorem dX7_read_160 : decode cX7_read 160 = .ok (.isub, 1) := by decide +kernel
theorem dX7_read_161 : decode cX7_read 161 = .ok (.iaload, 1) := by decide +kernel
theorem dX7_read_162 : decode cX7_read 162 = .ok (.aload_n 0, 1) := by decide +kernel
theorem dX7_read_163 : decode cX7_read 163 = .ok (.getfield 50, 3) := by decide +kernel
theorem dX7_read_166 : decode cX7_read 166 = .ok (.iload 8, 2) := by decide +kernel
theorem dX7_read_168 : decode cX7_read 168 = .ok (.iaload, 1) := by decide +kernel
theorem dX7_read_169 : decode cX7_read 169 = .ok (.invokevirtual 191, 3) := by decide +kernel
theorem dX7_read_172 : decode cX7_read 172 = .ok (.ifCond .ge 17, 3) := by decide +kernel
theorem dX7_read_175 : decode cX7_read 175 = .ok (.aload_n 0, 1) := by decide +kernel
theorem dX7_read_176 : decode cX7_read 176 = .ok (.sipush 159, 3) := by decide +kernel
theorem dX7_read_179 : decode cX7_read 179 = .ok (.iconst 0, 1) := by decide +kernel
theorem dX7_read_180 : decode cX7_read 180 = .ok (.invokevirtual 205, 3) := by decide +kernel
theorem dX7_read_183 : decode cX7_read 183 = .ok (.bipush (-20), 2) := by decide +kernel
theorem dX7_read_185 : decode cX7_read 185 = .ok (.iload 6, 2) := by decide +kernel
theorem dX7_read_187 : decode cX7_read 187 = .ok (.isub, 1) := by decide +kernel
theorem dX7_read_188 : decode cX7_read 188 = .ok (.ireturn, 1) := by decide +kernel
theorem dX7_read_189 : decode cX7_read 189 = .ok (.iinc 6 1, 3) := by decide +kernel
theorem dX7_read_192 : decode cX7_read 192 = .ok (.iinc 7 1, 3) := by decide +kernel
theorem dX7_read_195 : decode cX7_read 195 = .ok (.goto (-139), 3) := by decide +kernel
theorem dX7_read_198 : decode cX7_read 198 = .ok (.aload_n 0, 1) := by decide +kernel
theorem dX7_read_199 : decode cX7_read 199 = .ok (.iload 5, 2) := by decide +kernel
theorem dX7_read_201 : decode cX7_read 201 = .ok (.putfield 264, 3) := by decide +kernel
theorem dX7_read_204 : decode cX7_read 204 = .ok (.iload 6, 2) := by decide +kernel
theorem dX7_read_206 : decode cX7_read 206 = .ok (.ireturn, 1) := by decide +kernel
theorem dX7_torn_0 : decode cX7_torn 0 = .ok (.aload_n 0, 1) := by decide +kernel
theorem dX7_torn_1 : decode cX7_torn 1 = .ok (.getfield 264, 3) := by decide +kernel
theorem dX7_torn_4 : decode cX7_torn 4 = .ok (.ireturn, 1) := by decide +kernel
theorem dX7_count_0 : decode cX7_count 0 = .ok (.iconst 0, 1) := by decide +kernel
theorem dX7_count_1 : decode cX7_count 1 = .ok (.istore_n 2, 1) := by decide +kernel
theorem dX7_count_2 : decode cX7_count 2 = .ok (.iconst 0, 1) := by decide +kernel
theorem dX7_count_3 : decode cX7_count 3 = .ok (.istore_n 3, 1) := by decide +kernel
theorem dX7_count_4 : decode cX7_count 4 = .ok (.iload_n 3, 1) := by decide +kernel
theorem dX7_count_5 : decode cX7_count 5 = .ok (.aload_n 0, 1) := by decide +kernel
theorem dX7_count_6 : decode cX7_count 6 = .ok (.getfield 7, 3) := by decide +kernel
theorem dX7_count_9 : decode cX7_count 9 = .ok (.bipush 49, 2) := by decide +kernel
theorem dX7_count_11 : decode cX7_count 11 = .ok (.iaload, 1) := by decide +kernel
theorem dX7_count_12 : decode cX7_count 12 = .ok (.if_icmp .ge 21, 3) := by decide +kernel
theorem dX7_count_15 : decode cX7_count 15 = .ok (.iload_n 2, 1) := by decide +kernel
theorem dX7_count_16 : decode cX7_count 16 = .ok (.aload_n 0, 1) := by decide +kernel
theorem dX7_count_17 : decode cX7_count 17 = .ok (.getfield 7, 3) := by decide +kernel
theorem dX7_count_20 : decode cX7_count 20 = .ok (.bipush 25, 2) := by decide +kernel
theorem dX7_count_22 : decode cX7_count 22 = .ok (.iload_n 3, 1) := by decide +kernel
theorem dX7_count_23 : decode cX7_count 23 = .ok (.iadd, 1) := by decide +kernel
theorem dX7_count_24 : decode cX7_count 24 = .ok (.iaload, 1) := by decide +kernel
theorem dX7_count_25 : decode cX7_count 25 = .ok (.iadd, 1) := by decide +kernel
theorem dX7_count_26 : decode cX7_count 26 = .ok (.istore_n 2, 1) := by decide +kernel
theorem dX7_count_27 : decode cX7_count 27 = .ok (.iinc 3 1, 3) := by decide +kernel
theorem dX7_count_30 : decode cX7_count 30 = .ok (.goto (-26), 3) := by decide +kernel
theorem dX7_count_33 : decode cX7_count 33 = .ok (.iload_n 1, 1) := by decide +kernel
theorem dX7_count_34 : decode cX7_count 34 = .ok (.tableswitch 110 0 5 #[38, 43, 73, 78, 101, 108], 38) := by decide +kernel
theorem dX7_count_72 : decode cX7_count 72 = .ok (.aload_n 0, 1) := by decide +kernel
theorem dX7_count_73 : decode cX7_count 73 = .ok (.getfield 126, 3) := by decide +kernel
theorem dX7_count_76 : decode cX7_count 76 = .ok (.ireturn, 1) := by decide +kernel
theorem dX7_count_77 : decode cX7_count 77 = .ok (.aload_n 0, 1) := by decide +kernel
theorem dX7_count_78 : decode cX7_count 78 = .ok (.getfield 40, 3) := by decide +kernel
theorem dX7_count_81 : decode cX7_count 81 = .ok (.iconst 0, 1) := by decide +kernel
theorem dX7_count_82 : decode cX7_count 82 = .ok (.baload, 1) := by decide +kernel
theorem dX7_count_83 : decode cX7_count 83 = .ok (.ifCond .eq 7, 3) := by decide +kernel
theorem dX7_count_86 : decode cX7_count 86 = .ok (.iconst 1, 1) := by decide +kernel
theorem dX7_count_87 : decode cX7_count 87 = .ok (.goto 4, 3) := by decide +kernel
theorem dX7_count_90 : decode cX7_count 90 = .ok (.iconst 0, 1) := by decide +kernel
theorem dX7_count_91 : decode cX7_count 91 = .ok (.aload_n 0, 1) := by decide +kernel
theorem dX7_count_92 : decode cX7_count 92 = .ok (.getfield 40, 3) := by decide +kernel
theorem dX7_count_95 : decode cX7_count 95 = .ok (.iconst 1, 1) := by decide +kernel
theorem dX7_count_96 : decode cX7_count 96 = .ok (.baload, 1) := by decide +kernel
theorem dX7_count_97 : decode cX7_count 97 = .ok (.ifCond .eq 7, 3) := by decide +kernel
theorem dX7_count_100 : decode cX7_count 100 = .ok (.iconst 1, 1) := by decide +kernel
theorem dX7_count_101 : decode cX7_count 101 = .ok (.goto 4, 3) := by decide +kernel
theorem dX7_count_104 : decode cX7_count 104 = .ok (.iconst 0, 1) := by decide +kernel
theorem dX7_count_105 : decode cX7_count 105 = .ok (.iadd, 1) := by decide +kernel
theorem dX7_count_106 : decode cX7_count 106 = .ok (.ireturn, 1) := by decide +kernel
theorem dX7_count_107 : decode cX7_count 107 = .ok (.aload_n 0, 1) := by decide +kernel
theorem dX7_count_108 : decode cX7_count 108 = .ok (.getfield 59, 3) := by decide +kernel
theorem dX7_count_111 : decode cX7_count 111 = .ok (.ireturn, 1) := by decide +kernel
theorem dX7_count_112 : decode cX7_count 112 = .ok (.aload_n 0, 1) := by decide +kernel
theorem dX7_count_113 : decode cX7_count 113 = .ok (.getfield 44, 3) := by decide +kernel
theorem dX7_count_116 : decode cX7_count 116 = .ok (.iconst 0, 1) := by decide +kernel
theorem dX7_count_117 : decode cX7_count 117 = .ok (.iaload, 1) := by decide +kernel
theorem dX7_count_118 : decode cX7_count 118 = .ok (.bipush (-4), 2) := by decide +kernel
theorem dX7_count_120 : decode cX7_count 120 = .ok (.if_icmp .ne 8, 3) := by decide +kernel
theorem dX7_count_123 : decode cX7_count 123 = .ok (.bipush (-4), 2) := by decide +kernel
theorem dX7_count_125 : decode cX7_count 125 = .ok (.goto 9, 3) := by decide +kernel
theorem dX7_count_128 : decode cX7_count 128 = .ok (.aload_n 0, 1) := by decide +kernel
theorem dX7_count_129 : decode cX7_count 129 = .ok (.getfield 47, 3) := by decide +kernel
theorem dX7_count_132 : decode cX7_count 132 = .ok (.iconst 0, 1) := by decide +kernel
theorem dX7_count_133 : decode cX7_count 133 = .ok (.iaload, 1) := by decide +kernel
theorem dX7_count_134 : decode cX7_count 134 = .ok (.ireturn, 1) := by decide +kernel
theorem dX7_count_135 : decode cX7_count 135 = .ok (.aload_n 0, 1) := by decide +kernel
theorem dX7_count_136 : decode cX7_count 136 = .ok (.iconst 0, 1) := by decide +kernel
theorem dX7_count_137 : decode cX7_count 137 = .ok (.iconst 4, 1) := by decide +kernel
theorem dX7_count_138 : decode cX7_count 138 = .ok (.invokevirtual 157, 3) := by decide +kernel
theorem dX7_count_141 : decode cX7_count 141 = .ok (.ireturn, 1) := by decide +kernel
theorem dX7_count_142 : decode cX7_count 142 = .ok (.iload_n 2, 1) := by decide +kernel
theorem dX7_count_143 : decode cX7_count 143 = .ok (.ireturn, 1) := by decide +kernel
theorem dX7_count_144 : decode cX7_count 144 = .ok (.iconst (-1), 1) := by decide +kernel
theorem dX7_count_145 : decode cX7_count 145 = .ok (.ireturn, 1) := by decide +kernel
end
section
theorem dL_law_0 : decode cL_law 0 = .ok (.new 7, 3) := by decide +kernel
theorem dL_law_3 : decode cL_law 3 = .ok (.dup, 1) := by decide +kernel
theorem dL_law_4 : decode cL_law 4 = .ok (.invokespecial 9, 3) := by decide +kernel
theorem dL_law_7 : decode cL_law 7 = .ok (.astore_n 1, 1) := by decide +kernel
theorem dL_law_8 : decode cL_law 8 = .ok (.new 10, 3) := by decide +kernel
theorem dL_law_11 : decode cL_law 11 = .ok (.dup, 1) := by decide +kernel
theorem dL_law_12 : decode cL_law 12 = .ok (.invokespecial 12, 3) := by decide +kernel
theorem dL_law_15 : decode cL_law 15 = .ok (.astore_n 2, 1) := by decide +kernel
theorem dL_law_16 : decode cL_law 16 = .ok (.iconst 0, 1) := by decide +kernel
theorem dL_law_17 : decode cL_law 17 = .ok (.istore_n 3, 1) := by decide +kernel
theorem dL_law_18 : decode cL_law 18 = .ok (.iload_n 3, 1) := by decide +kernel
theorem dL_law_19 : decode cL_law 19 = .ok (.aload_n 0, 1) := by decide +kernel
theorem dL_law_20 : decode cL_law 20 = .ok (.arraylength, 1) := by decide +kernel
theorem dL_law_21 : decode cL_law 21 = .ok (.iconst 5, 1) := by decide +kernel
theorem dL_law_22 : decode cL_law 22 = .ok (.isub, 1) := by decide +kernel
theorem dL_law_23 : decode cL_law 23 = .ok (.if_icmp .gt 1527, 3) := by decide +kernel
theorem dL_law_26 : decode cL_law 26 = .ok (.aload_n 0, 1) := by decide +kernel
theorem dL_law_27 : decode cL_law 27 = .ok (.iload_n 3, 1) := by decide +kernel
theorem dL_law_28 : decode cL_law 28 = .ok (.iaload, 1) := by decide +kernel
theorem dL_law_29 : decode cL_law 29 = .ok (.bipush 63, 2) := by decide +kernel
theorem dL_law_31 : decode cL_law 31 = .ok (.iand, 1) := by decide +kernel
theorem dL_law_32 : decode cL_law 32 = .ok (.tableswitch 1512 0 41 #[184, 207, 230, 243, 256, 279, 312, 345, 388, 421, 464, 507, 530, 563, 586, 609, 642, 685, 708, 731, 744, 787, 820, 853, 886, 929, 972, 1005, 1059, 1103, 1146, 1169, 1192, 1215, 1248, 1291, 1314, 1337, 1380, 1423, 1476, 1489], 184) := by decide +kernel
theorem dL_law_216 : decode cL_law 216 = .ok (.aload_n 1, 1) := by decide +kernel
theorem dL_law_217 : decode cL_law 217 = .ok (.aload_n 0, 1) := by decide +kernel
theorem dL_law_218 : decode cL_law 218 = .ok (.iload_n 3, 1) := by decide +kernel
theorem dL_law_219 : decode cL_law 219 = .ok (.iconst 1, 1) := by decide +kernel
theorem dL_law_220 : decode cL_law 220 = .ok (.iadd, 1) := by decide +kernel
theorem dL_law_221 : decode cL_law 221 = .ok (.iaload, 1) := by decide +kernel
theorem dL_law_222 : decode cL_law 222 = .ok (.invokevirtual 13, 3) := by decide +kernel
theorem dL_law_225 : decode cL_law 225 = .ok (.aload_n 2, 1) := by decide +kernel
theorem dL_law_226 : decode cL_law 226 = .ok (.aload_n 0, 1) := by decide +kernel
theorem dL_law_227 : decode cL_law 227 = .ok (.iload_n 3, 1) := by decide +kernel
theorem dL_law_228 : decode cL_law 228 = .ok (.iconst 1, 1) := by decide +kernel
theorem dL_law_229 : decode cL_law 229 = .ok (.iadd, 1) := by decide +kernel
theorem dL_law_230 : decode cL_law 230 = .ok (.iaload, 1) := by decide +kernel
theorem dL_law_231 : decode cL_law 231 = .ok (.invokevirtual 17, 3) := by decide +kernel
theorem dL_law_234 : decode cL_law 234 = .ok (.if_icmp .eq 1310, 3) := by decide +kernel
theorem dL_law_237 : decode cL_law 237 = .ok (.iconst 0, 1) := by decide +kernel
theorem dL_law_238 : decode cL_law 238 = .ok (.ireturn, 1) := by decide +kernel
theorem dL_law_239 : decode cL_law 239 = .ok (.aload_n 1, 1) := by decide +kernel
theorem dL_law_240 : decode cL_law 240 = .ok (.aload_n 0, 1) := by decide +kernel
theorem dL_law_241 : decode cL_law 241 = .ok (.iload_n 3, 1) := by decide +kernel
theorem dL_law_242 : decode cL_law 242 = .ok (.iconst 1, 1) := by decide +kernel
theorem dL_law_243 : decode cL_law 243 = .ok (.iadd, 1) := by decide +kernel
theorem dL_law_244 : decode cL_law 244 = .ok (.iaload, 1) := by decide +kernel
theorem dL_law_245 : decode cL_law 245 = .ok (.invokevirtual 18, 3) := by decide +kernel
theorem dL_law_248 : decode cL_law 248 = .ok (.aload_n 2, 1) := by decide +kernel
theorem dL_law_249 : decode cL_law 249 = .ok (.aload_n 0, 1) := by decide +kernel
theorem dL_law_250 : decode cL_law 250 = .ok (.iload_n 3, 1) := by decide +kernel
theorem dL_law_251 : decode cL_law 251 = .ok (.iconst 1, 1) := by decide +kernel
theorem dL_law_252 : decode cL_law 252 = .ok (.iadd, 1) := by decide +kernel
theorem dL_law_253 : decode cL_law 253 = .ok (.iaload, 1) := by decide +kernel
theorem dL_law_254 : decode cL_law 254 = .ok (.invokevirtual 21, 3) := by decide +kernel
theorem dL_law_257 : decode cL_law 257 = .ok (.if_icmp .eq 1287, 3) := by decide +kernel
theorem dL_law_260 : decode cL_law 260 = .ok (.iconst 0, 1) := by decide +kernel
theorem dL_law_261 : decode cL_law 261 = .ok (.ireturn, 1) := by decide +kernel
theorem dL_law_262 : decode cL_law 262 = .ok (.aload_n 1, 1) := by decide +kernel
theorem dL_law_263 : decode cL_law 263 = .ok (.invokevirtual 22, 3) := by decide +kernel
theorem dL_law_266 : decode cL_law 266 = .ok (.aload_n 2, 1) := by decide +kernel
theorem dL_law_267 : decode cL_law 267 = .ok (.invokevirtual 26, 3) := by decide +kernel
theorem dL_law_270 : decode cL_law 270 = .ok (.if_icmp .eq 1274, 3) := by decide +kernel
theorem dL_law_273 : decode cL_law 273 = .ok (.iconst 0, 1) := by decide +kernel
theorem dL_law_274 : decode cL_law 274 = .ok (.ireturn, 1) := by decide +kernel
theorem dL_law_275 : decode cL_law 275 = .ok (.aload_n 1, 1) := by decide +kernel
theorem dL_law_276 : decode cL_law 276 = .ok (.invokevirtual 27, 3) := by decide +kernel
theorem dL_law_279 : decode cL_law 279 = .ok (.aload_n 2, 1) := by decide +kernel
theorem dL_law_280 : decode cL_law 280 = .ok (.invokevirtual 30, 3) := by decide +kernel
theorem dL_law_283 : decode cL_law 283 = .ok (.if_icmp .eq 1261, 3) := by decide +kernel
theorem dL_law_286 : decode cL_law 286 = .ok (.iconst 0, 1) := by decide +kernel
theorem dL_law_287 : decode cL_law 287 = .ok (.ireturn, 1) := by decide +kernel
theorem dL_law_288 : decode cL_law 288 = .ok (.aload_n 1, 1) := by decide +kernel
theorem dL_law_289 : decode cL_law 289 = .ok (.aload_n 0, 1) := by decide +kernel
theorem dL_law_290 : decode cL_law 290 = .ok (.iload_n 3, 1) := by decide +kernel
theorem dL_law_291 : decode cL_law 291 = .ok (.iconst 1, 1) := by decide +kernel
theorem dL_law_292 : decode cL_law 292 = .ok (.iadd, 1) := by decide +kernel
theorem dL_law_293 : decode cL_law 293 = .ok (.iaload, 1) := by decide +kernel
theorem dL_law_294 : decode cL_law 294 = .ok (.invokevirtual 31, 3) := by decide +kernel
theorem dL_law_297 : decode cL_law 297 = .ok (.aload_n 2, 1) := by decide +kernel
theorem dL_law_298 : decode cL_law 298 = .ok (.aload_n 0, 1) := by decide +kernel
theorem dL_law_299 : decode cL_law 299 = .ok (.iload_n 3, 1) := by decide +kernel
theorem dL_law_300 : decode cL_law 300 = .ok (.iconst 1, 1) := by decide +kernel
theorem dL_law_301 : decode cL_law 301 = .ok (.iadd, 1) := by decide +kernel
theorem dL_law_302 : decode cL_law 302 = .ok (.iaload, 1) := by decide +kernel
theorem dL_law_303 : decode cL_law 303 = .ok (.invokevirtual 34, 3) := by decide +kernel
theorem dL_law_306 : decode cL_law 306 = .ok (.if_icmp .eq 1238, 3) := by decide +kernel
theorem dL_law_309 : decode cL_law 309 = .ok (.iconst 0, 1) := by decide +kernel
theorem dL_law_310 : decode cL_law 310 = .ok (.ireturn, 1) := by decide +kernel
theorem dL_law_311 : decode cL_law 311 = .ok (.aload_n 1, 1) := by decide +kernel
theorem dL_law_312 : decode cL_law 312 = .ok (.aload_n 0, 1) := by decide +kernel
theorem dL_law_313 : decode cL_law 313 = .ok (.iload_n 3, 1) := by decide +kernel
theorem dL_law_314 : decode cL_law 314 = .ok (.iconst 1, 1) := by decide +kernel
theorem dL_law_315 : decode cL_law 315 = .ok (.iadd, 1) := by decide +kernel
theorem dL_law_316 : decode cL_law 316 = .ok (.iaload, 1) := by decide +kernel
theorem dL_law_317 : decode cL_law 317 = .ok (.aload_n 0, 1) := by decide +kernel
theorem dL_law_318 : decode cL_law 318 = .ok (.iload_n 3, 1) := by decide +kernel
theorem dL_law_319 : decode cL_law 319 = .ok (.iconst 2, 1) := by decide +kernel
theorem dL_law_320 : decode cL_law 320 = .ok (.iadd, 1) := by decide +kernel
theorem dL_law_321 : decode cL_law 321 = .ok (.iaload, 1) := by decide +kernel
theorem dL_law_322 : decode cL_law 322 = .ok (.invokevirtual 35, 3) := by decide +kernel
theorem dL_law_325 : decode cL_law 325 = .ok (.aload_n 2, 1) := by decide +kernel
theorem dL_law_326 : decode cL_law 326 = .ok (.aload_n 0, 1) := by decide +kernel
theorem dL_law_327 : decode cL_law 327 = .ok (.iload_n 3, 1) := by decide +kernel
theorem dL_law_328 : decode cL_law 328 = .ok (.iconst 1, 1) := by decide +kernel
theorem dL_law_329 : decode cL_law 329 = .ok (.iadd, 1) := by decide +kernel
theorem dL_law_330 : decode cL_law 330 = .ok (.iaload, 1) := by decide +kernel
theorem dL_law_331 : decode cL_law 331 = .ok (.aload_n 0, 1) := by decide +kernel
theorem dL_law_332 : decode cL_law 332 = .ok (.iload_n 3, 1) := by decide +kernel
theorem dL_law_333 : decode cL_law 333 = .ok (.iconst 2, 1) := by decide +kernel
theorem dL_law_334 : decode cL_law 334 = .ok (.iadd, 1) := by decide +kernel
theorem dL_law_335 : decode cL_law 335 = .ok (.iaload, 1) := by decide +kernel
theorem dL_law_336 : decode cL_law 336 = .ok (.invokevirtual 39, 3) := by decide +kernel
theorem dL_law_339 : decode cL_law 339 = .ok (.if_icmp .eq 1205, 3) := by decide +kernel
theorem dL_law_342 : decode cL_law 342 = .ok (.iconst 0, 1) := by decide +kernel
theorem dL_law_343 : decode cL_law 343 = .ok (.ireturn, 1) := by decide +kernel
theorem dL_law_344 : decode cL_law 344 = .ok (.aload_n 1, 1) := by decide +kernel
theorem dL_law_345 : decode cL_law 345 = .ok (.aload_n 0, 1) := by decide +kernel
theorem dL_law_346 : decode cL_law 346 = .ok (.iload_n 3, 1) := by decide +kernel
theorem dL_law_347 : decode cL_law 347 = .ok (.iconst 1, 1) := by decide +kernel
theorem dL_law_348 : decode cL_law 348 = .ok (.iadd, 1) := by decide +kernel
theorem dL_law_349 : decode cL_law 349 = .ok (.iaload, 1) := by decide +kernel
theorem dL_law_350 : decode cL_law 350 = .ok (.aload_n 0, 1) := by decide +kernel
theorem dL_law_351 : decode cL_law 351 = .ok (.iload_n 3, 1) := by decide +kernel
theorem dL_law_352 : decode cL_law 352 = .ok (.iconst 2, 1) := by decide +kernel
theorem dL_law_353 : decode cL_law 353 = .ok (.iadd, 1) := by decide +kernel
theorem dL_law_354 : decode cL_law 354 = .ok (.iaload, 1) := by decide +kernel
theorem dL_law_355 : decode cL_law 355 = .ok (.invokevirtual 40, 3) := by decide +kernel
theorem dL_law_358 : decode cL_law 358 = .ok (.aload_n 2, 1) := by decide +kernel
theorem dL_law_359 : decode cL_law 359 = .ok (.aload_n 0, 1) := by decide +kernel
theorem dL_law_360 : decode cL_law 360 = .ok (.iload_n 3, 1) := by decide +kernel
theorem dL_law_361 : decode cL_law 361 = .ok (.iconst 1, 1) := by decide +kernel
theorem dL_law_362 : decode cL_law 362 = .ok (.iadd, 1) := by decide +kernel
theorem dL_law_363 : decode cL_law 363 = .ok (.iaload, 1) := by decide +kernel
theorem dL_law_364 : decode cL_law 364 = .ok (.aload_n 0, 1) := by decide +kernel
theorem dL_law_365 : decode cL_law 365 = .ok (.iload_n 3, 1) := by decide +kernel
theorem dL_law_366 : decode cL_law 366 = .ok (.iconst 2, 1) := by decide +kernel
theorem dL_law_367 : decode cL_law 367 = .ok (.iadd, 1) := by decide +kernel
theorem dL_law_368 : decode cL_law 368 = .ok (.iaload, 1) := by decide +kernel
theorem dL_law_369 : decode cL_law 369 = .ok (.invokevirtual 43, 3) := by decide +kernel
theorem dL_law_372 : decode cL_law 372 = .ok (.if_icmp .eq 1172, 3) := by decide +kernel
theorem dL_law_375 : decode cL_law 375 = .ok (.iconst 0, 1) := by decide +kernel
theorem dL_law_376 : decode cL_law 376 = .ok (.ireturn, 1) := by decide +kernel
theorem dL_law_377 : decode cL_law 377 = .ok (.aload_n 1, 1) := by decide +kernel
theorem dL_law_378 : decode cL_law 378 = .ok (.aload_n 0, 1) := by decide +kernel
theorem dL_law_379 : decode cL_law 379 = .ok (.iload_n 3, 1) := by decide +kernel
theorem dL_law_380 : decode cL_law 380 = .ok (.iconst 1, 1) := by decide +kernel
theorem dL_law_381 : decode cL_law 381 = .ok (.iadd, 1) := by decide +kernel
theorem dL_law_382 : decode cL_law 382 = .ok (.iaload, 1) := by decide +kernel
theorem dL_law_383 : decode cL_law 383 = .ok (.aload_n 0, 1) := by decide +kernel
theorem dL_law_384 : decode cL_law 384 = .ok (.iload_n 3, 1) := by decide +kernel
theorem dL_law_385 : decode cL_law 385 = .ok (.iconst 2, 1) := by decide +kernel
theorem dL_law_386 : decode cL_law 386 = .ok (.iadd, 1) := by decide +kernel
theorem dL_law_387 : decode cL_law 387 = .ok (.iaload, 1) := by decide +kernel
theorem dL_law_388 : decode cL_law 388 = .ok (.aload_n 0, 1) := by decide +kernel
theorem dL_law_389 : decode cL_law 389 = .ok (.iload_n 3, 1) := by decide +kernel
theorem dL_law_390 : decode cL_law 390 = .ok (.iconst 3, 1) := by decide +kernel
theorem dL_law_391 : decode cL_law 391 = .ok (.iadd, 1) := by decide +kernel
theorem dL_law_392 : decode cL_law 392 = .ok (.iaload, 1) := by decide +kernel
theorem dL_law_393 : decode cL_law 393 = .ok (.invokevirtual 44, 3) := by decide +kernel
theorem dL_law_396 : decode cL_law 396 = .ok (.aload_n 2, 1) := by decide +kernel
theorem dL_law_397 : decode cL_law 397 = .ok (.aload_n 0, 1) := by decide +kernel
theorem dL_law_398 : decode cL_law 398 = .ok (.iload_n 3, 1) := by decide +kernel
theorem dL_law_399 : decode cL_law 399 = .ok (.iconst 1, 1) := by decide +kernel
theorem dL_law_400 : decode cL_law 400 = .ok (.iadd, 1) := by decide +kernel
theorem dL_law_401 : decode cL_law 401 = .ok (.iaload, 1) := by decide +kernel
theorem dL_law_402 : decode cL_law 402 = .ok (.aload_n 0, 1) := by decide +kernel
theorem dL_law_403 : decode cL_law 403 = .ok (.iload_n 3, 1) := by decide +kernel
theorem dL_law_404 : decode cL_law 404 = .ok (.iconst 2, 1) := by decide +kernel
theorem dL_law_405 : decode cL_law 405 = .ok (.iadd, 1) := by decide +kernel
theorem dL_law_406 : decode cL_law 406 = .ok (.iaload, 1) := by decide +kernel
theorem dL_law_407 : decode cL_law 407 = .ok (.aload_n 0, 1) := by decide +kernel
theorem dL_law_408 : decode cL_law 408 = .ok (.iload_n 3, 1) := by decide +kernel
theorem dL_law_409 : decode cL_law 409 = .ok (.iconst 3, 1) := by decide +kernel
theorem dL_law_410 : decode cL_law 410 = .ok (.iadd, 1) := by decide +kernel
theorem dL_law_411 : decode cL_law 411 = .ok (.iaload, 1) := by decide +kernel
theorem dL_law_412 : decode cL_law 412 = .ok (.invokevirtual 48, 3) := by decide +kernel
theorem dL_law_415 : decode cL_law 415 = .ok (.if_icmp .eq 1129, 3) := by decide +kernel
theorem dL_law_418 : decode cL_law 418 = .ok (.iconst 0, 1) := by decide +kernel
theorem dL_law_419 : decode cL_law 419 = .ok (.ireturn, 1) := by decide +kernel
theorem dL_law_420 : decode cL_law 420 = .ok (.aload_n 1, 1) := by decide +kernel
theorem dL_law_421 : decode cL_law 421 = .ok (.aload_n 0, 1) := by decide +kernel
theorem dL_law_422 : decode cL_law 422 = .ok (.iload_n 3, 1) := by decide +kernel
theorem dL_law_423 : decode cL_law 423 = .ok (.iconst 1, 1) := by decide +kernel
theorem dL_law_424 : decode cL_law 424 = .ok (.iadd, 1) := by decide +kernel
theorem dL_law_425 : decode cL_law 425 = .ok (.iaload, 1) := by decide +kernel
theorem dL_law_426 : decode cL_law 426 = .ok (.aload_n 0, 1) := by decide +kernel
theorem dL_law_427 : decode cL_law 427 = .ok (.iload_n 3, 1) := by decide +kernel
theorem dL_law_428 : decode cL_law 428 = .ok (.iconst 2, 1) := by decide +kernel
theorem dL_law_429 : decode cL_law 429 = .ok (.iadd, 1) := by decide +kernel
theorem dL_law_430 : decode cL_law 430 = .ok (.iaload, 1) := by decide +kernel
theorem dL_law_431 : decode cL_law 431 = .ok (.invokevirtual 49, 3) := by decide +kernel
theorem dL_law_434 : decode cL_law 434 = .ok (.aload_n 2, 1) := by decide +kernel
theorem dL_law_435 : decode cL_law 435 = .ok (.aload_n 0, 1) := by decide +kernel
theorem dL_law_436 : decode cL_law 436 = .ok (.iload_n 3, 1) := by decide +kernel
theorem dL_law_437 : decode cL_law 437 = .ok (.iconst 1, 1) := by decide +kernel
theorem dL_law_438 : decode cL_law 438 = .ok (.iadd, 1) := by decide +kernel
theorem dL_law_439 : decode cL_law 439 = .ok (.iaload, 1) := by decide +kernel
theorem dL_law_440 : decode cL_law 440 = .ok (.aload_n 0, 1) := by decide +kernel
theorem dL_law_441 : decode cL_law 441 = .ok (.iload_n 3, 1) := by decide +kernel
theorem dL_law_442 : decode cL_law 442 = .ok (.iconst 2, 1) := by decide +kernel
theorem dL_law_443 : decode cL_law 443 = .ok (.iadd, 1) := by decide +kernel
theorem dL_law_444 : decode cL_law 444 = .ok (.iaload, 1) := by decide +kernel
theorem dL_law_445 : decode cL_law 445 = .ok (.invokevirtual 52, 3) := by decide +kernel
theorem dL_law_448 : decode cL_law 448 = .ok (.if_icmp .eq 1096, 3) := by decide +kernel
theorem dL_law_451 : decode cL_law 451 = .ok (.iconst 0, 1) := by decide +kernel
theorem dL_law_452 : decode cL_law 452 = .ok (.ireturn, 1) := by decide +kernel
theorem dL_law_453 : decode cL_law 453 = .ok (.aload_n 1, 1) := by decide +kernel
theorem dL_law_454 : decode cL_law 454 = .ok (.aload_n 0, 1) := by decide +kernel
theorem dL_law_455 : decode cL_law 455 = .ok (.iload_n 3, 1) := by decide +kernel
theorem dL_law_456 : decode cL_law 456 = .ok (.iconst 1, 1) := by decide +kernel
theorem dL_law_457 : decode cL_law 457 = .ok (.iadd, 1) := by decide +kernel
theorem dL_law_458 : decode cL_law 458 = .ok (.iaload, 1) := by decide +kernel
theorem dL_law_459 : decode cL_law 459 = .ok (.aload_n 0, 1) := by decide +kernel
theorem dL_law_460 : decode cL_law 460 = .ok (.iload_n 3, 1) := by decide +kernel
theorem dL_law_461 : decode cL_law 461 = .ok (.iconst 2, 1) := by decide +kernel
theorem dL_law_462 : decode cL_law 462 = .ok (.iadd, 1) := by decide +kernel
theorem dL_law_463 : decode cL_law 463 = .ok (.iaload, 1) := by decide +kernel
theorem dL_law_464 : decode cL_law 464 = .ok (.aload_n 0, 1) := by decide +kernel
theorem dL_law_465 : decode cL_law 465 = .ok (.iload_n 3, 1) := by decide +kernel
theorem dL_law_466 : decode cL_law 466 = .ok (.iconst 3, 1) := by decide +kernel
theorem dL_law_467 : decode cL_law 467 = .ok (.iadd, 1) := by decide +kernel
theorem dL_law_468 : decode cL_law 468 = .ok (.iaload, 1) := by decide +kernel
theorem dL_law_469 : decode cL_law 469 = .ok (.invokevirtual 53, 3) := by decide +kernel
theorem dL_law_472 : decode cL_law 472 = .ok (.aload_n 2, 1) := by decide +kernel
theorem dL_law_473 : decode cL_law 473 = .ok (.aload_n 0, 1) := by decide +kernel
theorem dL_law_474 : decode cL_law 474 = .ok (.iload_n 3, 1) := by decide +kernel
theorem dL_law_475 : decode cL_law 475 = .ok (.iconst 1, 1) := by decide +kernel
theorem dL_law_476 : decode cL_law 476 = .ok (.iadd, 1) := by decide +kernel
theorem dL_law_477 : decode cL_law 477 = .ok (.iaload, 1) := by decide +kernel
theorem dL_law_478 : decode cL_law 478 = .ok (.aload_n 0, 1) := by decide +kernel
theorem dL_law_479 : decode cL_law 479 = .ok (.iload_n 3, 1) := by decide +kernel
theorem dL_law_480 : decode cL_law 480 = .ok (.iconst 2, 1) := by decide +kernel
theorem dL_law_481 : decode cL_law 481 = .ok (.iadd, 1) := by decide +kernel
theorem dL_law_482 : decode cL_law 482 = .ok (.iaload, 1) := by decide +kernel
theorem dL_law_483 : decode cL_law 483 = .ok (.aload_n 0, 1) := by decide +kernel
theorem dL_law_484 : decode cL_law 484 = .ok (.iload_n 3, 1) := by decide +kernel
theorem dL_law_485 : decode cL_law 485 = .ok (.iconst 3, 1) := by decide +kernel
theorem dL_law_486 : decode cL_law 486 = .ok (.iadd, 1) := by decide +kernel
theorem dL_law_487 : decode cL_law 487 = .ok (.iaload, 1) := by decide +kernel
theorem dL_law_488 : decode cL_law 488 = .ok (.invokevirtual 56, 3) := by decide +kernel
theorem dL_law_491 : decode cL_law 491 = .ok (.if_icmp .eq 1053, 3) := by decide +kernel
theorem dL_law_494 : decode cL_law 494 = .ok (.iconst 0, 1) := by decide +kernel
theorem dL_law_495 : decode cL_law 495 = .ok (.ireturn, 1) := by decide +kernel
theorem dL_law_496 : decode cL_law 496 = .ok (.aload_n 1, 1) := by decide +kernel
theorem dL_law_497 : decode cL_law 497 = .ok (.aload_n 0, 1) := by decide +kernel
theorem dL_law_498 : decode cL_law 498 = .ok (.iload_n 3, 1) := by decide +kernel
theorem dL_law_499 : decode cL_law 499 = .ok (.iconst 1, 1) := by decide +kernel
theorem dL_law_500 : decode cL_law 500 = .ok (.iadd, 1) := by decide +kernel
theorem dL_law_501 : decode cL_law 501 = .ok (.iaload, 1) := by decide +kernel
theorem dL_law_502 : decode cL_law 502 = .ok (.aload_n 0, 1) := by decide +kernel
theorem dL_law_503 : decode cL_law 503 = .ok (.iload_n 3, 1) := by decide +kernel
theorem dL_law_504 : decode cL_law 504 = .ok (.iconst 2, 1) := by decide +kernel
theorem dL_law_505 : decode cL_law 505 = .ok (.iadd, 1) := by decide +kernel
theorem dL_law_506 : decode cL_law 506 = .ok (.iaload, 1) := by decide +kernel
theorem dL_law_507 : decode cL_law 507 = .ok (.aload_n 0, 1) := by decide +kernel
theorem dL_law_508 : decode cL_law 508 = .ok (.iload_n 3, 1) := by decide +kernel
theorem dL_law_509 : decode cL_law 509 = .ok (.iconst 3, 1) := by decide +kernel
theorem dL_law_510 : decode cL_law 510 = .ok (.iadd, 1) := by decide +kernel
theorem dL_law_511 : decode cL_law 511 = .ok (.iaload, 1) := by decide +kernel
theorem dL_law_512 : decode cL_law 512 = .ok (.invokevirtual 57, 3) := by decide +kernel
theorem dL_law_515 : decode cL_law 515 = .ok (.aload_n 2, 1) := by decide +kernel
theorem dL_law_516 : decode cL_law 516 = .ok (.aload_n 0, 1) := by decide +kernel
theorem dL_law_517 : decode cL_law 517 = .ok (.iload_n 3, 1) := by decide +kernel
theorem dL_law_518 : decode cL_law 518 = .ok (.iconst 1, 1) := by decide +kernel
theorem dL_law_519 : decode cL_law 519 = .ok (.iadd, 1) := by decide +kernel
theorem dL_law_520 : decode cL_law 520 = .ok (.iaload, 1) := by decide +kernel
theorem dL_law_521 : decode cL_law 521 = .ok (.aload_n 0, 1) := by decide +kernel
theorem dL_law_522 : decode cL_law 522 = .ok (.iload_n 3, 1) := by decide +kernel
theorem dL_law_523 : decode cL_law 523 = .ok (.iconst 2, 1) := by decide +kernel
theorem dL_law_524 : decode cL_law 524 = .ok (.iadd, 1) := by decide +kernel
theorem dL_law_525 : decode cL_law 525 = .ok (.iaload, 1) := by decide +kernel
theorem dL_law_526 : decode cL_law 526 = .ok (.aload_n 0, 1) := by decide +kernel
theorem dL_law_527 : decode cL_law 527 = .ok (.iload_n 3, 1) := by decide +kernel
theorem dL_law_528 : decode cL_law 528 = .ok (.iconst 3, 1) := by decide +kernel
theorem dL_law_529 : decode cL_law 529 = .ok (.iadd, 1) := by decide +kernel
theorem dL_law_530 : decode cL_law 530 = .ok (.iaload, 1) := by decide +kernel
theorem dL_law_531 : decode cL_law 531 = .ok (.invokevirtual 60, 3) := by decide +kernel
theorem dL_law_534 : decode cL_law 534 = .ok (.if_icmp .eq 1010, 3) := by decide +kernel
theorem dL_law_537 : decode cL_law 537 = .ok (.iconst 0, 1) := by decide +kernel
theorem dL_law_538 : decode cL_law 538 = .ok (.ireturn, 1) := by decide +kernel
theorem dL_law_539 : decode cL_law 539 = .ok (.aload_n 1, 1) := by decide +kernel
theorem dL_law_540 : decode cL_law 540 = .ok (.aload_n 0, 1) := by decide +kernel
theorem dL_law_541 : decode cL_law 541 = .ok (.iload_n 3, 1) := by decide +kernel
theorem dL_law_542 : decode cL_law 542 = .ok (.iconst 1, 1) := by decide +kernel
theorem dL_law_543 : decode cL_law 543 = .ok (.iadd, 1) := by decide +kernel
theorem dL_law_544 : decode cL_law 544 = .ok (.iaload, 1) := by decide +kernel
theorem dL_law_545 : decode cL_law 545 = .ok (.invokevirtual 61, 3) := by decide +kernel
theorem dL_law_548 : decode cL_law 548 = .ok (.aload_n 2, 1) := by decide +kernel
theorem dL_law_549 : decode cL_law 549 = .ok (.aload_n 0, 1) := by decide +kernel
theorem dL_law_550 : decode cL_law 550 = .ok (.iload_n 3, 1) := by decide +kernel
theorem dL_law_551 : decode cL_law 551 = .ok (.iconst 1, 1) := by decide +kernel
theorem dL_law_552 : decode cL_law 552 = .ok (.iadd, 1) := by decide +kernel
theorem dL_law_553 : decode cL_law 553 = .ok (.iaload, 1) := by decide +kernel
theorem dL_law_554 : decode cL_law 554 = .ok (.invokevirtual 64, 3) := by decide +kernel
theorem dL_law_557 : decode cL_law 557 = .ok (.if_icmp .eq 987, 3) := by decide +kernel
theorem dL_law_560 : decode cL_law 560 = .ok (.iconst 0, 1) := by decide +kernel
theorem dL_law_561 : decode cL_law 561 = .ok (.ireturn, 1) := by decide +kernel
theorem dL_law_562 : decode cL_law 562 = .ok (.aload_n 1, 1) := by decide +kernel
theorem dL_law_563 : decode cL_law 563 = .ok (.aload_n 0, 1) := by decide +kernel
theorem dL_law_564 : decode cL_law 564 = .ok (.iload_n 3, 1) := by decide +kernel
theorem dL_law_565 : decode cL_law 565 = .ok (.iconst 1, 1) := by decide +kernel
theorem dL_law_566 : decode cL_law 566 = .ok (.iadd, 1) := by decide +kernel
theorem dL_law_567 : decode cL_law 567 = .ok (.iaload, 1) := by decide +kernel
theorem dL_law_568 : decode cL_law 568 = .ok (.aload_n 0, 1) := by decide +kernel
theorem dL_law_569 : decode cL_law 569 = .ok (.iload_n 3, 1) := by decide +kernel
theorem dL_law_570 : decode cL_law 570 = .ok (.iconst 2, 1) := by decide +kernel
theorem dL_law_571 : decode cL_law 571 = .ok (.iadd, 1) := by decide +kernel
theorem dL_law_572 : decode cL_law 572 = .ok (.iaload, 1) := by decide +kernel
theorem dL_law_573 : decode cL_law 573 = .ok (.invokevirtual 65, 3) := by decide +kernel
theorem dL_law_576 : decode cL_law 576 = .ok (.aload_n 2, 1) := by decide +kernel
theorem dL_law_577 : decode cL_law 577 = .ok (.aload_n 0, 1) := by decide +kernel
theorem dL_law_578 : decode cL_law 578 = .ok (.iload_n 3, 1) := by decide +kernel
theorem dL_law_579 : decode cL_law 579 = .ok (.iconst 1, 1) := by decide +kernel
theorem dL_law_580 : decode cL_law 580 = .ok (.iadd, 1) := by decide +kernel
theorem dL_law_581 : decode cL_law 581 = .ok (.iaload, 1) := by decide +kernel
theorem dL_law_582 : decode cL_law 582 = .ok (.aload_n 0, 1) := by decide +kernel
theorem dL_law_583 : decode cL_law 583 = .ok (.iload_n 3, 1) := by decide +kernel
theorem dL_law_584 : decode cL_law 584 = .ok (.iconst 2, 1) := by decide +kernel
theorem dL_law_585 : decode cL_law 585 = .ok (.iadd, 1) := by decide +kernel
theorem dL_law_586 : decode cL_law 586 = .ok (.iaload, 1) := by decide +kernel
theorem dL_law_587 : decode cL_law 587 = .ok (.invokevirtual 68, 3) := by decide +kernel
theorem dL_law_590 : decode cL_law 590 = .ok (.if_icmp .eq 954, 3) := by decide +kernel
theorem dL_law_593 : decode cL_law 593 = .ok (.iconst 0, 1) := by decide +kernel
theorem dL_law_594 : decode cL_law 594 = .ok (.ireturn, 1) := by decide +kernel
theorem dL_law_595 : decode cL_law 595 = .ok (.aload_n 1, 1) := by decide +kernel
theorem dL_law_596 : decode cL_law 596 = .ok (.aload_n 0, 1) := by decide +kernel
theorem dL_law_597 : decode cL_law 597 = .ok (.iload_n 3, 1) := by decide +kernel
theorem dL_law_598 : decode cL_law 598 = .ok (.iconst 1, 1) := by decide +kernel
theorem dL_law_599 : decode cL_law 599 = .ok (.iadd, 1) := by decide +kernel
theorem dL_law_600 : decode cL_law 600 = .ok (.iaload, 1) := by decide +kernel
theorem dL_law_601 : decode cL_law 601 = .ok (.invokevirtual 69, 3) := by decide +kernel
theorem dL_law_604 : decode cL_law 604 = .ok (.aload_n 2, 1) := by decide +kernel
theorem dL_law_605 : decode cL_law 605 = .ok (.aload_n 0, 1) := by decide +kernel
theorem dL_law_606 : decode cL_law 606 = .ok (.iload_n 3, 1) := by decide +kernel
theorem dL_law_607 : decode cL_law 607 = .ok (.iconst 1, 1) := by decide +kernel
theorem dL_law_608 : decode cL_law 608 = .ok (.iadd, 1) := by decide +kernel
theorem dL_law_609 : decode cL_law 609 = .ok (.iaload, 1) := by decide +kernel
theorem dL_law_610 : decode cL_law 610 = .ok (.invokevirtual 72, 3) := by decide +kernel
theorem dL_law_613 : decode cL_law 613 = .ok (.if_icmp .eq 931, 3) := by decide +kernel
theorem dL_law_616 : decode cL_law 616 = .ok (.iconst 0, 1) := by decide +kernel
theorem dL_law_617 : decode cL_law 617 = .ok (.ireturn, 1) := by decide +kernel
theorem dL_law_618 : decode cL_law 618 = .ok (.aload_n 1, 1) := by decide +kernel
theorem dL_law_619 : decode cL_law 619 = .ok (.aload_n 0, 1) := by decide +kernel
theorem dL_law_620 : decode cL_law 620 = .ok (.iload_n 3, 1) := by decide +kernel
theorem dL_law_621 : decode cL_law 621 = .ok (.iconst 1, 1) := by decide +kernel
theorem dL_law_622 : decode cL_law 622 = .ok (.iadd, 1) := by decide +kernel
theorem dL_law_623 : decode cL_law 623 = .ok (.iaload, 1) := by decide +kernel
theorem dL_law_624 : decode cL_law 624 = .ok (.invokevirtual 73, 3) := by decide +kernel
theorem dL_law_627 : decode cL_law 627 = .ok (.aload_n 2, 1) := by decide +kernel
theorem dL_law_628 : decode cL_law 628 = .ok (.aload_n 0, 1) := by decide +kernel
theorem dL_law_629 : decode cL_law 629 = .ok (.iload_n 3, 1) := by decide +kernel
theorem dL_law_630 : decode cL_law 630 = .ok (.iconst 1, 1) := by decide +kernel
theorem dL_law_631 : decode cL_law 631 = .ok (.iadd, 1) := by decide +kernel
theorem dL_law_632 : decode cL_law 632 = .ok (.iaload, 1) := by decide +kernel
theorem dL_law_633 : decode cL_law 633 = .ok (.invokevirtual 76, 3) := by decide +kernel
theorem dL_law_636 : decode cL_law 636 = .ok (.if_icmp .eq 908, 3) := by decide +kernel
theorem dL_law_639 : decode cL_law 639 = .ok (.iconst 0, 1) := by decide +kernel
theorem dL_law_640 : decode cL_law 640 = .ok (.ireturn, 1) := by decide +kernel
theorem dL_law_641 : decode cL_law 641 = .ok (.aload_n 1, 1) := by decide +kernel
theorem dL_law_642 : decode cL_law 642 = .ok (.aload_n 0, 1) := by decide +kernel
theorem dL_law_643 : decode cL_law 643 = .ok (.iload_n 3, 1) := by decide +kernel
theorem dL_law_644 : decode cL_law 644 = .ok (.iconst 1, 1) := by decide +kernel
theorem dL_law_645 : decode cL_law 645 = .ok (.iadd, 1) := by decide +kernel
theorem dL_law_646 : decode cL_law 646 = .ok (.iaload, 1) := by decide +kernel
theorem dL_law_647 : decode cL_law 647 = .ok (.aload_n 0, 1) := by decide +kernel
theorem dL_law_648 : decode cL_law 648 = .ok (.iload_n 3, 1) := by decide +kernel
theorem dL_law_649 : decode cL_law 649 = .ok (.iconst 2, 1) := by decide +kernel
theorem dL_law_650 : decode cL_law 650 = .ok (.iadd, 1) := by decide +kernel
theorem dL_law_651 : decode cL_law 651 = .ok (.iaload, 1) := by decide +kernel
theorem dL_law_652 : decode cL_law 652 = .ok (.invokevirtual 77, 3) := by decide +kernel
theorem dL_law_655 : decode cL_law 655 = .ok (.aload_n 2, 1) := by decide +kernel
theorem dL_law_656 : decode cL_law 656 = .ok (.aload_n 0, 1) := by decide +kernel
theorem dL_law_657 : decode cL_law 657 = .ok (.iload_n 3, 1) := by decide +kernel
theorem dL_law_658 : decode cL_law 658 = .ok (.iconst 1, 1) := by decide +kernel
theorem dL_law_659 : decode cL_law 659 = .ok (.iadd, 1) := by decide +kernel
theorem dL_law_660 : decode cL_law 660 = .ok (.iaload, 1) := by decide +kernel
theorem dL_law_661 : decode cL_law 661 = .ok (.aload_n 0, 1) := by decide +kernel
theorem dL_law_662 : decode cL_law 662 = .ok (.iload_n 3, 1) := by decide +kernel
theorem dL_law_663 : decode cL_law 663 = .ok (.iconst 2, 1) := by decide +kernel
theorem dL_law_664 : decode cL_law 664 = .ok (.iadd, 1) := by decide +kernel
theorem dL_law_665 : decode cL_law 665 = .ok (.iaload, 1) := by decide +kernel
theorem dL_law_666 : decode cL_law 666 = .ok (.invokevirtual 80, 3) := by decide +kernel
theorem dL_law_669 : decode cL_law 669 = .ok (.if_icmp .eq 875, 3) := by decide +kernel
theorem dL_law_672 : decode cL_law 672 = .ok (.iconst 0, 1) := by decide +kernel
theorem dL_law_673 : decode cL_law 673 = .ok (.ireturn, 1) := by decide +kernel
theorem dL_law_674 : decode cL_law 674 = .ok (.aload_n 1, 1) := by decide +kernel
theorem dL_law_675 : decode cL_law 675 = .ok (.aload_n 0, 1) := by decide +kernel
theorem dL_law_676 : decode cL_law 676 = .ok (.iload_n 3, 1) := by decide +kernel
theorem dL_law_677 : decode cL_law 677 = .ok (.iconst 1, 1) := by decide +kernel
theorem dL_law_678 : decode cL_law 678 = .ok (.iadd, 1) := by decide +kernel
theorem dL_law_679 : decode cL_law 679 = .ok (.iaload, 1) := by decide +kernel
theorem dL_law_680 : decode cL_law 680 = .ok (.aload_n 0, 1) := by decide +kernel
theorem dL_law_681 : decode cL_law 681 = .ok (.iload_n 3, 1) := by decide +kernel
theorem dL_law_682 : decode cL_law 682 = .ok (.iconst 2, 1) := by decide +kernel
theorem dL_law_683 : decode cL_law 683 = .ok (.iadd, 1) := by decide +kernel
theorem dL_law_684 : decode cL_law 684 = .ok (.iaload, 1) := by decide +kernel
theorem dL_law_685 : decode cL_law 685 = .ok (.aload_n 0, 1) := by decide +kernel
theorem dL_law_686 : decode cL_law 686 = .ok (.iload_n 3, 1) := by decide +kernel
theorem dL_law_687 : decode cL_law 687 = .ok (.iconst 3, 1) := by decide +kernel
theorem dL_law_688 : decode cL_law 688 = .ok (.iadd, 1) := by decide +kernel
theorem dL_law_689 : decode cL_law 689 = .ok (.iaload, 1) := by decide +kernel
theorem dL_law_690 : decode cL_law 690 = .ok (.invokevirtual 81, 3) := by decide +kernel
theorem dL_law_693 : decode cL_law 693 = .ok (.aload_n 2, 1) := by decide +kernel
theorem dL_law_694 : decode cL_law 694 = .ok (.aload_n 0, 1) := by decide +kernel
theorem dL_law_695 : decode cL_law 695 = .ok (.iload_n 3, 1) := by decide +kernel
theorem dL_law_696 : decode cL_law 696 = .ok (.iconst 1, 1) := by decide +kernel
theorem dL_law_697 : decode cL_law 697 = .ok (.iadd, 1) := by decide +kernel
theorem dL_law_698 : decode cL_law 698 = .ok (.iaload, 1) := by decide +kernel
theorem dL_law_699 : decode cL_law 699 = .ok (.aload_n 0, 1) := by decide +kernel
theorem dL_law_700 : decode cL_law 700 = .ok (.iload_n 3, 1) := by decide +kernel
theorem dL_law_701 : decode cL_law 701 = .ok (.iconst 2, 1) := by decide +kernel
theorem dL_law_702 : decode cL_law 702 = .ok (.iadd, 1) := by decide +kernel
theorem dL_law_703 : decode cL_law 703 = .ok (.iaload, 1) := by decide +kernel
theorem dL_law_704 : decode cL_law 704 = .ok (.aload_n 0, 1) := by decide +kernel
theorem dL_law_705 : decode cL_law 705 = .ok (.iload_n 3, 1) := by decide +kernel
theorem dL_law_706 : decode cL_law 706 = .ok (.iconst 3, 1) := by decide +kernel
theorem dL_law_707 : decode cL_law 707 = .ok (.iadd, 1) := by decide +kernel
theorem dL_law_708 : decode cL_law 708 = .ok (.iaload, 1) := by decide +kernel
theorem dL_law_709 : decode cL_law 709 = .ok (.invokevirtual 84, 3) := by decide +kernel
theorem dL_law_712 : decode cL_law 712 = .ok (.if_icmp .eq 832, 3) := by decide +kernel
theorem dL_law_715 : decode cL_law 715 = .ok (.iconst 0, 1) := by decide +kernel
theorem dL_law_716 : decode cL_law 716 = .ok (.ireturn, 1) := by decide +kernel
theorem dL_law_717 : decode cL_law 717 = .ok (.aload_n 1, 1) := by decide +kernel
theorem dL_law_718 : decode cL_law 718 = .ok (.aload_n 0, 1) := by decide +kernel
theorem dL_law_719 : decode cL_law 719 = .ok (.iload_n 3, 1) := by decide +kernel
theorem dL_law_720 : decode cL_law 720 = .ok (.iconst 1, 1) := by decide +kernel
theorem dL_law_721 : decode cL_law 721 = .ok (.iadd, 1) := by decide +kernel
theorem dL_law_722 : decode cL_law 722 = .ok (.iaload, 1) := by decide +kernel
theorem dL_law_723 : decode cL_law 723 = .ok (.invokevirtual 85, 3) := by decide +kernel
theorem dL_law_726 : decode cL_law 726 = .ok (.aload_n 2, 1) := by decide +kernel
theorem dL_law_727 : decode cL_law 727 = .ok (.aload_n 0, 1) := by decide +kernel
theorem dL_law_728 : decode cL_law 728 = .ok (.iload_n 3, 1) := by decide +kernel
theorem dL_law_729 : decode cL_law 729 = .ok (.iconst 1, 1) := by decide +kernel
theorem dL_law_730 : decode cL_law 730 = .ok (.iadd, 1) := by decide +kernel
theorem dL_law_731 : decode cL_law 731 = .ok (.iaload, 1) := by decide +kernel
theorem dL_law_732 : decode cL_law 732 = .ok (.invokevirtual 88, 3) := by decide +kernel
theorem dL_law_735 : decode cL_law 735 = .ok (.if_icmp .eq 809, 3) := by decide +kernel
theorem dL_law_738 : decode cL_law 738 = .ok (.iconst 0, 1) := by decide +kernel
theorem dL_law_739 : decode cL_law 739 = .ok (.ireturn, 1) := by decide +kernel
theorem dL_law_740 : decode cL_law 740 = .ok (.aload_n 1, 1) := by decide +kernel
theorem dL_law_741 : decode cL_law 741 = .ok (.aload_n 0, 1) := by decide +kernel
theorem dL_law_742 : decode cL_law 742 = .ok (.iload_n 3, 1) := by decide +kernel
theorem dL_law_743 : decode cL_law 743 = .ok (.iconst 1, 1) := by decide +kernel
theorem dL_law_744 : decode cL_law 744 = .ok (.iadd, 1) := by decide +kernel
theorem dL_law_745 : decode cL_law 745 = .ok (.iaload, 1) := by decide +kernel
theorem dL_law_746 : decode cL_law 746 = .ok (.invokevirtual 89, 3) := by decide +kernel
theorem dL_law_749 : decode cL_law 749 = .ok (.aload_n 2, 1) := by decide +kernel
theorem dL_law_750 : decode cL_law 750 = .ok (.aload_n 0, 1) := by decide +kernel
theorem dL_law_751 : decode cL_law 751 = .ok (.iload_n 3, 1) := by decide +kernel
theorem dL_law_752 : decode cL_law 752 = .ok (.iconst 1, 1) := by decide +kernel
theorem dL_law_753 : decode cL_law 753 = .ok (.iadd, 1) := by decide +kernel
theorem dL_law_754 : decode cL_law 754 = .ok (.iaload, 1) := by decide +kernel
theorem dL_law_755 : decode cL_law 755 = .ok (.invokevirtual 92, 3) := by decide +kernel
theorem dL_law_758 : decode cL_law 758 = .ok (.if_icmp .eq 786, 3) := by decide +kernel
theorem dL_law_761 : decode cL_law 761 = .ok (.iconst 0, 1) := by decide +kernel
theorem dL_law_762 : decode cL_law 762 = .ok (.ireturn, 1) := by decide +kernel
theorem dL_law_763 : decode cL_law 763 = .ok (.aload_n 1, 1) := by decide +kernel
theorem dL_law_764 : decode cL_law 764 = .ok (.invokevirtual 93, 3) := by decide +kernel
theorem dL_law_767 : decode cL_law 767 = .ok (.aload_n 2, 1) := by decide +kernel
theorem dL_law_768 : decode cL_law 768 = .ok (.invokevirtual 96, 3) := by decide +kernel
theorem dL_law_771 : decode cL_law 771 = .ok (.if_icmp .eq 773, 3) := by decide +kernel
theorem dL_law_774 : decode cL_law 774 = .ok (.iconst 0, 1) := by decide +kernel
theorem dL_law_775 : decode cL_law 775 = .ok (.ireturn, 1) := by decide +kernel
theorem dL_law_776 : decode cL_law 776 = .ok (.aload_n 1, 1) := by decide +kernel
theorem dL_law_777 : decode cL_law 777 = .ok (.aload_n 0, 1) := by decide +kernel
theorem dL_law_778 : decode cL_law 778 = .ok (.iload_n 3, 1) := by decide +kernel
theorem dL_law_779 : decode cL_law 779 = .ok (.iconst 1, 1) := by decide +kernel
theorem dL_law_780 : decode cL_law 780 = .ok (.iadd, 1) := by decide +kernel
theorem dL_law_781 : decode cL_law 781 = .ok (.iaload, 1) := by decide +kernel
theorem dL_law_782 : decode cL_law 782 = .ok (.aload_n 0, 1) := by decide +kernel
theorem dL_law_783 : decode cL_law 783 = .ok (.iload_n 3, 1) := by decide +kernel
theorem dL_law_784 : decode cL_law 784 = .ok (.iconst 2, 1) := by decide +kernel
theorem dL_law_785 : decode cL_law 785 = .ok (.iadd, 1) := by decide +kernel
theorem dL_law_786 : decode cL_law 786 = .ok (.iaload, 1) := by decide +kernel
theorem dL_law_787 : decode cL_law 787 = .ok (.aload_n 0, 1) := by decide +kernel
theorem dL_law_788 : decode cL_law 788 = .ok (.iload_n 3, 1) := by decide +kernel
theorem dL_law_789 : decode cL_law 789 = .ok (.iconst 3, 1) := by decide +kernel
theorem dL_law_790 : decode cL_law 790 = .ok (.iadd, 1) := by decide +kernel
theorem dL_law_791 : decode cL_law 791 = .ok (.iaload, 1) := by decide +kernel
theorem dL_law_792 : decode cL_law 792 = .ok (.invokevirtual 97, 3) := by decide +kernel
theorem dL_law_795 : decode cL_law 795 = .ok (.aload_n 2, 1) := by decide +kernel
theorem dL_law_796 : decode cL_law 796 = .ok (.aload_n 0, 1) := by decide +kernel
theorem dL_law_797 : decode cL_law 797 = .ok (.iload_n 3, 1) := by decide +kernel
theorem dL_law_798 : decode cL_law 798 = .ok (.iconst 1, 1) := by decide +kernel
theorem dL_law_799 : decode cL_law 799 = .ok (.iadd, 1) := by decide +kernel
theorem dL_law_800 : decode cL_law 800 = .ok (.iaload, 1) := by decide +kernel
theorem dL_law_801 : decode cL_law 801 = .ok (.aload_n 0, 1) := by decide +kernel
theorem dL_law_802 : decode cL_law 802 = .ok (.iload_n 3, 1) := by decide +kernel
theorem dL_law_803 : decode cL_law 803 = .ok (.iconst 2, 1) := by decide +kernel
theorem dL_law_804 : decode cL_law 804 = .ok (.iadd, 1) := by decide +kernel
theorem dL_law_805 : decode cL_law 805 = .ok (.iaload, 1) := by decide +kernel
theorem dL_law_806 : decode cL_law 806 = .ok (.aload_n 0, 1) := by decide +kernel
theorem dL_law_807 : decode cL_law 807 = .ok (.iload_n 3, 1) := by decide +kernel
theorem dL_law_808 : decode cL_law 808 = .ok (.iconst 3, 1) := by decide +kernel
theorem dL_law_809 : decode cL_law 809 = .ok (.iadd, 1) := by decide +kernel
theorem dL_law_810 : decode cL_law 810 = .ok (.iaload, 1) := by decide +kernel
theorem dL_law_811 : decode cL_law 811 = .ok (.invokevirtual 100, 3) := by decide +kernel
theorem dL_law_814 : decode cL_law 814 = .ok (.if_icmp .eq 730, 3) := by decide +kernel
theorem dL_law_817 : decode cL_law 817 = .ok (.iconst 0, 1) := by decide +kernel
theorem dL_law_818 : decode cL_law 818 = .ok (.ireturn, 1) := by decide +kernel
theorem dL_law_819 : decode cL_law 819 = .ok (.aload_n 1, 1) := by decide +kernel
theorem dL_law_820 : decode cL_law 820 = .ok (.aload_n 0, 1) := by decide +kernel
theorem dL_law_821 : decode cL_law 821 = .ok (.iload_n 3, 1) := by decide +kernel
theorem dL_law_822 : decode cL_law 822 = .ok (.iconst 1, 1) := by decide +kernel
theorem dL_law_823 : decode cL_law 823 = .ok (.iadd, 1) := by decide +kernel
theorem dL_law_824 : decode cL_law 824 = .ok (.iaload, 1) := by decide +kernel
theorem dL_law_825 : decode cL_law 825 = .ok (.aload_n 0, 1) := by decide +kernel
theorem dL_law_826 : decode cL_law 826 = .ok (.iload_n 3, 1) := by decide +kernel
theorem dL_law_827 : decode cL_law 827 = .ok (.iconst 2, 1) := by decide +kernel
theorem dL_law_828 : decode cL_law 828 = .ok (.iadd, 1) := by decide +kernel
theorem dL_law_829 : decode cL_law 829 = .ok (.iaload, 1) := by decide +kernel
theorem dL_law_830 : decode cL_law 830 = .ok (.invokevirtual 101, 3) := by decide +kernel
theorem dL_law_833 : decode cL_law 833 = .ok (.aload_n 2, 1) := by decide +kernel
theorem dL_law_834 : decode cL_law 834 = .ok (.aload_n 0, 1) := by decide +kernel
theorem dL_law_835 : decode cL_law 835 = .ok (.iload_n 3, 1) := by decide +kernel
theorem dL_law_836 : decode cL_law 836 = .ok (.iconst 1, 1) := by decide +kernel
theorem dL_law_837 : decode cL_law 837 = .ok (.iadd, 1) := by decide +kernel
theorem dL_law_838 : decode cL_law 838 = .ok (.iaload, 1) := by decide +kernel
theorem dL_law_839 : decode cL_law 839 = .ok (.aload_n 0, 1) := by decide +kernel
theorem dL_law_840 : decode cL_law 840 = .ok (.iload_n 3, 1) := by decide +kernel
theorem dL_law_841 : decode cL_law 841 = .ok (.iconst 2, 1) := by decide +kernel
theorem dL_law_842 : decode cL_law 842 = .ok (.iadd, 1) := by decide +kernel
theorem dL_law_843 : decode cL_law 843 = .ok (.iaload, 1) := by decide +kernel
theorem dL_law_844 : decode cL_law 844 = .ok (.invokevirtual 104, 3) := by decide +kernel
theorem dL_law_847 : decode cL_law 847 = .ok (.if_icmp .eq 697, 3) := by decide +kernel
theorem dL_law_850 : decode cL_law 850 = .ok (.iconst 0, 1) := by decide +kernel
theorem dL_law_851 : decode cL_law 851 = .ok (.ireturn, 1) := by decide +kernel
theorem dL_law_852 : decode cL_law 852 = .ok (.aload_n 1, 1) := by decide +kernel
theorem dL_law_853 : decode cL_law 853 = .ok (.aload_n 0, 1) := by decide +kernel
theorem dL_law_854 : decode cL_law 854 = .ok (.iload_n 3, 1) := by decide +kernel
theorem dL_law_855 : decode cL_law 855 = .ok (.iconst 1, 1) := by decide +kernel
theorem dL_law_856 : decode cL_law 856 = .ok (.iadd, 1) := by decide +kernel
theorem dL_law_857 : decode cL_law 857 = .ok (.iaload, 1) := by decide +kernel
theorem dL_law_858 : decode cL_law 858 = .ok (.aload_n 0, 1) := by decide +kernel
theorem dL_law_859 : decode cL_law 859 = .ok (.iload_n 3, 1) := by decide +kernel
theorem dL_law_860 : decode cL_law 860 = .ok (.iconst 2, 1) := by decide +kernel
theorem dL_law_861 : decode cL_law 861 = .ok (.iadd, 1) := by decide +kernel
theorem dL_law_862 : decode cL_law 862 = .ok (.iaload, 1) := by decide +kernel
theorem dL_law_863 : decode cL_law 863 = .ok (.invokevirtual 105, 3) := by decide +kernel
theorem dL_law_866 : decode cL_law 866 = .ok (.aload_n 2, 1) := by decide +kernel
theorem dL_law_867 : decode cL_law 867 = .ok (.aload_n 0, 1) := by decide +kernel
theorem dL_law_868 : decode cL_law 868 = .ok (.iload_n 3, 1) := by decide +kernel
theorem dL_law_869 : decode cL_law 869 = .ok (.iconst 1, 1) := by decide +kernel
theorem dL_law_870 : decode cL_law 870 = .ok (.iadd, 1) := by decide +kernel
theorem dL_law_871 : decode cL_law 871 = .ok (.iaload, 1) := by decide +kernel
theorem dL_law_872 : decode cL_law 872 = .ok (.aload_n 0, 1) := by decide +kernel
theorem dL_law_873 : decode cL_law 873 = .ok (.iload_n 3, 1) := by decide +kernel
theorem dL_law_874 : decode cL_law 874 = .ok (.iconst 2, 1) := by decide +kernel
theorem dL_law_875 : decode cL_law 875 = .ok (.iadd, 1) := by decide +kernel
theorem dL_law_876 : decode cL_law 876 = .ok (.iaload, 1) := by decide +kernel
theorem dL_law_877 : decode cL_law 877 = .ok (.invokevirtual 108, 3) := by decide +kernel
theorem dL_law_880 : decode cL_law 880 = .ok (.if_icmp .eq 664, 3) := by decide +kernel
theorem dL_law_883 : decode cL_law 883 = .ok (.iconst 0, 1) := by decide +kernel
theorem dL_law_884 : decode cL_law 884 = .ok (.ireturn, 1) := by decide +kernel
theorem dL_law_885 : decode cL_law 885 = .ok (.aload_n 1, 1) := by decide +kernel
theorem dL_law_886 : decode cL_law 886 = .ok (.aload_n 0, 1) := by decide +kernel
theorem dL_law_887 : decode cL_law 887 = .ok (.iload_n 3, 1) := by decide +kernel
theorem dL_law_888 : decode cL_law 888 = .ok (.iconst 1, 1) := by decide +kernel
theorem dL_law_889 : decode cL_law 889 = .ok (.iadd, 1) := by decide +kernel
theorem dL_law_890 : decode cL_law 890 = .ok (.iaload, 1) := by decide +kernel
theorem dL_law_891 : decode cL_law 891 = .ok (.aload_n 0, 1) := by decide +kernel
theorem dL_law_892 : decode cL_law 892 = .ok (.iload_n 3, 1) := by decide +kernel
theorem dL_law_893 : decode cL_law 893 = .ok (.iconst 2, 1) := by decide +kernel
theorem dL_law_894 : decode cL_law 894 = .ok (.iadd, 1) := by decide +kernel
theorem dL_law_895 : decode cL_law 895 = .ok (.iaload, 1) := by decide +kernel
theorem dL_law_896 : decode cL_law 896 = .ok (.invokevirtual 109, 3) := by decide +kernel
theorem dL_law_899 : decode cL_law 899 = .ok (.aload_n 2, 1) := by decide +kernel
theorem dL_law_900 : decode cL_law 900 = .ok (.aload_n 0, 1) := by decide +kernel
theorem dL_law_901 : decode cL_law 901 = .ok (.iload_n 3, 1) := by decide +kernel
theorem dL_law_902 : decode cL_law 902 = .ok (.iconst 1, 1) := by decide +kernel
theorem dL_law_903 : decode cL_law 903 = .ok (.iadd, 1) := by decide +kernel
theorem dL_law_904 : decode cL_law 904 = .ok (.iaload, 1) := by decide +kernel
theorem dL_law_905 : decode cL_law 905 = .ok (.aload_n 0, 1) := by decide +kernel
theorem dL_law_906 : decode cL_law 906 = .ok (.iload_n 3, 1) := by decide +kernel
theorem dL_law_907 : decode cL_law 907 = .ok (.iconst 2, 1) := by decide +kernel
theorem dL_law_908 : decode cL_law 908 = .ok (.iadd, 1) := by decide +kernel
theorem dL_law_909 : decode cL_law 909 = .ok (.iaload, 1) := by decide +kernel
theorem dL_law_910 : decode cL_law 910 = .ok (.invokevirtual 112, 3) := by decide +kernel
theorem dL_law_913 : decode cL_law 913 = .ok (.if_icmp .eq 631, 3) := by decide +kernel
theorem dL_law_916 : decode cL_law 916 = .ok (.iconst 0, 1) := by decide +kernel
theorem dL_law_917 : decode cL_law 917 = .ok (.ireturn, 1) := by decide +kernel
theorem dL_law_918 : decode cL_law 918 = .ok (.aload_n 1, 1) := by decide +kernel
theorem dL_law_919 : decode cL_law 919 = .ok (.aload_n 0, 1) := by decide +kernel
theorem dL_law_920 : decode cL_law 920 = .ok (.iload_n 3, 1) := by decide +kernel
theorem dL_law_921 : decode cL_law 921 = .ok (.iconst 1, 1) := by decide +kernel
theorem dL_law_922 : decode cL_law 922 = .ok (.iadd, 1) := by decide +kernel
theorem dL_law_923 : decode cL_law 923 = .ok (.iaload, 1) := by decide +kernel
theorem dL_law_924 : decode cL_law 924 = .ok (.aload_n 0, 1) := by decide +kernel
theorem dL_law_925 : decode cL_law 925 = .ok (.iload_n 3, 1) := by decide +kernel
theorem dL_law_926 : decode cL_law 926 = .ok (.iconst 2, 1) := by decide +kernel
theorem dL_law_927 : decode cL_law 927 = .ok (.iadd, 1) := by decide +kernel
theorem dL_law_928 : decode cL_law 928 = .ok (.iaload, 1) := by decide +kernel
theorem dL_law_929 : decode cL_law 929 = .ok (.aload_n 0, 1) := by decide +kernel
theorem dL_law_930 : decode cL_law 930 = .ok (.iload_n 3, 1) := by decide +kernel
theorem dL_law_931 : decode cL_law 931 = .ok (.iconst 3, 1) := by decide +kernel
theorem dL_law_932 : decode cL_law 932 = .ok (.iadd, 1) := by decide +kernel
theorem dL_law_933 : decode cL_law 933 = .ok (.iaload, 1) := by decide +kernel
theorem dL_law_934 : decode cL_law 934 = .ok (.invokevirtual 113, 3) := by decide +kernel
theorem dL_law_937 : decode cL_law 937 = .ok (.aload_n 2, 1) := by decide +kernel
theorem dL_law_938 : decode cL_law 938 = .ok (.aload_n 0, 1) := by decide +kernel
theorem dL_law_939 : decode cL_law 939 = .ok (.iload_n 3, 1) := by decide +kernel
theorem dL_law_940 : decode cL_law 940 = .ok (.iconst 1, 1) := by decide +kernel
theorem dL_law_941 : decode cL_law 941 = .ok (.iadd, 1) := by decide +kernel
theorem dL_law_942 : decode cL_law 942 = .ok (.iaload, 1) := by decide +kernel
theorem dL_law_943 : decode cL_law 943 = .ok (.aload_n 0, 1) := by decide +kernel
theorem dL_law_944 : decode cL_law 944 = .ok (.iload_n 3, 1) := by decide +kernel
theorem dL_law_945 : decode cL_law 945 = .ok (.iconst 2, 1) := by decide +kernel
theorem dL_law_946 : decode cL_law 946 = .ok (.iadd, 1) := by decide +kernel
theorem dL_law_947 : decode cL_law 947 = .ok (.iaload, 1) := by decide +kernel
theorem dL_law_948 : decode cL_law 948 = .ok (.aload_n 0, 1) := by decide +kernel
theorem dL_law_949 : decode cL_law 949 = .ok (.iload_n 3, 1) := by decide +kernel
theorem dL_law_950 : decode cL_law 950 = .ok (.iconst 3, 1) := by decide +kernel
theorem dL_law_951 : decode cL_law 951 = .ok (.iadd, 1) := by decide +kernel
theorem dL_law_952 : decode cL_law 952 = .ok (.iaload, 1) := by decide +kernel
theorem dL_law_953 : decode cL_law 953 = .ok (.invokevirtual 116, 3) := by decide +kernel
theorem dL_law_956 : decode cL_law 956 = .ok (.if_icmp .eq 588, 3) := by decide +kernel
theorem dL_law_959 : decode cL_law 959 = .ok (.iconst 0, 1) := by decide +kernel
theorem dL_law_960 : decode cL_law 960 = .ok (.ireturn, 1) := by decide +kernel
theorem dL_law_961 : decode cL_law 961 = .ok (.aload_n 1, 1) := by decide +kernel
theorem dL_law_962 : decode cL_law 962 = .ok (.aload_n 0, 1) := by decide +kernel
theorem dL_law_963 : decode cL_law 963 = .ok (.iload_n 3, 1) := by decide +kernel
theorem dL_law_964 : decode cL_law 964 = .ok (.iconst 1, 1) := by decide +kernel
theorem dL_law_965 : decode cL_law 965 = .ok (.iadd, 1) := by decide +kernel
theorem dL_law_966 : decode cL_law 966 = .ok (.iaload, 1) := by decide +kernel
theorem dL_law_967 : decode cL_law 967 = .ok (.aload_n 0, 1) := by decide +kernel
theorem dL_law_968 : decode cL_law 968 = .ok (.iload_n 3, 1) := by decide +kernel
theorem dL_law_969 : decode cL_law 969 = .ok (.iconst 2, 1) := by decide +kernel
theorem dL_law_970 : decode cL_law 970 = .ok (.iadd, 1) := by decide +kernel
theorem dL_law_971 : decode cL_law 971 = .ok (.iaload, 1) := by decide +kernel
theorem dL_law_972 : decode cL_law 972 = .ok (.aload_n 0, 1) := by decide +kernel
theorem dL_law_973 : decode cL_law 973 = .ok (.iload_n 3, 1) := by decide +kernel
theorem dL_law_974 : decode cL_law 974 = .ok (.iconst 3, 1) := by decide +kernel
theorem dL_law_975 : decode cL_law 975 = .ok (.iadd, 1) := by decide +kernel
theorem dL_law_976 : decode cL_law 976 = .ok (.iaload, 1) := by decide +kernel
theorem dL_law_977 : decode cL_law 977 = .ok (.invokevirtual 117, 3) := by decide +kernel
theorem dL_law_980 : decode cL_law 980 = .ok (.aload_n 2, 1) := by decide +kernel
theorem dL_law_981 : decode cL_law 981 = .ok (.aload_n 0, 1) := by decide +kernel
theorem dL_law_982 : decode cL_law 982 = .ok (.iload_n 3, 1) := by decide +kernel
theorem dL_law_983 : decode cL_law 983 = .ok (.iconst 1, 1) := by decide +kernel
theorem dL_law_984 : decode cL_law 984 = .ok (.iadd, 1) := by decide +kernel
theorem dL_law_985 : decode cL_law 985 = .ok (.iaload, 1) := by decide +kernel
theorem dL_law_986 : decode cL_law 986 = .ok (.aload_n 0, 1) := by decide +kernel
theorem dL_law_987 : decode cL_law 987 = .ok (.iload_n 3, 1) := by decide +kernel
theorem dL_law_988 : decode cL_law 988 = .ok (.iconst 2, 1) := by decide +kernel
theorem dL_law_989 : decode cL_law 989 = .ok (.iadd, 1) := by decide +kernel
theorem dL_law_990 : decode cL_law 990 = .ok (.iaload, 1) := by decide +kernel
theorem dL_law_991 : decode cL_law 991 = .ok (.aload_n 0, 1) := by decide +kernel
theorem dL_law_992 : decode cL_law 992 = .ok (.iload_n 3, 1) := by decide +kernel
theorem dL_law_993 : decode cL_law 993 = .ok (.iconst 3, 1) := by decide +kernel
theorem dL_law_994 : decode cL_law 994 = .ok (.iadd, 1) := by decide +kernel
theorem dL_law_995 : decode cL_law 995 = .ok (.iaload, 1) := by decide +kernel
theorem dL_law_996 : decode cL_law 996 = .ok (.invokevirtual 120, 3) := by decide +kernel
theorem dL_law_999 : decode cL_law 999 = .ok (.if_icmp .eq 545, 3) := by decide +kernel
theorem dL_law_1002 : decode cL_law 1002 = .ok (.iconst 0, 1) := by decide +kernel
theorem dL_law_1003 : decode cL_law 1003 = .ok (.ireturn, 1) := by decide +kernel
theorem dL_law_1004 : decode cL_law 1004 = .ok (.aload_n 1, 1) := by decide +kernel
theorem dL_law_1005 : decode cL_law 1005 = .ok (.aload_n 0, 1) := by decide +kernel
theorem dL_law_1006 : decode cL_law 1006 = .ok (.iload_n 3, 1) := by decide +kernel
theorem dL_law_1007 : decode cL_law 1007 = .ok (.iconst 1, 1) := by decide +kernel
theorem dL_law_1008 : decode cL_law 1008 = .ok (.iadd, 1) := by decide +kernel
theorem dL_law_1009 : decode cL_law 1009 = .ok (.iaload, 1) := by decide +kernel
theorem dL_law_1010 : decode cL_law 1010 = .ok (.aload_n 0, 1) := by decide +kernel
theorem dL_law_1011 : decode cL_law 1011 = .ok (.iload_n 3, 1) := by decide +kernel
theorem dL_law_1012 : decode cL_law 1012 = .ok (.iconst 2, 1) := by decide +kernel
theorem dL_law_1013 : decode cL_law 1013 = .ok (.iadd, 1) := by decide +kernel
theorem dL_law_1014 : decode cL_law 1014 = .ok (.iaload, 1) := by decide +kernel
theorem dL_law_1015 : decode cL_law 1015 = .ok (.invokevirtual 121, 3) := by decide +kernel
theorem dL_law_1018 : decode cL_law 1018 = .ok (.aload_n 2, 1) := by decide +kernel
theorem dL_law_1019 : decode cL_law 1019 = .ok (.aload_n 0, 1) := by decide +kernel
theorem dL_law_1020 : decode cL_law 1020 = .ok (.iload_n 3, 1) := by decide +kernel
theorem dL_law_1021 : decode cL_law 1021 = .ok (.iconst 1, 1) := by decide +kernel
theorem dL_law_1022 : decode cL_law 1022 = .ok (.iadd, 1) := by decide +kernel
theorem dL_law_1023 : decode cL_law 1023 = .ok (.iaload, 1) := by decide +kernel
theorem dL_law_1024 : decode cL_law 1024 = .ok (.aload_n 0, 1) := by decide +kernel
theorem dL_law_1025 : decode cL_law 1025 = .ok (.iload_n 3, 1) := by decide +kernel
theorem dL_law_1026 : decode cL_law 1026 = .ok (.iconst 2, 1) := by decide +kernel
theorem dL_law_1027 : decode cL_law 1027 = .ok (.iadd, 1) := by decide +kernel
theorem dL_law_1028 : decode cL_law 1028 = .ok (.iaload, 1) := by decide +kernel
theorem dL_law_1029 : decode cL_law 1029 = .ok (.invokevirtual 124, 3) := by decide +kernel
theorem dL_law_1032 : decode cL_law 1032 = .ok (.if_icmp .eq 512, 3) := by decide +kernel
theorem dL_law_1035 : decode cL_law 1035 = .ok (.iconst 0, 1) := by decide +kernel
theorem dL_law_1036 : decode cL_law 1036 = .ok (.ireturn, 1) := by decide +kernel
theorem dL_law_1037 : decode cL_law 1037 = .ok (.aload_n 1, 1) := by decide +kernel
theorem dL_law_1038 : decode cL_law 1038 = .ok (.aload_n 0, 1) := by decide +kernel
theorem dL_law_1039 : decode cL_law 1039 = .ok (.iload_n 3, 1) := by decide +kernel
theorem dL_law_1040 : decode cL_law 1040 = .ok (.iconst 1, 1) := by decide +kernel
theorem dL_law_1041 : decode cL_law 1041 = .ok (.iadd, 1) := by decide +kernel
theorem dL_law_1042 : decode cL_law 1042 = .ok (.iaload, 1) := by decide +kernel
theorem dL_law_1043 : decode cL_law 1043 = .ok (.aload_n 0, 1) := by decide +kernel
theorem dL_law_1044 : decode cL_law 1044 = .ok (.iload_n 3, 1) := by decide +kernel
theorem dL_law_1045 : decode cL_law 1045 = .ok (.iconst 2, 1) := by decide +kernel
theorem dL_law_1046 : decode cL_law 1046 = .ok (.iadd, 1) := by decide +kernel
theorem dL_law_1047 : decode cL_law 1047 = .ok (.iaload, 1) := by decide +kernel
theorem dL_law_1048 : decode cL_law 1048 = .ok (.aload_n 0, 1) := by decide +kernel
theorem dL_law_1049 : decode cL_law 1049 = .ok (.iload_n 3, 1) := by decide +kernel
theorem dL_law_1050 : decode cL_law 1050 = .ok (.iconst 3, 1) := by decide +kernel
theorem dL_law_1051 : decode cL_law 1051 = .ok (.iadd, 1) := by decide +kernel
theorem dL_law_1052 : decode cL_law 1052 = .ok (.iaload, 1) := by decide +kernel
theorem dL_law_1053 : decode cL_law 1053 = .ok (.aload_n 0, 1) := by decide +kernel
theorem dL_law_1054 : decode cL_law 1054 = .ok (.iload_n 3, 1) := by decide +kernel
theorem dL_law_1055 : decode cL_law 1055 = .ok (.iconst 4, 1) := by decide +kernel
theorem dL_law_1056 : decode cL_law 1056 = .ok (.iadd, 1) := by decide +kernel
theorem dL_law_1057 : decode cL_law 1057 = .ok (.iaload, 1) := by decide +kernel
theorem dL_law_1058 : decode cL_law 1058 = .ok (.invokevirtual 125, 3) := by decide +kernel
theorem dL_law_1061 : decode cL_law 1061 = .ok (.aload_n 2, 1) := by decide +kernel
theorem dL_law_1062 : decode cL_law 1062 = .ok (.aload_n 0, 1) := by decide +kernel
theorem dL_law_1063 : decode cL_law 1063 = .ok (.iload_n 3, 1) := by decide +kernel
theorem dL_law_1064 : decode cL_law 1064 = .ok (.iconst 1, 1) := by decide +kernel
theorem dL_law_1065 : decode cL_law 1065 = .ok (.iadd, 1) := by decide +kernel
theorem dL_law_1066 : decode cL_law 1066 = .ok (.iaload, 1) := by decide +kernel
theorem dL_law_1067 : decode cL_law 1067 = .ok (.aload_n 0, 1) := by decide +kernel
theorem dL_law_1068 : decode cL_law 1068 = .ok (.iload_n 3, 1) := by decide +kernel
theorem dL_law_1069 : decode cL_law 1069 = .ok (.iconst 2, 1) := by decide +kernel
theorem dL_law_1070 : decode cL_law 1070 = .ok (.iadd, 1) := by decide +kernel
theorem dL_law_1071 : decode cL_law 1071 = .ok (.iaload, 1) := by decide +kernel
theorem dL_law_1072 : decode cL_law 1072 = .ok (.aload_n 0, 1) := by decide +kernel
theorem dL_law_1073 : decode cL_law 1073 = .ok (.iload_n 3, 1) := by decide +kernel
theorem dL_law_1074 : decode cL_law 1074 = .ok (.iconst 3, 1) := by decide +kernel
theorem dL_law_1075 : decode cL_law 1075 = .ok (.iadd, 1) := by decide +kernel
theorem dL_law_1076 : decode cL_law 1076 = .ok (.iaload, 1) := by decide +kernel
theorem dL_law_1077 : decode cL_law 1077 = .ok (.aload_n 0, 1) := by decide +kernel
theorem dL_law_1078 : decode cL_law 1078 = .ok (.iload_n 3, 1) := by decide +kernel
theorem dL_law_1079 : decode cL_law 1079 = .ok (.iconst 4, 1) := by decide +kernel
theorem dL_law_1080 : decode cL_law 1080 = .ok (.iadd, 1) := by decide +kernel
theorem dL_law_1081 : decode cL_law 1081 = .ok (.iaload, 1) := by decide +kernel
theorem dL_law_1082 : decode cL_law 1082 = .ok (.invokevirtual 129, 3) := by decide +kernel
theorem dL_law_1085 : decode cL_law 1085 = .ok (.lcmp, 1) := by decide +kernel
theorem dL_law_1086 : decode cL_law 1086 = .ok (.ifCond .eq 458, 3) := by decide +kernel
theorem dL_law_1089 : decode cL_law 1089 = .ok (.iconst 0, 1) := by decide +kernel
theorem dL_law_1090 : decode cL_law 1090 = .ok (.ireturn, 1) := by decide +kernel
theorem dL_law_1091 : decode cL_law 1091 = .ok (.aload_n 1, 1) := by decide +kernel
theorem dL_law_1092 : decode cL_law 1092 = .ok (.aload_n 0, 1) := by decide +kernel
theorem dL_law_1093 : decode cL_law 1093 = .ok (.iload_n 3, 1) := by decide +kernel
theorem dL_law_1094 : decode cL_law 1094 = .ok (.iconst 1, 1) := by decide +kernel
theorem dL_law_1095 : decode cL_law 1095 = .ok (.iadd, 1) := by decide +kernel
theorem dL_law_1096 : decode cL_law 1096 = .ok (.iaload, 1) := by decide +kernel
theorem dL_law_1097 : decode cL_law 1097 = .ok (.aload_n 0, 1) := by decide +kernel
theorem dL_law_1098 : decode cL_law 1098 = .ok (.iload_n 3, 1) := by decide +kernel
theorem dL_law_1099 : decode cL_law 1099 = .ok (.iconst 2, 1) := by decide +kernel
theorem dL_law_1100 : decode cL_law 1100 = .ok (.iadd, 1) := by decide +kernel
theorem dL_law_1101 : decode cL_law 1101 = .ok (.iaload, 1) := by decide +kernel
theorem dL_law_1102 : decode cL_law 1102 = .ok (.aload_n 0, 1) := by decide +kernel
theorem dL_law_1103 : decode cL_law 1103 = .ok (.iload_n 3, 1) := by decide +kernel
theorem dL_law_1104 : decode cL_law 1104 = .ok (.iconst 3, 1) := by decide +kernel
theorem dL_law_1105 : decode cL_law 1105 = .ok (.iadd, 1) := by decide +kernel
theorem dL_law_1106 : decode cL_law 1106 = .ok (.iaload, 1) := by decide +kernel
theorem dL_law_1107 : decode cL_law 1107 = .ok (.invokevirtual 130, 3) := by decide +kernel
theorem dL_law_1110 : decode cL_law 1110 = .ok (.aload_n 2, 1) := by decide +kernel
theorem dL_law_1111 : decode cL_law 1111 = .ok (.aload_n 0, 1) := by decide +kernel
theorem dL_law_1112 : decode cL_law 1112 = .ok (.iload_n 3, 1) := by decide +kernel
theorem dL_law_1113 : decode cL_law 1113 = .ok (.iconst 1, 1) := by decide +kernel
theorem dL_law_1114 : decode cL_law 1114 = .ok (.iadd, 1) := by decide +kernel
theorem dL_law_1115 : decode cL_law 1115 = .ok (.iaload, 1) := by decide +kernel
theorem dL_law_1116 : decode cL_law 1116 = .ok (.aload_n 0, 1) := by decide +kernel
theorem dL_law_1117 : decode cL_law 1117 = .ok (.iload_n 3, 1) := by decide +kernel
theorem dL_law_1118 : decode cL_law 1118 = .ok (.iconst 2, 1) := by decide +kernel
theorem dL_law_1119 : decode cL_law 1119 = .ok (.iadd, 1) := by decide +kernel
theorem dL_law_1120 : decode cL_law 1120 = .ok (.iaload, 1) := by decide +kernel
theorem dL_law_1121 : decode cL_law 1121 = .ok (.aload_n 0, 1) := by decide +kernel
theorem dL_law_1122 : decode cL_law 1122 = .ok (.iload_n 3, 1) := by decide +kernel
theorem dL_law_1123 : decode cL_law 1123 = .ok (.iconst 3, 1) := by decide +kernel
theorem dL_law_1124 : decode cL_law 1124 = .ok (.iadd, 1) := by decide +kernel
theorem dL_law_1125 : decode cL_law 1125 = .ok (.iaload, 1) := by decide +kernel
theorem dL_law_1126 : decode cL_law 1126 = .ok (.invokevirtual 134, 3) := by decide +kernel
theorem dL_law_1129 : decode cL_law 1129 = .ok (.lcmp, 1) := by decide +kernel
theorem dL_law_1130 : decode cL_law 1130 = .ok (.ifCond .eq 414, 3) := by decide +kernel
theorem dL_law_1133 : decode cL_law 1133 = .ok (.iconst 0, 1) := by decide +kernel
theorem dL_law_1134 : decode cL_law 1134 = .ok (.ireturn, 1) := by decide +kernel
theorem dL_law_1135 : decode cL_law 1135 = .ok (.aload_n 1, 1) := by decide +kernel
theorem dL_law_1136 : decode cL_law 1136 = .ok (.aload_n 0, 1) := by decide +kernel
theorem dL_law_1137 : decode cL_law 1137 = .ok (.iload_n 3, 1) := by decide +kernel
theorem dL_law_1138 : decode cL_law 1138 = .ok (.iconst 1, 1) := by decide +kernel
theorem dL_law_1139 : decode cL_law 1139 = .ok (.iadd, 1) := by decide +kernel
theorem dL_law_1140 : decode cL_law 1140 = .ok (.iaload, 1) := by decide +kernel
theorem dL_law_1141 : decode cL_law 1141 = .ok (.aload_n 0, 1) := by decide +kernel
theorem dL_law_1142 : decode cL_law 1142 = .ok (.iload_n 3, 1) := by decide +kernel
theorem dL_law_1143 : decode cL_law 1143 = .ok (.iconst 2, 1) := by decide +kernel
theorem dL_law_1144 : decode cL_law 1144 = .ok (.iadd, 1) := by decide +kernel
theorem dL_law_1145 : decode cL_law 1145 = .ok (.iaload, 1) := by decide +kernel
theorem dL_law_1146 : decode cL_law 1146 = .ok (.aload_n 0, 1) := by decide +kernel
theorem dL_law_1147 : decode cL_law 1147 = .ok (.iload_n 3, 1) := by decide +kernel
theorem dL_law_1148 : decode cL_law 1148 = .ok (.iconst 3, 1) := by decide +kernel
theorem dL_law_1149 : decode cL_law 1149 = .ok (.iadd, 1) := by decide +kernel
theorem dL_law_1150 : decode cL_law 1150 = .ok (.iaload, 1) := by decide +kernel
theorem dL_law_1151 : decode cL_law 1151 = .ok (.invokevirtual 135, 3) := by decide +kernel
theorem dL_law_1154 : decode cL_law 1154 = .ok (.aload_n 2, 1) := by decide +kernel
theorem dL_law_1155 : decode cL_law 1155 = .ok (.aload_n 0, 1) := by decide +kernel
theorem dL_law_1156 : decode cL_law 1156 = .ok (.iload_n 3, 1) := by decide +kernel
theorem dL_law_1157 : decode cL_law 1157 = .ok (.iconst 1, 1) := by decide +kernel
theorem dL_law_1158 : decode cL_law 1158 = .ok (.iadd, 1) := by decide +kernel
theorem dL_law_1159 : decode cL_law 1159 = .ok (.iaload, 1) := by decide +kernel
theorem dL_law_1160 : decode cL_law 1160 = .ok (.aload_n 0, 1) := by decide +kernel
theorem dL_law_1161 : decode cL_law 1161 = .ok (.iload_n 3, 1) := by decide +kernel
theorem dL_law_1162 : decode cL_law 1162 = .ok (.iconst 2, 1) := by decide +kernel
theorem dL_law_1163 : decode cL_law 1163 = .ok (.iadd, 1) := by decide +kernel
theorem dL_law_1164 : decode cL_law 1164 = .ok (.iaload, 1) := by decide +kernel
theorem dL_law_1165 : decode cL_law 1165 = .ok (.aload_n 0, 1) := by decide +kernel
theorem dL_law_1166 : decode cL_law 1166 = .ok (.iload_n 3, 1) := by decide +kernel
theorem dL_law_1167 : decode cL_law 1167 = .ok (.iconst 3, 1) := by decide +kernel
theorem dL_law_1168 : decode cL_law 1168 = .ok (.iadd, 1) := by decide +kernel
theorem dL_law_1169 : decode cL_law 1169 = .ok (.iaload, 1) := by decide +kernel
theorem dL_law_1170 : decode cL_law 1170 = .ok (.invokevirtual 138, 3) := by decide +kernel
theorem dL_law_1173 : decode cL_law 1173 = .ok (.if_icmp .eq 371, 3) := by decide +kernel
theorem dL_law_1176 : decode cL_law 1176 = .ok (.iconst 0, 1) := by decide +kernel
theorem dL_law_1177 : decode cL_law 1177 = .ok (.ireturn, 1) := by decide +kernel
theorem dL_law_1178 : decode cL_law 1178 = .ok (.aload_n 1, 1) := by decide +kernel
theorem dL_law_1179 : decode cL_law 1179 = .ok (.aload_n 0, 1) := by decide +kernel
theorem dL_law_1180 : decode cL_law 1180 = .ok (.iload_n 3, 1) := by decide +kernel
theorem dL_law_1181 : decode cL_law 1181 = .ok (.iconst 1, 1) := by decide +kernel
theorem dL_law_1182 : decode cL_law 1182 = .ok (.iadd, 1) := by decide +kernel
theorem dL_law_1183 : decode cL_law 1183 = .ok (.iaload, 1) := by decide +kernel
theorem dL_law_1184 : decode cL_law 1184 = .ok (.invokevirtual 139, 3) := by decide +kernel
theorem dL_law_1187 : decode cL_law 1187 = .ok (.aload_n 2, 1) := by decide +kernel
theorem dL_law_1188 : decode cL_law 1188 = .ok (.aload_n 0, 1) := by decide +kernel
theorem dL_law_1189 : decode cL_law 1189 = .ok (.iload_n 3, 1) := by decide +kernel
theorem dL_law_1190 : decode cL_law 1190 = .ok (.iconst 1, 1) := by decide +kernel
theorem dL_law_1191 : decode cL_law 1191 = .ok (.iadd, 1) := by decide +kernel
theorem dL_law_1192 : decode cL_law 1192 = .ok (.iaload, 1) := by decide +kernel
theorem dL_law_1193 : decode cL_law 1193 = .ok (.invokevirtual 142, 3) := by decide +kernel
theorem dL_law_1196 : decode cL_law 1196 = .ok (.if_icmp .eq 348, 3) := by decide +kernel
theorem dL_law_1199 : decode cL_law 1199 = .ok (.iconst 0, 1) := by decide +kernel
theorem dL_law_1200 : decode cL_law 1200 = .ok (.ireturn, 1) := by decide +kernel
theorem dL_law_1201 : decode cL_law 1201 = .ok (.aload_n 1, 1) := by decide +kernel
theorem dL_law_1202 : decode cL_law 1202 = .ok (.aload_n 0, 1) := by decide +kernel
theorem dL_law_1203 : decode cL_law 1203 = .ok (.iload_n 3, 1) := by decide +kernel
theorem dL_law_1204 : decode cL_law 1204 = .ok (.iconst 1, 1) := by decide +kernel
theorem dL_law_1205 : decode cL_law 1205 = .ok (.iadd, 1) := by decide +kernel
theorem dL_law_1206 : decode cL_law 1206 = .ok (.iaload, 1) := by decide +kernel
theorem dL_law_1207 : decode cL_law 1207 = .ok (.invokevirtual 143, 3) := by decide +kernel
theorem dL_law_1210 : decode cL_law 1210 = .ok (.aload_n 2, 1) := by decide +kernel
theorem dL_law_1211 : decode cL_law 1211 = .ok (.aload_n 0, 1) := by decide +kernel
theorem dL_law_1212 : decode cL_law 1212 = .ok (.iload_n 3, 1) := by decide +kernel
theorem dL_law_1213 : decode cL_law 1213 = .ok (.iconst 1, 1) := by decide +kernel
theorem dL_law_1214 : decode cL_law 1214 = .ok (.iadd, 1) := by decide +kernel
theorem dL_law_1215 : decode cL_law 1215 = .ok (.iaload, 1) := by decide +kernel
theorem dL_law_1216 : decode cL_law 1216 = .ok (.invokevirtual 146, 3) := by decide +kernel
theorem dL_law_1219 : decode cL_law 1219 = .ok (.if_icmp .eq 325, 3) := by decide +kernel
theorem dL_law_1222 : decode cL_law 1222 = .ok (.iconst 0, 1) := by decide +kernel
theorem dL_law_1223 : decode cL_law 1223 = .ok (.ireturn, 1) := by decide +kernel
theorem dL_law_1224 : decode cL_law 1224 = .ok (.aload_n 1, 1) := by decide +kernel
theorem dL_law_1225 : decode cL_law 1225 = .ok (.aload_n 0, 1) := by decide +kernel
theorem dL_law_1226 : decode cL_law 1226 = .ok (.iload_n 3, 1) := by decide +kernel
theorem dL_law_1227 : decode cL_law 1227 = .ok (.iconst 1, 1) := by decide +kernel
theorem dL_law_1228 : decode cL_law 1228 = .ok (.iadd, 1) := by decide +kernel
theorem dL_law_1229 : decode cL_law 1229 = .ok (.iaload, 1) := by decide +kernel
theorem dL_law_1230 : decode cL_law 1230 = .ok (.invokevirtual 147, 3) := by decide +kernel
theorem dL_law_1233 : decode cL_law 1233 = .ok (.aload_n 2, 1) := by decide +kernel
theorem dL_law_1234 : decode cL_law 1234 = .ok (.aload_n 0, 1) := by decide +kernel
theorem dL_law_1235 : decode cL_law 1235 = .ok (.iload_n 3, 1) := by decide +kernel
theorem dL_law_1236 : decode cL_law 1236 = .ok (.iconst 1, 1) := by decide +kernel
theorem dL_law_1237 : decode cL_law 1237 = .ok (.iadd, 1) := by decide +kernel
theorem dL_law_1238 : decode cL_law 1238 = .ok (.iaload, 1) := by decide +kernel
theorem dL_law_1239 : decode cL_law 1239 = .ok (.invokevirtual 150, 3) := by decide +kernel
theorem dL_law_1242 : decode cL_law 1242 = .ok (.if_icmp .eq 302, 3) := by decide +kernel
theorem dL_law_1245 : decode cL_law 1245 = .ok (.iconst 0, 1) := by decide +kernel
theorem dL_law_1246 : decode cL_law 1246 = .ok (.ireturn, 1) := by decide +kernel
theorem dL_law_1247 : decode cL_law 1247 = .ok (.aload_n 1, 1) := by decide +kernel
theorem dL_law_1248 : decode cL_law 1248 = .ok (.aload_n 0, 1) := by decide +kernel
theorem dL_law_1249 : decode cL_law 1249 = .ok (.iload_n 3, 1) := by decide +kernel
theorem dL_law_1250 : decode cL_law 1250 = .ok (.iconst 1, 1) := by decide +kernel
theorem dL_law_1251 : decode cL_law 1251 = .ok (.iadd, 1) := by decide +kernel
theorem dL_law_1252 : decode cL_law 1252 = .ok (.iaload, 1) := by decide +kernel
theorem dL_law_1253 : decode cL_law 1253 = .ok (.aload_n 0, 1) := by decide +kernel
theorem dL_law_1254 : decode cL_law 1254 = .ok (.iload_n 3, 1) := by decide +kernel
theorem dL_law_1255 : decode cL_law 1255 = .ok (.iconst 2, 1) := by decide +kernel
theorem dL_law_1256 : decode cL_law 1256 = .ok (.iadd, 1) := by decide +kernel
theorem dL_law_1257 : decode cL_law 1257 = .ok (.iaload, 1) := by decide +kernel
theorem dL_law_1258 : decode cL_law 1258 = .ok (.invokevirtual 151, 3) := by decide +kernel
theorem dL_law_1261 : decode cL_law 1261 = .ok (.aload_n 2, 1) := by decide +kernel
theorem dL_law_1262 : decode cL_law 1262 = .ok (.aload_n 0, 1) := by decide +kernel
theorem dL_law_1263 : decode cL_law 1263 = .ok (.iload_n 3, 1) := by decide +kernel
theorem dL_law_1264 : decode cL_law 1264 = .ok (.iconst 1, 1) := by decide +kernel
theorem dL_law_1265 : decode cL_law 1265 = .ok (.iadd, 1) := by decide +kernel
theorem dL_law_1266 : decode cL_law 1266 = .ok (.iaload, 1) := by decide +kernel
theorem dL_law_1267 : decode cL_law 1267 = .ok (.aload_n 0, 1) := by decide +kernel
theorem dL_law_1268 : decode cL_law 1268 = .ok (.iload_n 3, 1) := by decide +kernel
theorem dL_law_1269 : decode cL_law 1269 = .ok (.iconst 2, 1) := by decide +kernel
theorem dL_law_1270 : decode cL_law 1270 = .ok (.iadd, 1) := by decide +kernel
theorem dL_law_1271 : decode cL_law 1271 = .ok (.iaload, 1) := by decide +kernel
theorem dL_law_1272 : decode cL_law 1272 = .ok (.invokevirtual 154, 3) := by decide +kernel
theorem dL_law_1275 : decode cL_law 1275 = .ok (.if_icmp .eq 269, 3) := by decide +kernel
theorem dL_law_1278 : decode cL_law 1278 = .ok (.iconst 0, 1) := by decide +kernel
theorem dL_law_1279 : decode cL_law 1279 = .ok (.ireturn, 1) := by decide +kernel
theorem dL_law_1280 : decode cL_law 1280 = .ok (.aload_n 1, 1) := by decide +kernel
theorem dL_law_1281 : decode cL_law 1281 = .ok (.aload_n 0, 1) := by decide +kernel
theorem dL_law_1282 : decode cL_law 1282 = .ok (.iload_n 3, 1) := by decide +kernel
theorem dL_law_1283 : decode cL_law 1283 = .ok (.iconst 1, 1) := by decide +kernel
theorem dL_law_1284 : decode cL_law 1284 = .ok (.iadd, 1) := by decide +kernel
theorem dL_law_1285 : decode cL_law 1285 = .ok (.iaload, 1) := by decide +kernel
theorem dL_law_1286 : decode cL_law 1286 = .ok (.aload_n 0, 1) := by decide +kernel
theorem dL_law_1287 : decode cL_law 1287 = .ok (.iload_n 3, 1) := by decide +kernel
theorem dL_law_1288 : decode cL_law 1288 = .ok (.iconst 2, 1) := by decide +kernel
theorem dL_law_1289 : decode cL_law 1289 = .ok (.iadd, 1) := by decide +kernel
theorem dL_law_1290 : decode cL_law 1290 = .ok (.iaload, 1) := by decide +kernel
theorem dL_law_1291 : decode cL_law 1291 = .ok (.aload_n 0, 1) := by decide +kernel
theorem dL_law_1292 : decode cL_law 1292 = .ok (.iload_n 3, 1) := by decide +kernel
theorem dL_law_1293 : decode cL_law 1293 = .ok (.iconst 3, 1) := by decide +kernel
theorem dL_law_1294 : decode cL_law 1294 = .ok (.iadd, 1) := by decide +kernel
theorem dL_law_1295 : decode cL_law 1295 = .ok (.iaload, 1) := by decide +kernel
theorem dL_law_1296 : decode cL_law 1296 = .ok (.invokevirtual 155, 3) := by decide +kernel
theorem dL_law_1299 : decode cL_law 1299 = .ok (.aload_n 2, 1) := by decide +kernel
theorem dL_law_1300 : decode cL_law 1300 = .ok (.aload_n 0, 1) := by decide +kernel
theorem dL_law_1301 : decode cL_law 1301 = .ok (.iload_n 3, 1) := by decide +kernel
theorem dL_law_1302 : decode cL_law 1302 = .ok (.iconst 1, 1) := by decide +kernel
theorem dL_law_1303 : decode cL_law 1303 = .ok (.iadd, 1) := by decide +kernel
theorem dL_law_1304 : decode cL_law 1304 = .ok (.iaload, 1) := by decide +kernel
theorem dL_law_1305 : decode cL_law 1305 = .ok (.aload_n 0, 1) := by decide +kernel
theorem dL_law_1306 : decode cL_law 1306 = .ok (.iload_n 3, 1) := by decide +kernel
theorem dL_law_1307 : decode cL_law 1307 = .ok (.iconst 2, 1) := by decide +kernel
theorem dL_law_1308 : decode cL_law 1308 = .ok (.iadd, 1) := by decide +kernel
theorem dL_law_1309 : decode cL_law 1309 = .ok (.iaload, 1) := by decide +kernel
theorem dL_law_1310 : decode cL_law 1310 = .ok (.aload_n 0, 1) := by decide +kernel
theorem dL_law_1311 : decode cL_law 1311 = .ok (.iload_n 3, 1) := by decide +kernel
theorem dL_law_1312 : decode cL_law 1312 = .ok (.iconst 3, 1) := by decide +kernel
theorem dL_law_1313 : decode cL_law 1313 = .ok (.iadd, 1) := by decide +kernel
theorem dL_law_1314 : decode cL_law 1314 = .ok (.iaload, 1) := by decide +kernel
theorem dL_law_1315 : decode cL_law 1315 = .ok (.invokevirtual 158, 3) := by decide +kernel
theorem dL_law_1318 : decode cL_law 1318 = .ok (.if_icmp .eq 226, 3) := by decide +kernel
theorem dL_law_1321 : decode cL_law 1321 = .ok (.iconst 0, 1) := by decide +kernel
theorem dL_law_1322 : decode cL_law 1322 = .ok (.ireturn, 1) := by decide +kernel
theorem dL_law_1323 : decode cL_law 1323 = .ok (.aload_n 1, 1) := by decide +kernel
theorem dL_law_1324 : decode cL_law 1324 = .ok (.aload_n 0, 1) := by decide +kernel
theorem dL_law_1325 : decode cL_law 1325 = .ok (.iload_n 3, 1) := by decide +kernel
theorem dL_law_1326 : decode cL_law 1326 = .ok (.iconst 1, 1) := by decide +kernel
theorem dL_law_1327 : decode cL_law 1327 = .ok (.iadd, 1) := by decide +kernel
theorem dL_law_1328 : decode cL_law 1328 = .ok (.iaload, 1) := by decide +kernel
theorem dL_law_1329 : decode cL_law 1329 = .ok (.invokevirtual 159, 3) := by decide +kernel
theorem dL_law_1332 : decode cL_law 1332 = .ok (.aload_n 2, 1) := by decide +kernel
theorem dL_law_1333 : decode cL_law 1333 = .ok (.aload_n 0, 1) := by decide +kernel
theorem dL_law_1334 : decode cL_law 1334 = .ok (.iload_n 3, 1) := by decide +kernel
theorem dL_law_1335 : decode cL_law 1335 = .ok (.iconst 1, 1) := by decide +kernel
theorem dL_law_1336 : decode cL_law 1336 = .ok (.iadd, 1) := by decide +kernel
theorem dL_law_1337 : decode cL_law 1337 = .ok (.iaload, 1) := by decide +kernel
theorem dL_law_1338 : decode cL_law 1338 = .ok (.invokevirtual 162, 3) := by decide +kernel
theorem dL_law_1341 : decode cL_law 1341 = .ok (.if_icmp .eq 203, 3) := by decide +kernel
theorem dL_law_1344 : decode cL_law 1344 = .ok (.iconst 0, 1) := by decide +kernel
theorem dL_law_1345 : decode cL_law 1345 = .ok (.ireturn, 1) := by decide +kernel
theorem dL_law_1346 : decode cL_law 1346 = .ok (.aload_n 1, 1) := by decide +kernel
theorem dL_law_1347 : decode cL_law 1347 = .ok (.aload_n 0, 1) := by decide +kernel
theorem dL_law_1348 : decode cL_law 1348 = .ok (.iload_n 3, 1) := by decide +kernel
theorem dL_law_1349 : decode cL_law 1349 = .ok (.iconst 1, 1) := by decide +kernel
theorem dL_law_1350 : decode cL_law 1350 = .ok (.iadd, 1) := by decide +kernel
theorem dL_law_1351 : decode cL_law 1351 = .ok (.iaload, 1) := by decide +kernel
theorem dL_law_1352 : decode cL_law 1352 = .ok (.invokevirtual 163, 3) := by decide +kernel
theorem dL_law_1355 : decode cL_law 1355 = .ok (.aload_n 2, 1) := by decide +kernel
theorem dL_law_1356 : decode cL_law 1356 = .ok (.aload_n 0, 1) := by decide +kernel
theorem dL_law_1357 : decode cL_law 1357 = .ok (.iload_n 3, 1) := by decide +kernel
theorem dL_law_1358 : decode cL_law 1358 = .ok (.iconst 1, 1) := by decide +kernel
theorem dL_law_1359 : decode cL_law 1359 = .ok (.iadd, 1) := by decide +kernel
theorem dL_law_1360 : decode cL_law 1360 = .ok (.iaload, 1) := by decide +kernel
theorem dL_law_1361 : decode cL_law 1361 = .ok (.invokevirtual 166, 3) := by decide +kernel
theorem dL_law_1364 : decode cL_law 1364 = .ok (.if_icmp .eq 180, 3) := by decide +kernel
theorem dL_law_1367 : decode cL_law 1367 = .ok (.iconst 0, 1) := by decide +kernel
theorem dL_law_1368 : decode cL_law 1368 = .ok (.ireturn, 1) := by decide +kernel
theorem dL_law_1369 : decode cL_law 1369 = .ok (.aload_n 1, 1) := by decide +kernel
theorem dL_law_1370 : decode cL_law 1370 = .ok (.aload_n 0, 1) := by decide +kernel
theorem dL_law_1371 : decode cL_law 1371 = .ok (.iload_n 3, 1) := by decide +kernel
theorem dL_law_1372 : decode cL_law 1372 = .ok (.iconst 1, 1) := by decide +kernel
theorem dL_law_1373 : decode cL_law 1373 = .ok (.iadd, 1) := by decide +kernel
theorem dL_law_1374 : decode cL_law 1374 = .ok (.iaload, 1) := by decide +kernel
theorem dL_law_1375 : decode cL_law 1375 = .ok (.aload_n 0, 1) := by decide +kernel
theorem dL_law_1376 : decode cL_law 1376 = .ok (.iload_n 3, 1) := by decide +kernel
theorem dL_law_1377 : decode cL_law 1377 = .ok (.iconst 2, 1) := by decide +kernel
theorem dL_law_1378 : decode cL_law 1378 = .ok (.iadd, 1) := by decide +kernel
theorem dL_law_1379 : decode cL_law 1379 = .ok (.iaload, 1) := by decide +kernel
theorem dL_law_1380 : decode cL_law 1380 = .ok (.aload_n 0, 1) := by decide +kernel
theorem dL_law_1381 : decode cL_law 1381 = .ok (.iload_n 3, 1) := by decide +kernel
theorem dL_law_1382 : decode cL_law 1382 = .ok (.iconst 3, 1) := by decide +kernel
theorem dL_law_1383 : decode cL_law 1383 = .ok (.iadd, 1) := by decide +kernel
theorem dL_law_1384 : decode cL_law 1384 = .ok (.iaload, 1) := by decide +kernel
theorem dL_law_1385 : decode cL_law 1385 = .ok (.invokevirtual 167, 3) := by decide +kernel
theorem dL_law_1388 : decode cL_law 1388 = .ok (.aload_n 2, 1) := by decide +kernel
theorem dL_law_1389 : decode cL_law 1389 = .ok (.aload_n 0, 1) := by decide +kernel
theorem dL_law_1390 : decode cL_law 1390 = .ok (.iload_n 3, 1) := by decide +kernel
theorem dL_law_1391 : decode cL_law 1391 = .ok (.iconst 1, 1) := by decide +kernel
theorem dL_law_1392 : decode cL_law 1392 = .ok (.iadd, 1) := by decide +kernel
theorem dL_law_1393 : decode cL_law 1393 = .ok (.iaload, 1) := by decide +kernel
theorem dL_law_1394 : decode cL_law 1394 = .ok (.aload_n 0, 1) := by decide +kernel
theorem dL_law_1395 : decode cL_law 1395 = .ok (.iload_n 3, 1) := by decide +kernel
theorem dL_law_1396 : decode cL_law 1396 = .ok (.iconst 2, 1) := by decide +kernel
theorem dL_law_1397 : decode cL_law 1397 = .ok (.iadd, 1) := by decide +kernel
theorem dL_law_1398 : decode cL_law 1398 = .ok (.iaload, 1) := by decide +kernel
theorem dL_law_1399 : decode cL_law 1399 = .ok (.aload_n 0, 1) := by decide +kernel
theorem dL_law_1400 : decode cL_law 1400 = .ok (.iload_n 3, 1) := by decide +kernel
theorem dL_law_1401 : decode cL_law 1401 = .ok (.iconst 3, 1) := by decide +kernel
theorem dL_law_1402 : decode cL_law 1402 = .ok (.iadd, 1) := by decide +kernel
theorem dL_law_1403 : decode cL_law 1403 = .ok (.iaload, 1) := by decide +kernel
theorem dL_law_1404 : decode cL_law 1404 = .ok (.invokevirtual 170, 3) := by decide +kernel
theorem dL_law_1407 : decode cL_law 1407 = .ok (.if_icmp .eq 137, 3) := by decide +kernel
theorem dL_law_1410 : decode cL_law 1410 = .ok (.iconst 0, 1) := by decide +kernel
theorem dL_law_1411 : decode cL_law 1411 = .ok (.ireturn, 1) := by decide +kernel
theorem dL_law_1412 : decode cL_law 1412 = .ok (.aload_n 1, 1) := by decide +kernel
theorem dL_law_1413 : decode cL_law 1413 = .ok (.aload_n 0, 1) := by decide +kernel
theorem dL_law_1414 : decode cL_law 1414 = .ok (.iload_n 3, 1) := by decide +kernel
theorem dL_law_1415 : decode cL_law 1415 = .ok (.iconst 1, 1) := by decide +kernel
theorem dL_law_1416 : decode cL_law 1416 = .ok (.iadd, 1) := by decide +kernel
theorem dL_law_1417 : decode cL_law 1417 = .ok (.iaload, 1) := by decide +kernel
theorem dL_law_1418 : decode cL_law 1418 = .ok (.aload_n 0, 1) := by decide +kernel
theorem dL_law_1419 : decode cL_law 1419 = .ok (.iload_n 3, 1) := by decide +kernel
theorem dL_law_1420 : decode cL_law 1420 = .ok (.iconst 2, 1) := by decide +kernel
theorem dL_law_1421 : decode cL_law 1421 = .ok (.iadd, 1) := by decide +kernel
theorem dL_law_1422 : decode cL_law 1422 = .ok (.iaload, 1) := by decide +kernel
theorem dL_law_1423 : decode cL_law 1423 = .ok (.aload_n 0, 1) := by decide +kernel
theorem dL_law_1424 : decode cL_law 1424 = .ok (.iload_n 3, 1) := by decide +kernel
theorem dL_law_1425 : decode cL_law 1425 = .ok (.iconst 3, 1) := by decide +kernel
theorem dL_law_1426 : decode cL_law 1426 = .ok (.iadd, 1) := by decide +kernel
theorem dL_law_1427 : decode cL_law 1427 = .ok (.iaload, 1) := by decide +kernel
theorem dL_law_1428 : decode cL_law 1428 = .ok (.invokevirtual 171, 3) := by decide +kernel
theorem dL_law_1431 : decode cL_law 1431 = .ok (.aload_n 2, 1) := by decide +kernel
theorem dL_law_1432 : decode cL_law 1432 = .ok (.aload_n 0, 1) := by decide +kernel
theorem dL_law_1433 : decode cL_law 1433 = .ok (.iload_n 3, 1) := by decide +kernel
theorem dL_law_1434 : decode cL_law 1434 = .ok (.iconst 1, 1) := by decide +kernel
theorem dL_law_1435 : decode cL_law 1435 = .ok (.iadd, 1) := by decide +kernel
theorem dL_law_1436 : decode cL_law 1436 = .ok (.iaload, 1) := by decide +kernel
theorem dL_law_1437 : decode cL_law 1437 = .ok (.aload_n 0, 1) := by decide +kernel
theorem dL_law_1438 : decode cL_law 1438 = .ok (.iload_n 3, 1) := by decide +kernel
theorem dL_law_1439 : decode cL_law 1439 = .ok (.iconst 2, 1) := by decide +kernel
theorem dL_law_1440 : decode cL_law 1440 = .ok (.iadd, 1) := by decide +kernel
theorem dL_law_1441 : decode cL_law 1441 = .ok (.iaload, 1) := by decide +kernel
theorem dL_law_1442 : decode cL_law 1442 = .ok (.aload_n 0, 1) := by decide +kernel
theorem dL_law_1443 : decode cL_law 1443 = .ok (.iload_n 3, 1) := by decide +kernel
theorem dL_law_1444 : decode cL_law 1444 = .ok (.iconst 3, 1) := by decide +kernel
theorem dL_law_1445 : decode cL_law 1445 = .ok (.iadd, 1) := by decide +kernel
theorem dL_law_1446 : decode cL_law 1446 = .ok (.iaload, 1) := by decide +kernel
theorem dL_law_1447 : decode cL_law 1447 = .ok (.invokevirtual 174, 3) := by decide +kernel
theorem dL_law_1450 : decode cL_law 1450 = .ok (.if_icmp .eq 94, 3) := by decide +kernel
theorem dL_law_1453 : decode cL_law 1453 = .ok (.iconst 0, 1) := by decide +kernel
theorem dL_law_1454 : decode cL_law 1454 = .ok (.ireturn, 1) := by decide +kernel
theorem dL_law_1455 : decode cL_law 1455 = .ok (.aload_n 1, 1) := by decide +kernel
theorem dL_law_1456 : decode cL_law 1456 = .ok (.aload_n 0, 1) := by decide +kernel
theorem dL_law_1457 : decode cL_law 1457 = .ok (.iload_n 3, 1) := by decide +kernel
theorem dL_law_1458 : decode cL_law 1458 = .ok (.iconst 1, 1) := by decide +kernel
theorem dL_law_1459 : decode cL_law 1459 = .ok (.iadd, 1) := by decide +kernel
theorem dL_law_1460 : decode cL_law 1460 = .ok (.iaload, 1) := by decide +kernel
theorem dL_law_1461 : decode cL_law 1461 = .ok (.aload_n 0, 1) := by decide +kernel
theorem dL_law_1462 : decode cL_law 1462 = .ok (.iload_n 3, 1) := by decide +kernel
theorem dL_law_1463 : decode cL_law 1463 = .ok (.iconst 2, 1) := by decide +kernel
theorem dL_law_1464 : decode cL_law 1464 = .ok (.iadd, 1) := by decide +kernel
theorem dL_law_1465 : decode cL_law 1465 = .ok (.iaload, 1) := by decide +kernel
theorem dL_law_1466 : decode cL_law 1466 = .ok (.aload_n 0, 1) := by decide +kernel
theorem dL_law_1467 : decode cL_law 1467 = .ok (.iload_n 3, 1) := by decide +kernel
theorem dL_law_1468 : decode cL_law 1468 = .ok (.iconst 3, 1) := by decide +kernel
theorem dL_law_1469 : decode cL_law 1469 = .ok (.iadd, 1) := by decide +kernel
theorem dL_law_1470 : decode cL_law 1470 = .ok (.iaload, 1) := by decide +kernel
theorem dL_law_1471 : decode cL_law 1471 = .ok (.aload_n 0, 1) := by decide +kernel
theorem dL_law_1472 : decode cL_law 1472 = .ok (.iload_n 3, 1) := by decide +kernel
theorem dL_law_1473 : decode cL_law 1473 = .ok (.iconst 4, 1) := by decide +kernel
theorem dL_law_1474 : decode cL_law 1474 = .ok (.iadd, 1) := by decide +kernel
theorem dL_law_1475 : decode cL_law 1475 = .ok (.iaload, 1) := by decide +kernel
theorem dL_law_1476 : decode cL_law 1476 = .ok (.invokevirtual 175, 3) := by decide +kernel
theorem dL_law_1479 : decode cL_law 1479 = .ok (.aload_n 2, 1) := by decide +kernel
theorem dL_law_1480 : decode cL_law 1480 = .ok (.aload_n 0, 1) := by decide +kernel
theorem dL_law_1481 : decode cL_law 1481 = .ok (.iload_n 3, 1) := by decide +kernel
theorem dL_law_1482 : decode cL_law 1482 = .ok (.iconst 1, 1) := by decide +kernel
theorem dL_law_1483 : decode cL_law 1483 = .ok (.iadd, 1) := by decide +kernel
theorem dL_law_1484 : decode cL_law 1484 = .ok (.iaload, 1) := by decide +kernel
theorem dL_law_1485 : decode cL_law 1485 = .ok (.aload_n 0, 1) := by decide +kernel
theorem dL_law_1486 : decode cL_law 1486 = .ok (.iload_n 3, 1) := by decide +kernel
theorem dL_law_1487 : decode cL_law 1487 = .ok (.iconst 2, 1) := by decide +kernel
theorem dL_law_1488 : decode cL_law 1488 = .ok (.iadd, 1) := by decide +kernel
theorem dL_law_1489 : decode cL_law 1489 = .ok (.iaload, 1) := by decide +kernel
theorem dL_law_1490 : decode cL_law 1490 = .ok (.aload_n 0, 1) := by decide +kernel
theorem dL_law_1491 : decode cL_law 1491 = .ok (.iload_n 3, 1) := by decide +kernel
theorem dL_law_1492 : decode cL_law 1492 = .ok (.iconst 3, 1) := by decide +kernel
theorem dL_law_1493 : decode cL_law 1493 = .ok (.iadd, 1) := by decide +kernel
theorem dL_law_1494 : decode cL_law 1494 = .ok (.iaload, 1) := by decide +kernel
theorem dL_law_1495 : decode cL_law 1495 = .ok (.aload_n 0, 1) := by decide +kernel
theorem dL_law_1496 : decode cL_law 1496 = .ok (.iload_n 3, 1) := by decide +kernel
theorem dL_law_1497 : decode cL_law 1497 = .ok (.iconst 4, 1) := by decide +kernel
theorem dL_law_1498 : decode cL_law 1498 = .ok (.iadd, 1) := by decide +kernel
theorem dL_law_1499 : decode cL_law 1499 = .ok (.iaload, 1) := by decide +kernel
theorem dL_law_1500 : decode cL_law 1500 = .ok (.invokevirtual 179, 3) := by decide +kernel
theorem dL_law_1503 : decode cL_law 1503 = .ok (.if_icmp .eq 41, 3) := by decide +kernel
theorem dL_law_1506 : decode cL_law 1506 = .ok (.iconst 0, 1) := by decide +kernel
theorem dL_law_1507 : decode cL_law 1507 = .ok (.ireturn, 1) := by decide +kernel
theorem dL_law_1508 : decode cL_law 1508 = .ok (.aload_n 1, 1) := by decide +kernel
theorem dL_law_1509 : decode cL_law 1509 = .ok (.invokevirtual 180, 3) := by decide +kernel
theorem dL_law_1512 : decode cL_law 1512 = .ok (.aload_n 2, 1) := by decide +kernel
theorem dL_law_1513 : decode cL_law 1513 = .ok (.invokevirtual 183, 3) := by decide +kernel
theorem dL_law_1516 : decode cL_law 1516 = .ok (.if_icmp .eq 28, 3) := by decide +kernel
theorem dL_law_1519 : decode cL_law 1519 = .ok (.iconst 0, 1) := by decide +kernel
theorem dL_law_1520 : decode cL_law 1520 = .ok (.ireturn, 1) := by decide +kernel
theorem dL_law_1521 : decode cL_law 1521 = .ok (.aload_n 1, 1) := by decide +kernel
theorem dL_law_1522 : decode cL_law 1522 = .ok (.aload_n 0, 1) := by decide +kernel
theorem dL_law_1523 : decode cL_law 1523 = .ok (.iload_n 3, 1) := by decide +kernel
theorem dL_law_1524 : decode cL_law 1524 = .ok (.iconst 1, 1) := by decide +kernel
theorem dL_law_1525 : decode cL_law 1525 = .ok (.iadd, 1) := by decide +kernel
theorem dL_law_1526 : decode cL_law 1526 = .ok (.iaload, 1) := by decide +kernel
theorem dL_law_1527 : decode cL_law 1527 = .ok (.invokevirtual 184, 3) := by decide +kernel
theorem dL_law_1530 : decode cL_law 1530 = .ok (.aload_n 2, 1) := by decide +kernel
theorem dL_law_1531 : decode cL_law 1531 = .ok (.aload_n 0, 1) := by decide +kernel
theorem dL_law_1532 : decode cL_law 1532 = .ok (.iload_n 3, 1) := by decide +kernel
theorem dL_law_1533 : decode cL_law 1533 = .ok (.iconst 1, 1) := by decide +kernel
theorem dL_law_1534 : decode cL_law 1534 = .ok (.iadd, 1) := by decide +kernel
theorem dL_law_1535 : decode cL_law 1535 = .ok (.iaload, 1) := by decide +kernel
theorem dL_law_1536 : decode cL_law 1536 = .ok (.invokevirtual 187, 3) := by decide +kernel
theorem dL_law_1539 : decode cL_law 1539 = .ok (.if_icmp .eq 5, 3) := by decide +kernel
theorem dL_law_1542 : decode cL_law 1542 = .ok (.iconst 0, 1) := by decide +kernel
theorem dL_law_1543 : decode cL_law 1543 = .ok (.ireturn, 1) := by decide +kernel
theorem dL_law_1544 : decode cL_law 1544 = .ok (.iinc 3 5, 3) := by decide +kernel
theorem dL_law_1547 : decode cL_law 1547 = .ok (.goto (-1529), 3) := by decide +kernel
theorem dL_law_1550 : decode cL_law 1550 = .ok (.iconst 1, 1) := by decide +kernel
theorem dL_law_1551 : decode cL_law 1551 = .ok (.ireturn, 1) := by decide +kernel
end
section
abbrev gCl : List vw_C := [(RX0, TX0, 8), (RX1, TX1, 9), (RX2, TX2, 4), (RX3, TX3, 3), (RX4, TX4, 2), (RX5, TX5, 6), (RX6, TX6, 13), (RX7, TX7, 30)]
set_option maxRecDepth 100000 in
theorem gT_good : ∀ w ∈ lw_tbl, goodWord w = true := List.all_eq_true.mp (by decide +kernel)
/-- a field's link: the class's number, the slot -/
def gFl (own : String) (idx ci k : Nat) : Prop := ∃ (C : String) (T : u_T) (N : Nat), gCl[ci]? = some (C, T, N) ∧ k < N ∧ Cond.fieldLink own idx (T k).1 (T k).2.1 (T k).2.2.1 ∈ lw_tbl
/-- a method's own words -/
def gMw (y : MethodName) (cc : ByteArray) (nL : Nat) (ret : Option FieldType) (n : Nat) : Prop := Cond.code y cc nL ret ∈ lw_tbl ∧ Cond.initialized y.cls ∈ lw_tbl ∧ (y.cls ≠ "java/lang/invoke/MethodHandle" ∧ y.cls ≠ "java/lang/invoke/VarHandle" ∧ (parseMethodDescriptor y.desc).map (fun d => d.parameters.length) = some n) ∧ plainName y.cls = true ∧ nL ≤ 13
def gMv (y : MethodName) : Prop := Cond.instanceMethod y ∈ lw_tbl ∧ Cond.selects y.cls y y ∈ lw_tbl
def gMi (y : MethodName) : Prop := y.name = "<init>" ∧ Cond.instanceMethod y ∈ lw_tbl
def gMs (y : MethodName) : Prop := Cond.static y ∈ lw_tbl
set_option maxRecDepth 100000 in
theorem inX0 : ∀ w ∈ u_ws RX0 TX0 8, w ∈ lw_tbl := by decide +kernel
set_option maxRecDepth 100000 in
theorem inX1 : ∀ w ∈ u_ws RX1 TX1 9, w ∈ lw_tbl := by decide +kernel
set_option maxRecDepth 100000 in
theorem inX2 : ∀ w ∈ u_ws RX2 TX2 4, w ∈ lw_tbl := by decide +kernel
set_option maxRecDepth 100000 in
theorem inX3 : ∀ w ∈ u_ws RX3 TX3 3, w ∈ lw_tbl := by decide +kernel
set_option maxRecDepth 100000 in
theorem inX4 : ∀ w ∈ u_ws RX4 TX4 2, w ∈ lw_tbl := by decide +kernel
set_option maxRecDepth 100000 in
theorem inX5 : ∀ w ∈ u_ws RX5 TX5 6, w ∈ lw_tbl := by decide +kernel
set_option maxRecDepth 100000 in
theorem inX6 : ∀ w ∈ u_ws RX6 TX6 13, w ∈ lw_tbl := by decide +kernel
set_option maxRecDepth 100000 in
theorem inX7 : ∀ w ∈ u_ws RX7 TX7 30, w ∈ lw_tbl := by decide +kernel
theorem gCl_ok {ci : Nat} {C : String} {T : u_T} {N : Nat} (h : gCl[ci]? = some (C, T, N)) : (∀ w ∈ u_ws C T N, w ∈ lw_tbl) ∧ (∃ ty0 : Nat → FieldType, ∀ k, k < N → parseFieldDescriptor (T k).2.2.1 = some (ty0 k)) ∧ (∀ a, a < N → ∀ b, b < N → a ≠ b → (T a).2.1 ≠ (T b).2.1) := by
  match ci, h with
  | 0, h => cases h; exact ⟨inX0, ⟨tyX0, tyX0_ok⟩, nmX0⟩
  | 1, h => cases h; exact ⟨inX1, ⟨tyX1, tyX1_ok⟩, nmX1⟩
  | 2, h => cases h; exact ⟨inX2, ⟨tyX2, tyX2_ok⟩, nmX2⟩
  | 3, h => cases h; exact ⟨inX3, ⟨tyX3, tyX3_ok⟩, nmX3⟩
  | 4, h => cases h; exact ⟨inX4, ⟨tyX4, tyX4_ok⟩, nmX4⟩
  | 5, h => cases h; exact ⟨inX5, ⟨tyX5, tyX5_ok⟩, nmX5⟩
  | 6, h => cases h; exact ⟨inX6, ⟨tyX6, tyX6_ok⟩, nmX6⟩
  | 7, h => cases h; exact ⟨inX7, ⟨tyX7, tyX7_ok⟩, nmX7⟩
  | k + 8, h => simp [gCl] at h
theorem fX0_11 : gFl RX0 11 0 0 := ⟨_, _, _, rfl, by decide, List.mem_of_getElem? (i := 116) (by decide +kernel)⟩
theorem fX0_17 : gFl RX0 17 0 1 := ⟨_, _, _, rfl, by decide, List.mem_of_getElem? (i := 118) (by decide +kernel)⟩
theorem fX0_21 : gFl RX0 21 0 2 := ⟨_, _, _, rfl, by decide, List.mem_of_getElem? (i := 120) (by decide +kernel)⟩
theorem fX0_24 : gFl RX0 24 0 6 := ⟨_, _, _, rfl, by decide, List.mem_of_getElem? (i := 130) (by decide +kernel)⟩
theorem fX0_28 : gFl RX0 28 0 7 := ⟨_, _, _, rfl, by decide, List.mem_of_getElem? (i := 133) (by decide +kernel)⟩
theorem fX0_32 : gFl RX0 32 0 3 := ⟨_, _, _, rfl, by decide, List.mem_of_getElem? (i := 122) (by decide +kernel)⟩
theorem fX0_35 : gFl RX0 35 0 4 := ⟨_, _, _, rfl, by decide, List.mem_of_getElem? (i := 125) (by decide +kernel)⟩
theorem fX0_38 : gFl RX0 38 0 5 := ⟨_, _, _, rfl, by decide, List.mem_of_getElem? (i := 128) (by decide +kernel)⟩
theorem fX0_99 : gFl RX0 99 5 3 := ⟨_, _, _, rfl, by decide, List.mem_of_getElem? (i := 96) (by decide +kernel)⟩
theorem fX0_102 : gFl RX0 102 5 4 := ⟨_, _, _, rfl, by decide, List.mem_of_getElem? (i := 99) (by decide +kernel)⟩
theorem fX1_12 : gFl RX1 12 1 0 := ⟨_, _, _, rfl, by decide, List.mem_of_getElem? (i := 176) (by decide +kernel)⟩
theorem fX1_18 : gFl RX1 18 1 1 := ⟨_, _, _, rfl, by decide, List.mem_of_getElem? (i := 178) (by decide +kernel)⟩
theorem fX1_22 : gFl RX1 22 1 5 := ⟨_, _, _, rfl, by decide, List.mem_of_getElem? (i := 182) (by decide +kernel)⟩
theorem fX1_25 : gFl RX1 25 1 6 := ⟨_, _, _, rfl, by decide, List.mem_of_getElem? (i := 184) (by decide +kernel)⟩
theorem fX1_28 : gFl RX1 28 1 7 := ⟨_, _, _, rfl, by decide, List.mem_of_getElem? (i := 186) (by decide +kernel)⟩
theorem fX1_32 : gFl RX1 32 1 8 := ⟨_, _, _, rfl, by decide, List.mem_of_getElem? (i := 187) (by decide +kernel)⟩
theorem fX1_43 : gFl RX1 43 1 2 := ⟨_, _, _, rfl, by decide, List.mem_of_getElem? (i := 179) (by decide +kernel)⟩
theorem fX1_54 : gFl RX1 54 1 3 := ⟨_, _, _, rfl, by decide, List.mem_of_getElem? (i := 180) (by decide +kernel)⟩
theorem fX1_81 : gFl RX1 81 0 6 := ⟨_, _, _, rfl, by decide, List.mem_of_getElem? (i := 131) (by decide +kernel)⟩
theorem fX1_87 : gFl RX1 87 0 7 := ⟨_, _, _, rfl, by decide, List.mem_of_getElem? (i := 134) (by decide +kernel)⟩
theorem fX1_90 : gFl RX1 90 0 4 := ⟨_, _, _, rfl, by decide, List.mem_of_getElem? (i := 126) (by decide +kernel)⟩
theorem fX1_97 : gFl RX1 97 0 3 := ⟨_, _, _, rfl, by decide, List.mem_of_getElem? (i := 124) (by decide +kernel)⟩
theorem fX1_104 : gFl RX1 104 1 4 := ⟨_, _, _, rfl, by decide, List.mem_of_getElem? (i := 181) (by decide +kernel)⟩
theorem fX2_9 : gFl RX2 9 2 0 := ⟨_, _, _, rfl, by decide, List.mem_of_getElem? (i := 213) (by decide +kernel)⟩
theorem fX2_15 : gFl RX2 15 2 1 := ⟨_, _, _, rfl, by decide, List.mem_of_getElem? (i := 214) (by decide +kernel)⟩
theorem fX2_18 : gFl RX2 18 2 2 := ⟨_, _, _, rfl, by decide, List.mem_of_getElem? (i := 215) (by decide +kernel)⟩
theorem fX2_21 : gFl RX2 21 2 3 := ⟨_, _, _, rfl, by decide, List.mem_of_getElem? (i := 216) (by decide +kernel)⟩
theorem fX3_9 : gFl RX3 9 3 0 := ⟨_, _, _, rfl, by decide, List.mem_of_getElem? (i := 234) (by decide +kernel)⟩
theorem fX3_15 : gFl RX3 15 3 2 := ⟨_, _, _, rfl, by decide, List.mem_of_getElem? (i := 237) (by decide +kernel)⟩
theorem fX3_19 : gFl RX3 19 3 1 := ⟨_, _, _, rfl, by decide, List.mem_of_getElem? (i := 235) (by decide +kernel)⟩
theorem fX4_9 : gFl RX4 9 4 0 := ⟨_, _, _, rfl, by decide, List.mem_of_getElem? (i := 166) (by decide +kernel)⟩
theorem fX4_15 : gFl RX4 15 4 1 := ⟨_, _, _, rfl, by decide, List.mem_of_getElem? (i := 167) (by decide +kernel)⟩
theorem fX5_9 : gFl RX5 9 5 0 := ⟨_, _, _, rfl, by decide, List.mem_of_getElem? (i := 90) (by decide +kernel)⟩
theorem fX5_15 : gFl RX5 15 5 1 := ⟨_, _, _, rfl, by decide, List.mem_of_getElem? (i := 92) (by decide +kernel)⟩
theorem fX5_18 : gFl RX5 18 5 2 := ⟨_, _, _, rfl, by decide, List.mem_of_getElem? (i := 93) (by decide +kernel)⟩
theorem fX5_21 : gFl RX5 21 5 3 := ⟨_, _, _, rfl, by decide, List.mem_of_getElem? (i := 95) (by decide +kernel)⟩
theorem fX5_24 : gFl RX5 24 5 4 := ⟨_, _, _, rfl, by decide, List.mem_of_getElem? (i := 98) (by decide +kernel)⟩
theorem fX5_27 : gFl RX5 27 5 5 := ⟨_, _, _, rfl, by decide, List.mem_of_getElem? (i := 101) (by decide +kernel)⟩
theorem fX6_10 : gFl RX6 10 6 0 := ⟨_, _, _, rfl, by decide, List.mem_of_getElem? (i := 247) (by decide +kernel)⟩
theorem fX6_16 : gFl RX6 16 6 1 := ⟨_, _, _, rfl, by decide, List.mem_of_getElem? (i := 248) (by decide +kernel)⟩
theorem fX6_19 : gFl RX6 19 6 2 := ⟨_, _, _, rfl, by decide, List.mem_of_getElem? (i := 249) (by decide +kernel)⟩
theorem fX6_23 : gFl RX6 23 6 3 := ⟨_, _, _, rfl, by decide, List.mem_of_getElem? (i := 250) (by decide +kernel)⟩
theorem fX6_26 : gFl RX6 26 6 4 := ⟨_, _, _, rfl, by decide, List.mem_of_getElem? (i := 251) (by decide +kernel)⟩
theorem fX6_33 : gFl RX6 33 6 5 := ⟨_, _, _, rfl, by decide, List.mem_of_getElem? (i := 252) (by decide +kernel)⟩
theorem fX6_37 : gFl RX6 37 1 0 := ⟨_, _, _, rfl, by decide, List.mem_of_getElem? (i := 177) (by decide +kernel)⟩
theorem fX6_41 : gFl RX6 41 6 6 := ⟨_, _, _, rfl, by decide, List.mem_of_getElem? (i := 253) (by decide +kernel)⟩
theorem fX6_47 : gFl RX6 47 6 7 := ⟨_, _, _, rfl, by decide, List.mem_of_getElem? (i := 254) (by decide +kernel)⟩
theorem fX6_51 : gFl RX6 51 6 8 := ⟨_, _, _, rfl, by decide, List.mem_of_getElem? (i := 255) (by decide +kernel)⟩
theorem fX6_55 : gFl RX6 55 6 9 := ⟨_, _, _, rfl, by decide, List.mem_of_getElem? (i := 256) (by decide +kernel)⟩
theorem fX6_61 : gFl RX6 61 6 10 := ⟨_, _, _, rfl, by decide, List.mem_of_getElem? (i := 257) (by decide +kernel)⟩
theorem fX6_76 : gFl RX6 76 4 1 := ⟨_, _, _, rfl, by decide, List.mem_of_getElem? (i := 168) (by decide +kernel)⟩
theorem fX6_84 : gFl RX6 84 1 5 := ⟨_, _, _, rfl, by decide, List.mem_of_getElem? (i := 183) (by decide +kernel)⟩
theorem fX6_87 : gFl RX6 87 6 11 := ⟨_, _, _, rfl, by decide, List.mem_of_getElem? (i := 258) (by decide +kernel)⟩
theorem fX6_90 : gFl RX6 90 1 6 := ⟨_, _, _, rfl, by decide, List.mem_of_getElem? (i := 185) (by decide +kernel)⟩
theorem fX6_97 : gFl RX6 97 2 3 := ⟨_, _, _, rfl, by decide, List.mem_of_getElem? (i := 217) (by decide +kernel)⟩
theorem fX6_100 : gFl RX6 100 0 3 := ⟨_, _, _, rfl, by decide, List.mem_of_getElem? (i := 123) (by decide +kernel)⟩
theorem fX6_103 : gFl RX6 103 0 4 := ⟨_, _, _, rfl, by decide, List.mem_of_getElem? (i := 127) (by decide +kernel)⟩
theorem fX6_106 : gFl RX6 106 0 5 := ⟨_, _, _, rfl, by decide, List.mem_of_getElem? (i := 129) (by decide +kernel)⟩
theorem fX6_109 : gFl RX6 109 0 6 := ⟨_, _, _, rfl, by decide, List.mem_of_getElem? (i := 132) (by decide +kernel)⟩
theorem fX6_112 : gFl RX6 112 0 7 := ⟨_, _, _, rfl, by decide, List.mem_of_getElem? (i := 135) (by decide +kernel)⟩
theorem fX6_132 : gFl RX6 132 0 0 := ⟨_, _, _, rfl, by decide, List.mem_of_getElem? (i := 117) (by decide +kernel)⟩
theorem fX6_147 : gFl RX6 147 0 1 := ⟨_, _, _, rfl, by decide, List.mem_of_getElem? (i := 119) (by decide +kernel)⟩
theorem fX6_150 : gFl RX6 150 0 2 := ⟨_, _, _, rfl, by decide, List.mem_of_getElem? (i := 121) (by decide +kernel)⟩
theorem fX6_188 : gFl RX6 188 5 3 := ⟨_, _, _, rfl, by decide, List.mem_of_getElem? (i := 97) (by decide +kernel)⟩
theorem fX6_191 : gFl RX6 191 5 4 := ⟨_, _, _, rfl, by decide, List.mem_of_getElem? (i := 100) (by decide +kernel)⟩
theorem fX6_233 : gFl RX6 233 5 0 := ⟨_, _, _, rfl, by decide, List.mem_of_getElem? (i := 91) (by decide +kernel)⟩
theorem fX6_277 : gFl RX6 277 5 2 := ⟨_, _, _, rfl, by decide, List.mem_of_getElem? (i := 94) (by decide +kernel)⟩
theorem fX6_298 : gFl RX6 298 3 1 := ⟨_, _, _, rfl, by decide, List.mem_of_getElem? (i := 236) (by decide +kernel)⟩
theorem fX6_317 : gFl RX6 317 6 12 := ⟨_, _, _, rfl, by decide, List.mem_of_getElem? (i := 259) (by decide +kernel)⟩
theorem fX6_320 : gFl RX6 320 3 2 := ⟨_, _, _, rfl, by decide, List.mem_of_getElem? (i := 238) (by decide +kernel)⟩
theorem fX7_7 : gFl RX7 7 7 0 := ⟨_, _, _, rfl, by decide, List.mem_of_getElem? (i := 841) (by decide +kernel)⟩
theorem fX7_13 : gFl RX7 13 7 1 := ⟨_, _, _, rfl, by decide, List.mem_of_getElem? (i := 842) (by decide +kernel)⟩
theorem fX7_16 : gFl RX7 16 7 4 := ⟨_, _, _, rfl, by decide, List.mem_of_getElem? (i := 845) (by decide +kernel)⟩
theorem fX7_19 : gFl RX7 19 7 13 := ⟨_, _, _, rfl, by decide, List.mem_of_getElem? (i := 854) (by decide +kernel)⟩
theorem fX7_22 : gFl RX7 22 7 14 := ⟨_, _, _, rfl, by decide, List.mem_of_getElem? (i := 855) (by decide +kernel)⟩
theorem fX7_25 : gFl RX7 25 7 18 := ⟨_, _, _, rfl, by decide, List.mem_of_getElem? (i := 859) (by decide +kernel)⟩
theorem fX7_28 : gFl RX7 28 7 19 := ⟨_, _, _, rfl, by decide, List.mem_of_getElem? (i := 860) (by decide +kernel)⟩
theorem fX7_31 : gFl RX7 31 7 20 := ⟨_, _, _, rfl, by decide, List.mem_of_getElem? (i := 861) (by decide +kernel)⟩
theorem fX7_34 : gFl RX7 34 7 22 := ⟨_, _, _, rfl, by decide, List.mem_of_getElem? (i := 863) (by decide +kernel)⟩
theorem fX7_37 : gFl RX7 37 7 24 := ⟨_, _, _, rfl, by decide, List.mem_of_getElem? (i := 865) (by decide +kernel)⟩
theorem fX7_40 : gFl RX7 40 7 25 := ⟨_, _, _, rfl, by decide, List.mem_of_getElem? (i := 866) (by decide +kernel)⟩
theorem fX7_44 : gFl RX7 44 7 26 := ⟨_, _, _, rfl, by decide, List.mem_of_getElem? (i := 867) (by decide +kernel)⟩
theorem fX7_47 : gFl RX7 47 7 27 := ⟨_, _, _, rfl, by decide, List.mem_of_getElem? (i := 868) (by decide +kernel)⟩
theorem fX7_50 : gFl RX7 50 7 28 := ⟨_, _, _, rfl, by decide, List.mem_of_getElem? (i := 869) (by decide +kernel)⟩
theorem fX7_59 : gFl RX7 59 7 5 := ⟨_, _, _, rfl, by decide, List.mem_of_getElem? (i := 846) (by decide +kernel)⟩
theorem fX7_63 : gFl RX7 63 7 7 := ⟨_, _, _, rfl, by decide, List.mem_of_getElem? (i := 848) (by decide +kernel)⟩
theorem fX7_66 : gFl RX7 66 7 10 := ⟨_, _, _, rfl, by decide, List.mem_of_getElem? (i := 851) (by decide +kernel)⟩
theorem fX7_69 : gFl RX7 69 7 8 := ⟨_, _, _, rfl, by decide, List.mem_of_getElem? (i := 849) (by decide +kernel)⟩
theorem fX7_72 : gFl RX7 72 7 11 := ⟨_, _, _, rfl, by decide, List.mem_of_getElem? (i := 852) (by decide +kernel)⟩
theorem fX7_75 : gFl RX7 75 7 9 := ⟨_, _, _, rfl, by decide, List.mem_of_getElem? (i := 850) (by decide +kernel)⟩
theorem fX7_82 : gFl RX7 82 7 12 := ⟨_, _, _, rfl, by decide, List.mem_of_getElem? (i := 853) (by decide +kernel)⟩
theorem fX7_110 : gFl RX7 110 7 2 := ⟨_, _, _, rfl, by decide, List.mem_of_getElem? (i := 843) (by decide +kernel)⟩
theorem fX7_114 : gFl RX7 114 7 3 := ⟨_, _, _, rfl, by decide, List.mem_of_getElem? (i := 844) (by decide +kernel)⟩
theorem fX7_123 : gFl RX7 123 7 6 := ⟨_, _, _, rfl, by decide, List.mem_of_getElem? (i := 847) (by decide +kernel)⟩
theorem fX7_126 : gFl RX7 126 7 23 := ⟨_, _, _, rfl, by decide, List.mem_of_getElem? (i := 864) (by decide +kernel)⟩
theorem fX7_202 : gFl RX7 202 7 17 := ⟨_, _, _, rfl, by decide, List.mem_of_getElem? (i := 858) (by decide +kernel)⟩
theorem fX7_209 : gFl RX7 209 7 15 := ⟨_, _, _, rfl, by decide, List.mem_of_getElem? (i := 856) (by decide +kernel)⟩
theorem fX7_212 : gFl RX7 212 7 16 := ⟨_, _, _, rfl, by decide, List.mem_of_getElem? (i := 857) (by decide +kernel)⟩
theorem fX7_233 : gFl RX7 233 7 21 := ⟨_, _, _, rfl, by decide, List.mem_of_getElem? (i := 862) (by decide +kernel)⟩
theorem fX7_264 : gFl RX7 264 7 29 := ⟨_, _, _, rfl, by decide, List.mem_of_getElem? (i := 870) (by decide +kernel)⟩
theorem mwX6_init : gMw yX6_init cX6_init 2 (none) 0 := ⟨List.mem_of_getElem? (i := 73) (by decide +kernel), List.mem_of_getElem? (i := 55) (by decide +kernel), by decide +kernel, by decide +kernel, by decide⟩
theorem miX6_init : gMi yX6_init := ⟨by decide +kernel, List.mem_of_getElem? (i := 72) (by decide +kernel)⟩
theorem mwX6_add : gMw yX6_add cX6_add 3 (some .int) 2 := ⟨List.mem_of_getElem? (i := 537) (by decide +kernel), List.mem_of_getElem? (i := 55) (by decide +kernel), by decide +kernel, by decide +kernel, by decide⟩
theorem mvX6_add : gMv yX6_add := ⟨List.mem_of_getElem? (i := 535) (by decide +kernel), List.mem_of_getElem? (i := 536) (by decide +kernel)⟩
theorem mwX6_addTo : gMw yX6_addTo cX6_addTo 3 (some .int) 3 := ⟨List.mem_of_getElem? (i := 540) (by decide +kernel), List.mem_of_getElem? (i := 55) (by decide +kernel), by decide +kernel, by decide +kernel, by decide⟩
theorem msX6_addTo : gMs yX6_addTo := List.mem_of_getElem? (i := 539) (by decide +kernel)
theorem mwX6_afresh : gMw yX6_afresh cX6_afresh 1 (some (.object "GeyserNerves$Ground")) 0 := ⟨List.mem_of_getElem? (i := 596) (by decide +kernel), List.mem_of_getElem? (i := 55) (by decide +kernel), by decide +kernel, by decide +kernel, by decide⟩
theorem mvX6_afresh : gMv yX6_afresh := ⟨List.mem_of_getElem? (i := 595) (by decide +kernel), List.mem_of_getElem? (i := 12) (by decide +kernel)⟩
theorem mwX6_again : gMw yX6_again cX6_again 3 (some .int) 0 := ⟨List.mem_of_getElem? (i := 631) (by decide +kernel), List.mem_of_getElem? (i := 55) (by decide +kernel), by decide +kernel, by decide +kernel, by decide⟩
theorem mvX6_again : gMv yX6_again := ⟨List.mem_of_getElem? (i := 629) (by decide +kernel), List.mem_of_getElem? (i := 630) (by decide +kernel)⟩
theorem mwX6_ahead : gMw yX6_ahead cX6_ahead 7 (some .int) 3 := ⟨List.mem_of_getElem? (i := 610) (by decide +kernel), List.mem_of_getElem? (i := 55) (by decide +kernel), by decide +kernel, by decide +kernel, by decide⟩
theorem mvX6_ahead : gMv yX6_ahead := ⟨List.mem_of_getElem? (i := 608) (by decide +kernel), List.mem_of_getElem? (i := 609) (by decide +kernel)⟩
theorem mwX6_alter : gMw yX6_alter cX6_alter 5 (some .int) 3 := ⟨List.mem_of_getElem? (i := 509) (by decide +kernel), List.mem_of_getElem? (i := 55) (by decide +kernel), by decide +kernel, by decide +kernel, by decide⟩
theorem mvX6_alter : gMv yX6_alter := ⟨List.mem_of_getElem? (i := 507) (by decide +kernel), List.mem_of_getElem? (i := 508) (by decide +kernel)⟩
theorem mwX6_areOdds : gMw yX6_areOdds cX6_areOdds 3 (some .boolean) 3 := ⟨List.mem_of_getElem? (i := 707) (by decide +kernel), List.mem_of_getElem? (i := 55) (by decide +kernel), by decide +kernel, by decide +kernel, by decide⟩
theorem msX6_areOdds : gMs yX6_areOdds := List.mem_of_getElem? (i := 706) (by decide +kernel)
theorem mwX6_ask : gMw yX6_ask cX6_ask 8 (some .int) 2 := ⟨List.mem_of_getElem? (i := 762) (by decide +kernel), List.mem_of_getElem? (i := 55) (by decide +kernel), by decide +kernel, by decide +kernel, by decide⟩
theorem mvX6_ask : gMv yX6_ask := ⟨List.mem_of_getElem? (i := 760) (by decide +kernel), List.mem_of_getElem? (i := 761) (by decide +kernel)⟩
theorem mwX6_back : gMw yX6_back cX6_back 2 (some .int) 1 := ⟨List.mem_of_getElem? (i := 783) (by decide +kernel), List.mem_of_getElem? (i := 55) (by decide +kernel), by decide +kernel, by decide +kernel, by decide⟩
theorem mvX6_back : gMv yX6_back := ⟨List.mem_of_getElem? (i := 781) (by decide +kernel), List.mem_of_getElem? (i := 782) (by decide +kernel)⟩
theorem mwX6_bears : gMw yX6_bears cX6_bears 6 (some .int) 2 := ⟨List.mem_of_getElem? (i := 670) (by decide +kernel), List.mem_of_getElem? (i := 55) (by decide +kernel), by decide +kernel, by decide +kernel, by decide⟩
theorem mvX6_bears : gMv yX6_bears := ⟨List.mem_of_getElem? (i := 668) (by decide +kernel), List.mem_of_getElem? (i := 669) (by decide +kernel)⟩
theorem mwX6_bit : gMw yX6_bit cX6_bit 2 (some .int) 2 := ⟨List.mem_of_getElem? (i := 617) (by decide +kernel), List.mem_of_getElem? (i := 55) (by decide +kernel), by decide +kernel, by decide +kernel, by decide⟩
theorem msX6_bit : gMs yX6_bit := List.mem_of_getElem? (i := 616) (by decide +kernel)
theorem mwX6_companyOnRoute : gMw yX6_companyOnRoute cX6_companyOnRoute 7 (some .int) 3 := ⟨List.mem_of_getElem? (i := 655) (by decide +kernel), List.mem_of_getElem? (i := 55) (by decide +kernel), by decide +kernel, by decide +kernel, by decide⟩
theorem mvX6_companyOnRoute : gMv yX6_companyOnRoute := ⟨List.mem_of_getElem? (i := 654) (by decide +kernel), List.mem_of_getElem? (i := 14) (by decide +kernel)⟩
theorem mwX6_count : gMw yX6_count cX6_count 2 (some .int) 1 := ⟨List.mem_of_getElem? (i := 830) (by decide +kernel), List.mem_of_getElem? (i := 55) (by decide +kernel), by decide +kernel, by decide +kernel, by decide⟩
theorem mvX6_count : gMv yX6_count := ⟨List.mem_of_getElem? (i := 828) (by decide +kernel), List.mem_of_getElem? (i := 829) (by decide +kernel)⟩
theorem mwX6_cut : gMw yX6_cut cX6_cut 3 (some .int) 1 := ⟨List.mem_of_getElem? (i := 533) (by decide +kernel), List.mem_of_getElem? (i := 55) (by decide +kernel), by decide +kernel, by decide +kernel, by decide⟩
theorem mvX6_cut : gMv yX6_cut := ⟨List.mem_of_getElem? (i := 531) (by decide +kernel), List.mem_of_getElem? (i := 532) (by decide +kernel)⟩
theorem mwX6_drop : gMw yX6_drop cX6_drop 3 (some .int) 1 := ⟨List.mem_of_getElem? (i := 545) (by decide +kernel), List.mem_of_getElem? (i := 55) (by decide +kernel), by decide +kernel, by decide +kernel, by decide⟩
theorem mvX6_drop : gMv yX6_drop := ⟨List.mem_of_getElem? (i := 543) (by decide +kernel), List.mem_of_getElem? (i := 544) (by decide +kernel)⟩
theorem mwX6_end : gMw yX6_end cX6_end 3 (some .int) 1 := ⟨List.mem_of_getElem? (i := 301) (by decide +kernel), List.mem_of_getElem? (i := 55) (by decide +kernel), by decide +kernel, by decide +kernel, by decide⟩
theorem mvX6_end : gMv yX6_end := ⟨List.mem_of_getElem? (i := 299) (by decide +kernel), List.mem_of_getElem? (i := 300) (by decide +kernel)⟩
theorem mwX6_fault : gMw yX6_fault cX6_fault 1 (some .int) 0 := ⟨List.mem_of_getElem? (i := 455) (by decide +kernel), List.mem_of_getElem? (i := 55) (by decide +kernel), by decide +kernel, by decide +kernel, by decide⟩
theorem mvX6_fault : gMv yX6_fault := ⟨List.mem_of_getElem? (i := 453) (by decide +kernel), List.mem_of_getElem? (i := 454) (by decide +kernel)⟩
theorem mwX6_feed : gMw yX6_feed cX6_feed 2 (some .int) 1 := ⟨List.mem_of_getElem? (i := 290) (by decide +kernel), List.mem_of_getElem? (i := 55) (by decide +kernel), by decide +kernel, by decide +kernel, by decide⟩
theorem mvX6_feed : gMv yX6_feed := ⟨List.mem_of_getElem? (i := 288) (by decide +kernel), List.mem_of_getElem? (i := 289) (by decide +kernel)⟩
theorem mwX6_fitsVent : gMw yX6_fitsVent cX6_fitsVent 2 (some .boolean) 2 := ⟨List.mem_of_getElem? (i := 512) (by decide +kernel), List.mem_of_getElem? (i := 55) (by decide +kernel), by decide +kernel, by decide +kernel, by decide⟩
theorem msX6_fitsVent : gMs yX6_fitsVent := List.mem_of_getElem? (i := 511) (by decide +kernel)
theorem mwX6_flow : gMw yX6_flow cX6_flow 6 (some .int) 3 := ⟨List.mem_of_getElem? (i := 678) (by decide +kernel), List.mem_of_getElem? (i := 55) (by decide +kernel), by decide +kernel, by decide +kernel, by decide⟩
theorem mvX6_flow : gMv yX6_flow := ⟨List.mem_of_getElem? (i := 676) (by decide +kernel), List.mem_of_getElem? (i := 677) (by decide +kernel)⟩
theorem mwX6_forget : gMw yX6_forget cX6_forget 3 (some .int) 1 := ⟨List.mem_of_getElem? (i := 737) (by decide +kernel), List.mem_of_getElem? (i := 55) (by decide +kernel), by decide +kernel, by decide +kernel, by decide⟩
theorem mvX6_forget : gMv yX6_forget := ⟨List.mem_of_getElem? (i := 735) (by decide +kernel), List.mem_of_getElem? (i := 736) (by decide +kernel)⟩
theorem mwX6_geyser : gMw yX6_geyser cX6_geyser 3 (some .int) 2 := ⟨List.mem_of_getElem? (i := 487) (by decide +kernel), List.mem_of_getElem? (i := 55) (by decide +kernel), by decide +kernel, by decide +kernel, by decide⟩
theorem mvX6_geyser : gMv yX6_geyser := ⟨List.mem_of_getElem? (i := 485) (by decide +kernel), List.mem_of_getElem? (i := 486) (by decide +kernel)⟩
theorem mwX6_goesAsSeen : gMw yX6_goesAsSeen cX6_goesAsSeen 3 (some .boolean) 1 := ⟨List.mem_of_getElem? (i := 745) (by decide +kernel), List.mem_of_getElem? (i := 55) (by decide +kernel), by decide +kernel, by decide +kernel, by decide⟩
theorem mvX6_goesAsSeen : gMv yX6_goesAsSeen := ⟨List.mem_of_getElem? (i := 744) (by decide +kernel), List.mem_of_getElem? (i := 19) (by decide +kernel)⟩
theorem mwX6_goesAsSeenByNerve : gMw yX6_goesAsSeenByNerve cX6_goesAsSeenByNerve 4 (some .boolean) 2 := ⟨List.mem_of_getElem? (i := 758) (by decide +kernel), List.mem_of_getElem? (i := 55) (by decide +kernel), by decide +kernel, by decide +kernel, by decide⟩
theorem mvX6_goesAsSeenByNerve : gMv yX6_goesAsSeenByNerve := ⟨List.mem_of_getElem? (i := 757) (by decide +kernel), List.mem_of_getElem? (i := 20) (by decide +kernel)⟩
theorem mwX6_hours : gMw yX6_hours cX6_hours 2 (some .int) 1 := ⟨List.mem_of_getElem? (i := 549) (by decide +kernel), List.mem_of_getElem? (i := 55) (by decide +kernel), by decide +kernel, by decide +kernel, by decide⟩
theorem mvX6_hours : gMv yX6_hours := ⟨List.mem_of_getElem? (i := 547) (by decide +kernel), List.mem_of_getElem? (i := 548) (by decide +kernel)⟩
theorem mwX6_hoursOf : gMw yX6_hoursOf cX6_hoursOf 5 (some .long) 1 := ⟨List.mem_of_getElem? (i := 766) (by decide +kernel), List.mem_of_getElem? (i := 55) (by decide +kernel), by decide +kernel, by decide +kernel, by decide⟩
theorem mvX6_hoursOf : gMv yX6_hoursOf := ⟨List.mem_of_getElem? (i := 765) (by decide +kernel), List.mem_of_getElem? (i := 21) (by decide +kernel)⟩
theorem mwX6_isAhead : gMw yX6_isAhead cX6_isAhead 1 (some .boolean) 1 := ⟨List.mem_of_getElem? (i := 592) (by decide +kernel), List.mem_of_getElem? (i := 55) (by decide +kernel), by decide +kernel, by decide +kernel, by decide⟩
theorem msX6_isAhead : gMs yX6_isAhead := List.mem_of_getElem? (i := 591) (by decide +kernel)
theorem mwX6_isLane : gMw yX6_isLane cX6_isLane 1 (some .boolean) 1 := ⟨List.mem_of_getElem? (i := 790) (by decide +kernel), List.mem_of_getElem? (i := 55) (by decide +kernel), by decide +kernel, by decide +kernel, by decide⟩
theorem msX6_isLane : gMs yX6_isLane := List.mem_of_getElem? (i := 789) (by decide +kernel)
theorem mwX6_keep : gMw yX6_keep cX6_keep 3 (some .int) 1 := ⟨List.mem_of_getElem? (i := 779) (by decide +kernel), List.mem_of_getElem? (i := 55) (by decide +kernel), by decide +kernel, by decide +kernel, by decide⟩
theorem mvX6_keep : gMv yX6_keep := ⟨List.mem_of_getElem? (i := 777) (by decide +kernel), List.mem_of_getElem? (i := 778) (by decide +kernel)⟩
theorem mwX6_kind : gMw yX6_kind cX6_kind 9 (some .int) 3 := ⟨List.mem_of_getElem? (i := 682) (by decide +kernel), List.mem_of_getElem? (i := 55) (by decide +kernel), by decide +kernel, by decide +kernel, by decide⟩
theorem mvX6_kind : gMv yX6_kind := ⟨List.mem_of_getElem? (i := 680) (by decide +kernel), List.mem_of_getElem? (i := 681) (by decide +kernel)⟩
theorem mwX6_kinds : gMw yX6_kinds cX6_kinds 5 (some .int) 1 := ⟨List.mem_of_getElem? (i := 741) (by decide +kernel), List.mem_of_getElem? (i := 55) (by decide +kernel), by decide +kernel, by decide +kernel, by decide⟩
theorem mvX6_kinds : gMv yX6_kinds := ⟨List.mem_of_getElem? (i := 739) (by decide +kernel), List.mem_of_getElem? (i := 740) (by decide +kernel)⟩
theorem mwX6_lay : gMw yX6_lay cX6_lay 5 (some .int) 3 := ⟨List.mem_of_getElem? (i := 800) (by decide +kernel), List.mem_of_getElem? (i := 55) (by decide +kernel), by decide +kernel, by decide +kernel, by decide⟩
theorem mvX6_lay : gMv yX6_lay := ⟨List.mem_of_getElem? (i := 798) (by decide +kernel), List.mem_of_getElem? (i := 799) (by decide +kernel)⟩
theorem mwX6_leastFor : gMw yX6_leastFor cX6_leastFor 8 (some .int) 4 := ⟨List.mem_of_getElem? (i := 690) (by decide +kernel), List.mem_of_getElem? (i := 55) (by decide +kernel), by decide +kernel, by decide +kernel, by decide⟩
theorem mvX6_leastFor : gMv yX6_leastFor := ⟨List.mem_of_getElem? (i := 689) (by decide +kernel), List.mem_of_getElem? (i := 16) (by decide +kernel)⟩
theorem mwX6_leftAtWorst : gMw yX6_leftAtWorst cX6_leftAtWorst 5 (some .int) 2 := ⟨List.mem_of_getElem? (i := 770) (by decide +kernel), List.mem_of_getElem? (i := 55) (by decide +kernel), by decide +kernel, by decide +kernel, by decide⟩
theorem mvX6_leftAtWorst : gMv yX6_leftAtWorst := ⟨List.mem_of_getElem? (i := 769) (by decide +kernel), List.mem_of_getElem? (i := 22) (by decide +kernel)⟩
theorem mwX6_lowest : gMw yX6_lowest cX6_lowest 12 (some .long) 3 := ⟨List.mem_of_getElem? (i := 721) (by decide +kernel), List.mem_of_getElem? (i := 55) (by decide +kernel), by decide +kernel, by decide +kernel, by decide⟩
theorem msX6_lowest : gMs yX6_lowest := List.mem_of_getElem? (i := 720) (by decide +kernel)
theorem mwX6_luck : gMw yX6_luck cX6_luck 8 (some .long) 4 := ⟨List.mem_of_getElem? (i := 704) (by decide +kernel), List.mem_of_getElem? (i := 55) (by decide +kernel), by decide +kernel, by decide +kernel, by decide⟩
theorem mvX6_luck : gMv yX6_luck := ⟨List.mem_of_getElem? (i := 702) (by decide +kernel), List.mem_of_getElem? (i := 703) (by decide +kernel)⟩
theorem mwX6_mean : gMw yX6_mean cX6_mean 7 (some .long) 3 := ⟨List.mem_of_getElem? (i := 725) (by decide +kernel), List.mem_of_getElem? (i := 55) (by decide +kernel), by decide +kernel, by decide +kernel, by decide⟩
theorem mvX6_mean : gMv yX6_mean := ⟨List.mem_of_getElem? (i := 723) (by decide +kernel), List.mem_of_getElem? (i := 724) (by decide +kernel)⟩
theorem mwX6_mostFrom : gMw yX6_mostFrom cX6_mostFrom 5 (some .int) 2 := ⟨List.mem_of_getElem? (i := 699) (by decide +kernel), List.mem_of_getElem? (i := 55) (by decide +kernel), by decide +kernel, by decide +kernel, by decide⟩
theorem mvX6_mostFrom : gMv yX6_mostFrom := ⟨List.mem_of_getElem? (i := 698) (by decide +kernel), List.mem_of_getElem? (i := 17) (by decide +kernel)⟩
theorem mwX6_nerves : gMw yX6_nerves cX6_nerves 4 (some .int) 1 := ⟨List.mem_of_getElem? (i := 754) (by decide +kernel), List.mem_of_getElem? (i := 55) (by decide +kernel), by decide +kernel, by decide +kernel, by decide⟩
theorem mvX6_nerves : gMv yX6_nerves := ⟨List.mem_of_getElem? (i := 752) (by decide +kernel), List.mem_of_getElem? (i := 753) (by decide +kernel)⟩
theorem mwX6_open : gMw yX6_open cX6_open 4 (some .int) 3 := ⟨List.mem_of_getElem? (i := 528) (by decide +kernel), List.mem_of_getElem? (i := 55) (by decide +kernel), by decide +kernel, by decide +kernel, by decide⟩
theorem mvX6_open : gMv yX6_open := ⟨List.mem_of_getElem? (i := 526) (by decide +kernel), List.mem_of_getElem? (i := 527) (by decide +kernel)⟩
theorem mwX6_play : gMw yX6_play cX6_play 7 (some .int) 2 := ⟨List.mem_of_getElem? (i := 686) (by decide +kernel), List.mem_of_getElem? (i := 55) (by decide +kernel), by decide +kernel, by decide +kernel, by decide⟩
theorem mvX6_play : gMv yX6_play := ⟨List.mem_of_getElem? (i := 684) (by decide +kernel), List.mem_of_getElem? (i := 685) (by decide +kernel)⟩
theorem mwX6_power : gMw yX6_power cX6_power 5 (some .long) 2 := ⟨List.mem_of_getElem? (i := 718) (by decide +kernel), List.mem_of_getElem? (i := 55) (by decide +kernel), by decide +kernel, by decide +kernel, by decide⟩
theorem msX6_power : gMs yX6_power := List.mem_of_getElem? (i := 717) (by decide +kernel)
theorem mwX6_read : gMw yX6_read cX6_read 11 (some .int) 4 := ⟨List.mem_of_getElem? (i := 812) (by decide +kernel), List.mem_of_getElem? (i := 55) (by decide +kernel), by decide +kernel, by decide +kernel, by decide⟩
theorem mvX6_read : gMv yX6_read := ⟨List.mem_of_getElem? (i := 810) (by decide +kernel), List.mem_of_getElem? (i := 811) (by decide +kernel)⟩
theorem mwX6_route : gMw yX6_route cX6_route 8 (some .int) 2 := ⟨List.mem_of_getElem? (i := 647) (by decide +kernel), List.mem_of_getElem? (i := 55) (by decide +kernel), by decide +kernel, by decide +kernel, by decide⟩
theorem mvX6_route : gMv yX6_route := ⟨List.mem_of_getElem? (i := 645) (by decide +kernel), List.mem_of_getElem? (i := 646) (by decide +kernel)⟩
theorem mwX6_row : gMw yX6_row cX6_row 3 (some .int) 2 := ⟨List.mem_of_getElem? (i := 504) (by decide +kernel), List.mem_of_getElem? (i := 55) (by decide +kernel), by decide +kernel, by decide +kernel, by decide⟩
theorem mvX6_row : gMv yX6_row := ⟨List.mem_of_getElem? (i := 502) (by decide +kernel), List.mem_of_getElem? (i := 503) (by decide +kernel)⟩
theorem mwX6_rule : gMw yX6_rule cX6_rule 2 (some .int) 1 := ⟨List.mem_of_getElem? (i := 459) (by decide +kernel), List.mem_of_getElem? (i := 55) (by decide +kernel), by decide +kernel, by decide +kernel, by decide⟩
theorem mvX6_rule : gMv yX6_rule := ⟨List.mem_of_getElem? (i := 457) (by decide +kernel), List.mem_of_getElem? (i := 458) (by decide +kernel)⟩
theorem mwX6_runs : gMw yX6_runs cX6_runs 3 (some .int) 2 := ⟨List.mem_of_getElem? (i := 589) (by decide +kernel), List.mem_of_getElem? (i := 55) (by decide +kernel), by decide +kernel, by decide +kernel, by decide⟩
theorem mvX6_runs : gMv yX6_runs := ⟨List.mem_of_getElem? (i := 587) (by decide +kernel), List.mem_of_getElem? (i := 588) (by decide +kernel)⟩
theorem mwX6_season : gMw yX6_season cX6_season 9 (some .int) 3 := ⟨List.mem_of_getElem? (i := 774) (by decide +kernel), List.mem_of_getElem? (i := 55) (by decide +kernel), by decide +kernel, by decide +kernel, by decide⟩
theorem mvX6_season : gMv yX6_season := ⟨List.mem_of_getElem? (i := 772) (by decide +kernel), List.mem_of_getElem? (i := 773) (by decide +kernel)⟩
theorem mwX6_see : gMw yX6_see cX6_see 4 (some .int) 3 := ⟨List.mem_of_getElem? (i := 729) (by decide +kernel), List.mem_of_getElem? (i := 55) (by decide +kernel), by decide +kernel, by decide +kernel, by decide⟩
theorem mvX6_see : gMv yX6_see := ⟨List.mem_of_getElem? (i := 727) (by decide +kernel), List.mem_of_getElem? (i := 728) (by decide +kernel)⟩
theorem mwX6_set : gMw yX6_set cX6_set 5 (some .int) 3 := ⟨List.mem_of_getElem? (i := 524) (by decide +kernel), List.mem_of_getElem? (i := 55) (by decide +kernel), by decide +kernel, by decide +kernel, by decide⟩
theorem mvX6_set : gMv yX6_set := ⟨List.mem_of_getElem? (i := 522) (by decide +kernel), List.mem_of_getElem? (i := 523) (by decide +kernel)⟩
theorem mwX6_sheet : gMw yX6_sheet cX6_sheet 4 (some .int) 3 := ⟨List.mem_of_getElem? (i := 787) (by decide +kernel), List.mem_of_getElem? (i := 55) (by decide +kernel), by decide +kernel, by decide +kernel, by decide⟩
theorem mvX6_sheet : gMv yX6_sheet := ⟨List.mem_of_getElem? (i := 785) (by decide +kernel), List.mem_of_getElem? (i := 786) (by decide +kernel)⟩
theorem mwX6_swap : gMw yX6_swap cX6_swap 9 (some .int) 2 := ⟨List.mem_of_getElem? (i := 662) (by decide +kernel), List.mem_of_getElem? (i := 55) (by decide +kernel), by decide +kernel, by decide +kernel, by decide⟩
theorem mvX6_swap : gMv yX6_swap := ⟨List.mem_of_getElem? (i := 660) (by decide +kernel), List.mem_of_getElem? (i := 661) (by decide +kernel)⟩
theorem mwX6_tell : gMw yX6_tell cX6_tell 4 (some .int) 2 := ⟨List.mem_of_getElem? (i := 520) (by decide +kernel), List.mem_of_getElem? (i := 55) (by decide +kernel), by decide +kernel, by decide +kernel, by decide⟩
theorem mvX6_tell : gMv yX6_tell := ⟨List.mem_of_getElem? (i := 518) (by decide +kernel), List.mem_of_getElem? (i := 519) (by decide +kernel)⟩
theorem mwX6_text : gMw yX6_text cX6_text 3 (some .int) 0 := ⟨List.mem_of_getElem? (i := 305) (by decide +kernel), List.mem_of_getElem? (i := 55) (by decide +kernel), by decide +kernel, by decide +kernel, by decide⟩
theorem mvX6_text : gMv yX6_text := ⟨List.mem_of_getElem? (i := 303) (by decide +kernel), List.mem_of_getElem? (i := 304) (by decide +kernel)⟩
theorem mwX6_torn : gMw yX6_torn cX6_torn 1 (some .int) 0 := ⟨List.mem_of_getElem? (i := 826) (by decide +kernel), List.mem_of_getElem? (i := 55) (by decide +kernel), by decide +kernel, by decide +kernel, by decide⟩
theorem mvX6_torn : gMv yX6_torn := ⟨List.mem_of_getElem? (i := 824) (by decide +kernel), List.mem_of_getElem? (i := 825) (by decide +kernel)⟩
theorem mwX6_ups : gMw yX6_ups cX6_ups 3 (some .int) 1 := ⟨List.mem_of_getElem? (i := 621) (by decide +kernel), List.mem_of_getElem? (i := 55) (by decide +kernel), by decide +kernel, by decide +kernel, by decide⟩
theorem mvX6_ups : gMv yX6_ups := ⟨List.mem_of_getElem? (i := 619) (by decide +kernel), List.mem_of_getElem? (i := 620) (by decide +kernel)⟩
theorem mwX6_upsByOdds : gMw yX6_upsByOdds cX6_upsByOdds 8 (some .int) 3 := ⟨List.mem_of_getElem? (i := 712) (by decide +kernel), List.mem_of_getElem? (i := 55) (by decide +kernel), by decide +kernel, by decide +kernel, by decide⟩
theorem mvX6_upsByOdds : gMv yX6_upsByOdds := ⟨List.mem_of_getElem? (i := 711) (by decide +kernel), List.mem_of_getElem? (i := 18) (by decide +kernel)⟩
theorem mwX6_upsByRoute : gMw yX6_upsByRoute cX6_upsByRoute 6 (some .int) 2 := ⟨List.mem_of_getElem? (i := 651) (by decide +kernel), List.mem_of_getElem? (i := 55) (by decide +kernel), by decide +kernel, by decide +kernel, by decide⟩
theorem mvX6_upsByRoute : gMv yX6_upsByRoute := ⟨List.mem_of_getElem? (i := 650) (by decide +kernel), List.mem_of_getElem? (i := 13) (by decide +kernel)⟩
theorem mwX6_upsWithWatchers : gMw yX6_upsWithWatchers cX6_upsWithWatchers 5 (some .int) 3 := ⟨List.mem_of_getElem? (i := 674) (by decide +kernel), List.mem_of_getElem? (i := 55) (by decide +kernel), by decide +kernel, by decide +kernel, by decide⟩
theorem mvX6_upsWithWatchers : gMv yX6_upsWithWatchers := ⟨List.mem_of_getElem? (i := 673) (by decide +kernel), List.mem_of_getElem? (i := 15) (by decide +kernel)⟩
theorem mwX6_weight : gMw yX6_weight cX6_weight 4 (some .long) 3 := ⟨List.mem_of_getElem? (i := 715) (by decide +kernel), List.mem_of_getElem? (i := 55) (by decide +kernel), by decide +kernel, by decide +kernel, by decide⟩
theorem msX6_weight : gMs yX6_weight := List.mem_of_getElem? (i := 714) (by decide +kernel)
theorem mwX6_when : gMw yX6_when cX6_when 4 (some .int) 1 := ⟨List.mem_of_getElem? (i := 626) (by decide +kernel), List.mem_of_getElem? (i := 55) (by decide +kernel), by decide +kernel, by decide +kernel, by decide⟩
theorem mvX6_when : gMv yX6_when := ⟨List.mem_of_getElem? (i := 624) (by decide +kernel), List.mem_of_getElem? (i := 625) (by decide +kernel)⟩
theorem mwX6_whom : gMw yX6_whom cX6_whom 9 (some .int) 3 := ⟨List.mem_of_getElem? (i := 639) (by decide +kernel), List.mem_of_getElem? (i := 55) (by decide +kernel), by decide +kernel, by decide +kernel, by decide⟩
theorem mvX6_whom : gMv yX6_whom := ⟨List.mem_of_getElem? (i := 637) (by decide +kernel), List.mem_of_getElem? (i := 638) (by decide +kernel)⟩
theorem mwX6_within : gMw yX6_within cX6_within 3 (some .boolean) 3 := ⟨List.mem_of_getElem? (i := 293) (by decide +kernel), List.mem_of_getElem? (i := 55) (by decide +kernel), by decide +kernel, by decide +kernel, by decide⟩
theorem msX6_within : gMs yX6_within := List.mem_of_getElem? (i := 292) (by decide +kernel)
theorem mwX0_init : gMw yX0_init cX0_init 2 (none) 0 := ⟨List.mem_of_getElem? (i := 81) (by decide +kernel), List.mem_of_getElem? (i := 56) (by decide +kernel), by decide +kernel, by decide +kernel, by decide⟩
theorem miX0_init : gMi yX0_init := ⟨by decide +kernel, List.mem_of_getElem? (i := 80) (by decide +kernel)⟩
theorem mwX0_become : gMw yX0_become cX0_become 3 (none) 1 := ⟨List.mem_of_getElem? (i := 443) (by decide +kernel), List.mem_of_getElem? (i := 56) (by decide +kernel), by decide +kernel, by decide +kernel, by decide⟩
theorem mvX0_become : gMv yX0_become := ⟨List.mem_of_getElem? (i := 441) (by decide +kernel), List.mem_of_getElem? (i := 442) (by decide +kernel)⟩
theorem mwX0_choice : gMw yX0_choice cX0_choice 2 (some .int) 1 := ⟨List.mem_of_getElem? (i := 643) (by decide +kernel), List.mem_of_getElem? (i := 56) (by decide +kernel), by decide +kernel, by decide +kernel, by decide⟩
theorem mvX0_choice : gMv yX0_choice := ⟨List.mem_of_getElem? (i := 641) (by decide +kernel), List.mem_of_getElem? (i := 642) (by decide +kernel)⟩
theorem mwX0_clear : gMw yX0_clear cX0_clear 1 (none) 0 := ⟨List.mem_of_getElem? (i := 313) (by decide +kernel), List.mem_of_getElem? (i := 56) (by decide +kernel), by decide +kernel, by decide +kernel, by decide⟩
theorem mvX0_clear : gMv yX0_clear := ⟨List.mem_of_getElem? (i := 311) (by decide +kernel), List.mem_of_getElem? (i := 312) (by decide +kernel)⟩
theorem mwX0_companyNow : gMw yX0_companyNow cX0_companyNow 2 (some .int) 0 := ⟨List.mem_of_getElem? (i := 483) (by decide +kernel), List.mem_of_getElem? (i := 56) (by decide +kernel), by decide +kernel, by decide +kernel, by decide⟩
theorem mvX0_companyNow : gMv yX0_companyNow := ⟨List.mem_of_getElem? (i := 481) (by decide +kernel), List.mem_of_getElem? (i := 482) (by decide +kernel)⟩
theorem mwX0_exchange : gMw yX0_exchange cX0_exchange 5 (none) 2 := ⟨List.mem_of_getElem? (i := 666) (by decide +kernel), List.mem_of_getElem? (i := 56) (by decide +kernel), by decide +kernel, by decide +kernel, by decide⟩
theorem mvX0_exchange : gMv yX0_exchange := ⟨List.mem_of_getElem? (i := 664) (by decide +kernel), List.mem_of_getElem? (i := 665) (by decide +kernel)⟩
theorem mwX0_greatestHeat : gMw yX0_greatestHeat cX0_greatestHeat 3 (some .int) 0 := ⟨List.mem_of_getElem? (i := 604) (by decide +kernel), List.mem_of_getElem? (i := 56) (by decide +kernel), by decide +kernel, by decide +kernel, by decide⟩
theorem mvX0_greatestHeat : gMv yX0_greatestHeat := ⟨List.mem_of_getElem? (i := 602) (by decide +kernel), List.mem_of_getElem? (i := 603) (by decide +kernel)⟩
theorem mwX0_hasRow : gMw yX0_hasRow cX0_hasRow 2 (some .boolean) 1 := ⟨List.mem_of_getElem? (i := 479) (by decide +kernel), List.mem_of_getElem? (i := 56) (by decide +kernel), by decide +kernel, by decide +kernel, by decide⟩
theorem mvX0_hasRow : gMv yX0_hasRow := ⟨List.mem_of_getElem? (i := 477) (by decide +kernel), List.mem_of_getElem? (i := 478) (by decide +kernel)⟩
theorem mwX0_hasVent : gMw yX0_hasVent cX0_hasVent 2 (some .boolean) 1 := ⟨List.mem_of_getElem? (i := 491) (by decide +kernel), List.mem_of_getElem? (i := 56) (by decide +kernel), by decide +kernel, by decide +kernel, by decide⟩
theorem mvX0_hasVent : gMv yX0_hasVent := ⟨List.mem_of_getElem? (i := 489) (by decide +kernel), List.mem_of_getElem? (i := 490) (by decide +kernel)⟩
theorem mwX0_moreRows : gMw yX0_moreRows cX0_moreRows 3 (some .boolean) 2 := ⟨List.mem_of_getElem? (i := 427) (by decide +kernel), List.mem_of_getElem? (i := 56) (by decide +kernel), by decide +kernel, by decide +kernel, by decide⟩
theorem mvX0_moreRows : gMv yX0_moreRows := ⟨List.mem_of_getElem? (i := 425) (by decide +kernel), List.mem_of_getElem? (i := 426) (by decide +kernel)⟩
theorem mwX0_moreVents : gMw yX0_moreVents cX0_moreVents 4 (some .boolean) 3 := ⟨List.mem_of_getElem? (i := 435) (by decide +kernel), List.mem_of_getElem? (i := 56) (by decide +kernel), by decide +kernel, by decide +kernel, by decide⟩
theorem mvX0_moreVents : gMv yX0_moreVents := ⟨List.mem_of_getElem? (i := 433) (by decide +kernel), List.mem_of_getElem? (i := 434) (by decide +kernel)⟩
theorem mwX0_pass : gMw yX0_pass cX0_pass 5 (some .int) 2 := ⟨List.mem_of_getElem? (i := 563) (by decide +kernel), List.mem_of_getElem? (i := 56) (by decide +kernel), by decide +kernel, by decide +kernel, by decide⟩
theorem mvX0_pass : gMv yX0_pass := ⟨List.mem_of_getElem? (i := 561) (by decide +kernel), List.mem_of_getElem? (i := 562) (by decide +kernel)⟩
theorem mwX0_passByPlan : gMw yX0_passByPlan cX0_passByPlan 1 (some .int) 0 := ⟨List.mem_of_getElem? (i := 557) (by decide +kernel), List.mem_of_getElem? (i := 56) (by decide +kernel), by decide +kernel, by decide +kernel, by decide⟩
theorem mvX0_passByPlan : gMv yX0_passByPlan := ⟨List.mem_of_getElem? (i := 555) (by decide +kernel), List.mem_of_getElem? (i := 556) (by decide +kernel)⟩
theorem mwX0_shareOf : gMw yX0_shareOf cX0_shareOf 2 (some .int) 1 := ⟨List.mem_of_getElem? (i := 495) (by decide +kernel), List.mem_of_getElem? (i := 56) (by decide +kernel), by decide +kernel, by decide +kernel, by decide⟩
theorem mvX0_shareOf : gMv yX0_shareOf := ⟨List.mem_of_getElem? (i := 493) (by decide +kernel), List.mem_of_getElem? (i := 494) (by decide +kernel)⟩
theorem mwX0_standsAs : gMw yX0_standsAs cX0_standsAs 3 (some .boolean) 1 := ⟨List.mem_of_getElem? (i := 635) (by decide +kernel), List.mem_of_getElem? (i := 56) (by decide +kernel), by decide +kernel, by decide +kernel, by decide⟩
theorem mvX0_standsAs : gMv yX0_standsAs := ⟨List.mem_of_getElem? (i := 633) (by decide +kernel), List.mem_of_getElem? (i := 634) (by decide +kernel)⟩
theorem mwX0_sumOf : gMw yX0_sumOf cX0_sumOf 4 (some .int) 1 := ⟨List.mem_of_getElem? (i := 463) (by decide +kernel), List.mem_of_getElem? (i := 56) (by decide +kernel), by decide +kernel, by decide +kernel, by decide⟩
theorem mvX0_sumOf : gMv yX0_sumOf := ⟨List.mem_of_getElem? (i := 461) (by decide +kernel), List.mem_of_getElem? (i := 462) (by decide +kernel)⟩
theorem mwX0_sumOfWatchers : gMw yX0_sumOfWatchers cX0_sumOfWatchers 3 (some .int) 0 := ⟨List.mem_of_getElem? (i := 834) (by decide +kernel), List.mem_of_getElem? (i := 56) (by decide +kernel), by decide +kernel, by decide +kernel, by decide⟩
theorem mvX0_sumOfWatchers : gMv yX0_sumOfWatchers := ⟨List.mem_of_getElem? (i := 832) (by decide +kernel), List.mem_of_getElem? (i := 833) (by decide +kernel)⟩
theorem mwX0_takeMoods : gMw yX0_takeMoods cX0_takeMoods 3 (none) 1 := ⟨List.mem_of_getElem? (i := 694) (by decide +kernel), List.mem_of_getElem? (i := 56) (by decide +kernel), by decide +kernel, by decide +kernel, by decide⟩
theorem mvX0_takeMoods : gMv yX0_takeMoods := ⟨List.mem_of_getElem? (i := 692) (by decide +kernel), List.mem_of_getElem? (i := 693) (by decide +kernel)⟩
theorem mwX0_tally : gMw yX0_tally cX0_tally 10 (some .int) 2 := ⟨List.mem_of_getElem? (i := 600) (by decide +kernel), List.mem_of_getElem? (i := 56) (by decide +kernel), by decide +kernel, by decide +kernel, by decide⟩
theorem mvX0_tally : gMv yX0_tally := ⟨List.mem_of_getElem? (i := 598) (by decide +kernel), List.mem_of_getElem? (i := 599) (by decide +kernel)⟩
theorem mwX0_turn : gMw yX0_turn cX0_turn 1 (some .int) 0 := ⟨List.mem_of_getElem? (i := 475) (by decide +kernel), List.mem_of_getElem? (i := 56) (by decide +kernel), by decide +kernel, by decide +kernel, by decide⟩
theorem mvX0_turn : gMv yX0_turn := ⟨List.mem_of_getElem? (i := 473) (by decide +kernel), List.mem_of_getElem? (i := 474) (by decide +kernel)⟩
theorem mwX0_upsOf : gMw yX0_upsOf cX0_upsOf 5 (some .int) 2 := ⟨List.mem_of_getElem? (i := 614) (by decide +kernel), List.mem_of_getElem? (i := 56) (by decide +kernel), by decide +kernel, by decide +kernel, by decide⟩
theorem mvX0_upsOf : gMv yX0_upsOf := ⟨List.mem_of_getElem? (i := 612) (by decide +kernel), List.mem_of_getElem? (i := 613) (by decide +kernel)⟩
theorem mwX0_upsOfAll : gMw yX0_upsOfAll cX0_upsOfAll 4 (some .int) 1 := ⟨List.mem_of_getElem? (i := 553) (by decide +kernel), List.mem_of_getElem? (i := 56) (by decide +kernel), by decide +kernel, by decide +kernel, by decide⟩
theorem mvX0_upsOfAll : gMv yX0_upsOfAll := ⟨List.mem_of_getElem? (i := 551) (by decide +kernel), List.mem_of_getElem? (i := 552) (by decide +kernel)⟩
theorem mwX0_watchersNow : gMw yX0_watchersNow cX0_watchersNow 2 (some .int) 0 := ⟨List.mem_of_getElem? (i := 471) (by decide +kernel), List.mem_of_getElem? (i := 56) (by decide +kernel), by decide +kernel, by decide +kernel, by decide⟩
theorem mvX0_watchersNow : gMv yX0_watchersNow := ⟨List.mem_of_getElem? (i := 469) (by decide +kernel), List.mem_of_getElem? (i := 470) (by decide +kernel)⟩
theorem mwX1_init : gMw yX1_init cX1_init 1 (none) 0 := ⟨List.mem_of_getElem? (i := 158) (by decide +kernel), List.mem_of_getElem? (i := 58) (by decide +kernel), by decide +kernel, by decide +kernel, by decide⟩
theorem miX1_init : gMi yX1_init := ⟨by decide +kernel, List.mem_of_getElem? (i := 157) (by decide +kernel)⟩
theorem mwX1_advance : gMw yX1_advance cX1_advance 3 (none) 0 := ⟨List.mem_of_getElem? (i := 317) (by decide +kernel), List.mem_of_getElem? (i := 58) (by decide +kernel), by decide +kernel, by decide +kernel, by decide⟩
theorem mvX1_advance : gMv yX1_advance := ⟨List.mem_of_getElem? (i := 316) (by decide +kernel), List.mem_of_getElem? (i := 0) (by decide +kernel)⟩
theorem mwX1_fail : gMw yX1_fail cX1_fail 3 (none) 2 := ⟨List.mem_of_getElem? (i := 331) (by decide +kernel), List.mem_of_getElem? (i := 58) (by decide +kernel), by decide +kernel, by decide +kernel, by decide⟩
theorem mvX1_fail : gMv yX1_fail := ⟨List.mem_of_getElem? (i := 330) (by decide +kernel), List.mem_of_getElem? (i := 1) (by decide +kernel)⟩
theorem mwX1_isFigure : gMw yX1_isFigure cX1_isFigure 1 (some .boolean) 1 := ⟨List.mem_of_getElem? (i := 327) (by decide +kernel), List.mem_of_getElem? (i := 58) (by decide +kernel), by decide +kernel, by decide +kernel, by decide⟩
theorem msX1_isFigure : gMs yX1_isFigure := List.mem_of_getElem? (i := 326) (by decide +kernel)
theorem mwX1_isLetter : gMw yX1_isLetter cX1_isLetter 1 (some .boolean) 1 := ⟨List.mem_of_getElem? (i := 324) (by decide +kernel), List.mem_of_getElem? (i := 58) (by decide +kernel), by decide +kernel, by decide +kernel, by decide⟩
theorem msX1_isLetter : gMs yX1_isLetter := List.mem_of_getElem? (i := 323) (by decide +kernel)
theorem mwX1_lineOfName : gMw yX1_lineOfName cX1_lineOfName 1 (some .int) 0 := ⟨List.mem_of_getElem? (i := 339) (by decide +kernel), List.mem_of_getElem? (i := 58) (by decide +kernel), by decide +kernel, by decide +kernel, by decide⟩
theorem mvX1_lineOfName : gMv yX1_lineOfName := ⟨List.mem_of_getElem? (i := 338) (by decide +kernel), List.mem_of_getElem? (i := 3) (by decide +kernel)⟩
theorem mwX1_nameIs : gMw yX1_nameIs cX1_nameIs 3 (some .boolean) 1 := ⟨List.mem_of_getElem? (i := 344) (by decide +kernel), List.mem_of_getElem? (i := 58) (by decide +kernel), by decide +kernel, by decide +kernel, by decide⟩
theorem mvX1_nameIs : gMv yX1_nameIs := ⟨List.mem_of_getElem? (i := 343) (by decide +kernel), List.mem_of_getElem? (i := 4) (by decide +kernel)⟩
theorem mwX1_passName : gMw yX1_passName cX1_passName 1 (none) 0 := ⟨List.mem_of_getElem? (i := 406) (by decide +kernel), List.mem_of_getElem? (i := 58) (by decide +kernel), by decide +kernel, by decide +kernel, by decide⟩
theorem mvX1_passName : gMv yX1_passName := ⟨List.mem_of_getElem? (i := 405) (by decide +kernel), List.mem_of_getElem? (i := 6) (by decide +kernel)⟩
theorem mwX1_takeAll : gMw yX1_takeAll cX1_takeAll 4 (some .int) 1 := ⟨List.mem_of_getElem? (i := 309) (by decide +kernel), List.mem_of_getElem? (i := 58) (by decide +kernel), by decide +kernel, by decide +kernel, by decide⟩
theorem mvX1_takeAll : gMv yX1_takeAll := ⟨List.mem_of_getElem? (i := 307) (by decide +kernel), List.mem_of_getElem? (i := 308) (by decide +kernel)⟩
theorem mwX1_takeCalm : gMw yX1_takeCalm cX1_takeCalm 2 (none) 1 := ⟨List.mem_of_getElem? (i := 419) (by decide +kernel), List.mem_of_getElem? (i := 58) (by decide +kernel), by decide +kernel, by decide +kernel, by decide⟩
theorem mvX1_takeCalm : gMv yX1_takeCalm := ⟨List.mem_of_getElem? (i := 418) (by decide +kernel), List.mem_of_getElem? (i := 9) (by decide +kernel)⟩
theorem mwX1_takeFlow : gMw yX1_takeFlow cX1_takeFlow 2 (none) 1 := ⟨List.mem_of_getElem? (i := 402) (by decide +kernel), List.mem_of_getElem? (i := 58) (by decide +kernel), by decide +kernel, by decide +kernel, by decide⟩
theorem mvX1_takeFlow : gMv yX1_takeFlow := ⟨List.mem_of_getElem? (i := 401) (by decide +kernel), List.mem_of_getElem? (i := 5) (by decide +kernel)⟩
theorem mwX1_takeHour : gMw yX1_takeHour cX1_takeHour 4 (none) 1 := ⟨List.mem_of_getElem? (i := 423) (by decide +kernel), List.mem_of_getElem? (i := 58) (by decide +kernel), by decide +kernel, by decide +kernel, by decide⟩
theorem mvX1_takeHour : gMv yX1_takeHour := ⟨List.mem_of_getElem? (i := 422) (by decide +kernel), List.mem_of_getElem? (i := 10) (by decide +kernel)⟩
theorem mwX1_takeLine : gMw yX1_takeLine cX1_takeLine 3 (none) 1 := ⟨List.mem_of_getElem? (i := 335) (by decide +kernel), List.mem_of_getElem? (i := 58) (by decide +kernel), by decide +kernel, by decide +kernel, by decide⟩
theorem mvX1_takeLine : gMv yX1_takeLine := ⟨List.mem_of_getElem? (i := 334) (by decide +kernel), List.mem_of_getElem? (i := 2) (by decide +kernel)⟩
theorem mwX1_takeNumber : gMw yX1_takeNumber cX1_takeNumber 4 (some .int) 2 := ⟨List.mem_of_getElem? (i := 410) (by decide +kernel), List.mem_of_getElem? (i := 58) (by decide +kernel), by decide +kernel, by decide +kernel, by decide⟩
theorem mvX1_takeNumber : gMv yX1_takeNumber := ⟨List.mem_of_getElem? (i := 409) (by decide +kernel), List.mem_of_getElem? (i := 7) (by decide +kernel)⟩
theorem mwX1_takeStop : gMw yX1_takeStop cX1_takeStop 1 (none) 0 := ⟨List.mem_of_getElem? (i := 415) (by decide +kernel), List.mem_of_getElem? (i := 58) (by decide +kernel), by decide +kernel, by decide +kernel, by decide⟩
theorem mvX1_takeStop : gMv yX1_takeStop := ⟨List.mem_of_getElem? (i := 414) (by decide +kernel), List.mem_of_getElem? (i := 8) (by decide +kernel)⟩
theorem mwX1_takeVent : gMw yX1_takeVent cX1_takeVent 5 (none) 2 := ⟨List.mem_of_getElem? (i := 431) (by decide +kernel), List.mem_of_getElem? (i := 58) (by decide +kernel), by decide +kernel, by decide +kernel, by decide⟩
theorem mvX1_takeVent : gMv yX1_takeVent := ⟨List.mem_of_getElem? (i := 430) (by decide +kernel), List.mem_of_getElem? (i := 11) (by decide +kernel)⟩
theorem mwX2_init : gMw yX2_init cX2_init 1 (none) 0 := ⟨List.mem_of_getElem? (i := 211) (by decide +kernel), List.mem_of_getElem? (i := 60) (by decide +kernel), by decide +kernel, by decide +kernel, by decide⟩
theorem miX2_init : gMi yX2_init := ⟨by decide +kernel, List.mem_of_getElem? (i := 210) (by decide +kernel)⟩
theorem mwX2_agrees : gMw yX2_agrees cX2_agrees 4 (some .boolean) 1 := ⟨List.mem_of_getElem? (i := 749) (by decide +kernel), List.mem_of_getElem? (i := 60) (by decide +kernel), by decide +kernel, by decide +kernel, by decide⟩
theorem mvX2_agrees : gMv yX2_agrees := ⟨List.mem_of_getElem? (i := 747) (by decide +kernel), List.mem_of_getElem? (i := 748) (by decide +kernel)⟩
theorem mwX2_take : gMw yX2_take cX2_take 4 (some .boolean) 3 := ⟨List.mem_of_getElem? (i := 733) (by decide +kernel), List.mem_of_getElem? (i := 60) (by decide +kernel), by decide +kernel, by decide +kernel, by decide⟩
theorem mvX2_take : gMv yX2_take := ⟨List.mem_of_getElem? (i := 731) (by decide +kernel), List.mem_of_getElem? (i := 732) (by decide +kernel)⟩
theorem mwX3_init : gMw yX3_init cX3_init 1 (none) 0 := ⟨List.mem_of_getElem? (i := 232) (by decide +kernel), List.mem_of_getElem? (i := 61) (by decide +kernel), by decide +kernel, by decide +kernel, by decide⟩
theorem miX3_init : gMi yX3_init := ⟨by decide +kernel, List.mem_of_getElem? (i := 231) (by decide +kernel)⟩
theorem mwX3_cellAt : gMw yX3_cellAt cX3_cellAt 3 (some .int) 1 := ⟨List.mem_of_getElem? (i := 822) (by decide +kernel), List.mem_of_getElem? (i := 61) (by decide +kernel), by decide +kernel, by decide +kernel, by decide⟩
theorem mvX3_cellAt : gMv yX3_cellAt := ⟨List.mem_of_getElem? (i := 820) (by decide +kernel), List.mem_of_getElem? (i := 821) (by decide +kernel)⟩
theorem mwX3_faultAt : gMw yX3_faultAt cX3_faultAt 4 (some .int) 2 := ⟨List.mem_of_getElem? (i := 804) (by decide +kernel), List.mem_of_getElem? (i := 61) (by decide +kernel), by decide +kernel, by decide +kernel, by decide⟩
theorem mvX3_faultAt : gMv yX3_faultAt := ⟨List.mem_of_getElem? (i := 802) (by decide +kernel), List.mem_of_getElem? (i := 803) (by decide +kernel)⟩
theorem mwX3_faultOfTwo : gMw yX3_faultOfTwo cX3_faultOfTwo 5 (some .int) 2 := ⟨List.mem_of_getElem? (i := 817) (by decide +kernel), List.mem_of_getElem? (i := 61) (by decide +kernel), by decide +kernel, by decide +kernel, by decide⟩
theorem mvX3_faultOfTwo : gMv yX3_faultOfTwo := ⟨List.mem_of_getElem? (i := 815) (by decide +kernel), List.mem_of_getElem? (i := 816) (by decide +kernel)⟩
theorem mwX3_put : gMw yX3_put cX3_put 3 (none) 2 := ⟨List.mem_of_getElem? (i := 808) (by decide +kernel), List.mem_of_getElem? (i := 61) (by decide +kernel), by decide +kernel, by decide +kernel, by decide⟩
theorem mvX3_put : gMv yX3_put := ⟨List.mem_of_getElem? (i := 806) (by decide +kernel), List.mem_of_getElem? (i := 807) (by decide +kernel)⟩
theorem mwX3_renew : gMw yX3_renew cX3_renew 4 (none) 2 := ⟨List.mem_of_getElem? (i := 794) (by decide +kernel), List.mem_of_getElem? (i := 61) (by decide +kernel), by decide +kernel, by decide +kernel, by decide⟩
theorem mvX3_renew : gMv yX3_renew := ⟨List.mem_of_getElem? (i := 792) (by decide +kernel), List.mem_of_getElem? (i := 793) (by decide +kernel)⟩
theorem mwX4_init : gMw yX4_init cX4_init 1 (none) 0 := ⟨List.mem_of_getElem? (i := 164) (by decide +kernel), List.mem_of_getElem? (i := 59) (by decide +kernel), by decide +kernel, by decide +kernel, by decide⟩
theorem miX4_init : gMi yX4_init := ⟨by decide +kernel, List.mem_of_getElem? (i := 163) (by decide +kernel)⟩
theorem mwX4_byteAt : gMw yX4_byteAt cX4_byteAt 2 (some .int) 1 := ⟨List.mem_of_getElem? (i := 321) (by decide +kernel), List.mem_of_getElem? (i := 59) (by decide +kernel), by decide +kernel, by decide +kernel, by decide⟩
theorem mvX4_byteAt : gMv yX4_byteAt := ⟨List.mem_of_getElem? (i := 319) (by decide +kernel), List.mem_of_getElem? (i := 320) (by decide +kernel)⟩
theorem mwX4_take : gMw yX4_take cX4_take 2 (some .boolean) 1 := ⟨List.mem_of_getElem? (i := 297) (by decide +kernel), List.mem_of_getElem? (i := 59) (by decide +kernel), by decide +kernel, by decide +kernel, by decide⟩
theorem mvX4_take : gMv yX4_take := ⟨List.mem_of_getElem? (i := 295) (by decide +kernel), List.mem_of_getElem? (i := 296) (by decide +kernel)⟩
theorem mwX5_init : gMw yX5_init cX5_init 1 (none) 0 := ⟨List.mem_of_getElem? (i := 88) (by decide +kernel), List.mem_of_getElem? (i := 57) (by decide +kernel), by decide +kernel, by decide +kernel, by decide⟩
theorem miX5_init : gMi yX5_init := ⟨by decide +kernel, List.mem_of_getElem? (i := 87) (by decide +kernel)⟩
theorem mwX5_become : gMw yX5_become cX5_become 2 (none) 1 := ⟨List.mem_of_getElem? (i := 447) (by decide +kernel), List.mem_of_getElem? (i := 57) (by decide +kernel), by decide +kernel, by decide +kernel, by decide⟩
theorem mvX5_become : gMv yX5_become := ⟨List.mem_of_getElem? (i := 445) (by decide +kernel), List.mem_of_getElem? (i := 446) (by decide +kernel)⟩
theorem mwX5_begin : gMw yX5_begin cX5_begin 4 (none) 3 := ⟨List.mem_of_getElem? (i := 439) (by decide +kernel), List.mem_of_getElem? (i := 57) (by decide +kernel), by decide +kernel, by decide +kernel, by decide⟩
theorem mvX5_begin : gMv yX5_begin := ⟨List.mem_of_getElem? (i := 437) (by decide +kernel), List.mem_of_getElem? (i := 438) (by decide +kernel)⟩
theorem mwX5_change : gMw yX5_change cX5_change 3 (none) 2 := ⟨List.mem_of_getElem? (i := 516) (by decide +kernel), List.mem_of_getElem? (i := 57) (by decide +kernel), by decide +kernel, by decide +kernel, by decide⟩
theorem mvX5_change : gMv yX5_change := ⟨List.mem_of_getElem? (i := 514) (by decide +kernel), List.mem_of_getElem? (i := 515) (by decide +kernel)⟩
theorem mwX5_fades : gMw yX5_fades cX5_fades 1 (some .int) 0 := ⟨List.mem_of_getElem? (i := 579) (by decide +kernel), List.mem_of_getElem? (i := 57) (by decide +kernel), by decide +kernel, by decide +kernel, by decide⟩
theorem mvX5_fades : gMv yX5_fades := ⟨List.mem_of_getElem? (i := 577) (by decide +kernel), List.mem_of_getElem? (i := 578) (by decide +kernel)⟩
theorem mwX5_minds : gMw yX5_minds cX5_minds 4 (some .int) 1 := ⟨List.mem_of_getElem? (i := 499) (by decide +kernel), List.mem_of_getElem? (i := 57) (by decide +kernel), by decide +kernel, by decide +kernel, by decide⟩
theorem mvX5_minds : gMv yX5_minds := ⟨List.mem_of_getElem? (i := 497) (by decide +kernel), List.mem_of_getElem? (i := 498) (by decide +kernel)⟩
theorem mwX5_part : gMw yX5_part cX5_part 2 (some .int) 1 := ⟨List.mem_of_getElem? (i := 467) (by decide +kernel), List.mem_of_getElem? (i := 57) (by decide +kernel), by decide +kernel, by decide +kernel, by decide⟩
theorem mvX5_part : gMv yX5_part := ⟨List.mem_of_getElem? (i := 465) (by decide +kernel), List.mem_of_getElem? (i := 466) (by decide +kernel)⟩
theorem mwX5_pass : gMw yX5_pass cX5_pass 4 (some .boolean) 3 := ⟨List.mem_of_getElem? (i := 568) (by decide +kernel), List.mem_of_getElem? (i := 57) (by decide +kernel), by decide +kernel, by decide +kernel, by decide⟩
theorem mvX5_pass : gMv yX5_pass := ⟨List.mem_of_getElem? (i := 566) (by decide +kernel), List.mem_of_getElem? (i := 567) (by decide +kernel)⟩
theorem mwX5_takeMood : gMw yX5_takeMood cX5_takeMood 2 (none) 1 := ⟨List.mem_of_getElem? (i := 451) (by decide +kernel), List.mem_of_getElem? (i := 57) (by decide +kernel), by decide +kernel, by decide +kernel, by decide⟩
theorem mvX5_takeMood : gMv yX5_takeMood := ⟨List.mem_of_getElem? (i := 449) (by decide +kernel), List.mem_of_getElem? (i := 450) (by decide +kernel)⟩
theorem mwX7_init : gMw yX7_init cX7_init 1 (none) 0 := ⟨List.mem_of_getElem? (i := 839) (by decide +kernel), List.mem_of_getElem? (i := 62) (by decide +kernel), by decide +kernel, by decide +kernel, by decide⟩
theorem miX7_init : gMi yX7_init := ⟨by decide +kernel, List.mem_of_getElem? (i := 838) (by decide +kernel)⟩
theorem mwX7_add : gMw yX7_add cX7_add 3 (some .int) 2 := ⟨List.mem_of_getElem? (i := 1067) (by decide +kernel), List.mem_of_getElem? (i := 62) (by decide +kernel), by decide +kernel, by decide +kernel, by decide⟩
theorem mvX7_add : gMv yX7_add := ⟨List.mem_of_getElem? (i := 1065) (by decide +kernel), List.mem_of_getElem? (i := 1066) (by decide +kernel)⟩
theorem mwX7_adds : gMw yX7_adds cX7_adds 4 (some .int) 2 := ⟨List.mem_of_getElem? (i := 1071) (by decide +kernel), List.mem_of_getElem? (i := 62) (by decide +kernel), by decide +kernel, by decide +kernel, by decide⟩
theorem mvX7_adds : gMv yX7_adds := ⟨List.mem_of_getElem? (i := 1070) (by decide +kernel), List.mem_of_getElem? (i := 39) (by decide +kernel)⟩
theorem mwX7_again : gMw yX7_again cX7_again 5 (some .int) 0 := ⟨List.mem_of_getElem? (i := 1140) (by decide +kernel), List.mem_of_getElem? (i := 62) (by decide +kernel), by decide +kernel, by decide +kernel, by decide⟩
theorem mvX7_again : gMv yX7_again := ⟨List.mem_of_getElem? (i := 1138) (by decide +kernel), List.mem_of_getElem? (i := 1139) (by decide +kernel)⟩
theorem mwX7_ahead : gMw yX7_ahead cX7_ahead 4 (some .int) 3 := ⟨List.mem_of_getElem? (i := 1123) (by decide +kernel), List.mem_of_getElem? (i := 62) (by decide +kernel), by decide +kernel, by decide +kernel, by decide⟩
theorem mvX7_ahead : gMv yX7_ahead := ⟨List.mem_of_getElem? (i := 1121) (by decide +kernel), List.mem_of_getElem? (i := 1122) (by decide +kernel)⟩
theorem mwX7_alter : gMw yX7_alter cX7_alter 4 (some .int) 3 := ⟨List.mem_of_getElem? (i := 1033) (by decide +kernel), List.mem_of_getElem? (i := 62) (by decide +kernel), by decide +kernel, by decide +kernel, by decide⟩
theorem mvX7_alter : gMv yX7_alter := ⟨List.mem_of_getElem? (i := 1031) (by decide +kernel), List.mem_of_getElem? (i := 1032) (by decide +kernel)⟩
theorem mwX7_ask : gMw yX7_ask cX7_ask 10 (some .int) 2 := ⟨List.mem_of_getElem? (i := 1227) (by decide +kernel), List.mem_of_getElem? (i := 62) (by decide +kernel), by decide +kernel, by decide +kernel, by decide⟩
theorem mvX7_ask : gMv yX7_ask := ⟨List.mem_of_getElem? (i := 1225) (by decide +kernel), List.mem_of_getElem? (i := 1226) (by decide +kernel)⟩
theorem mwX7_back : gMw yX7_back cX7_back 2 (some .int) 1 := ⟨List.mem_of_getElem? (i := 1240) (by decide +kernel), List.mem_of_getElem? (i := 62) (by decide +kernel), by decide +kernel, by decide +kernel, by decide⟩
theorem mvX7_back : gMv yX7_back := ⟨List.mem_of_getElem? (i := 1238) (by decide +kernel), List.mem_of_getElem? (i := 1239) (by decide +kernel)⟩
theorem mwX7_bears : gMw yX7_bears cX7_bears 6 (some .int) 2 := ⟨List.mem_of_getElem? (i := 1160) (by decide +kernel), List.mem_of_getElem? (i := 62) (by decide +kernel), by decide +kernel, by decide +kernel, by decide⟩
theorem mvX7_bears : gMv yX7_bears := ⟨List.mem_of_getElem? (i := 1158) (by decide +kernel), List.mem_of_getElem? (i := 1159) (by decide +kernel)⟩
theorem mwX7_bitsOf : gMw yX7_bitsOf cX7_bitsOf 3 (some .int) 1 := ⟨List.mem_of_getElem? (i := 1099) (by decide +kernel), List.mem_of_getElem? (i := 62) (by decide +kernel), by decide +kernel, by decide +kernel, by decide⟩
theorem msX7_bitsOf : gMs yX7_bitsOf := List.mem_of_getElem? (i := 1098) (by decide +kernel)
theorem mwX7_byNobody : gMw yX7_byNobody cX7_byNobody 15 (some .long) 4 := ⟨List.mem_of_getElem? (i := 1191) (by decide +kernel), List.mem_of_getElem? (i := 62) (by decide +kernel), by decide +kernel, by decide +kernel, by decide⟩
theorem mvX7_byNobody : gMv yX7_byNobody := ⟨List.mem_of_getElem? (i := 1190) (by decide +kernel), List.mem_of_getElem? (i := 51) (by decide +kernel)⟩
theorem mwX7_byteAt : gMw yX7_byteAt cX7_byteAt 2 (some .int) 1 := ⟨List.mem_of_getElem? (i := 955) (by decide +kernel), List.mem_of_getElem? (i := 62) (by decide +kernel), by decide +kernel, by decide +kernel, by decide⟩
theorem mvX7_byteAt : gMv yX7_byteAt := ⟨List.mem_of_getElem? (i := 954) (by decide +kernel), List.mem_of_getElem? (i := 24) (by decide +kernel)⟩
theorem mwX7_copies : gMw yX7_copies cX7_copies 4 (none) 2 := ⟨List.mem_of_getElem? (i := 1115) (by decide +kernel), List.mem_of_getElem? (i := 62) (by decide +kernel), by decide +kernel, by decide +kernel, by decide⟩
theorem mvX7_copies : gMv yX7_copies := ⟨List.mem_of_getElem? (i := 1114) (by decide +kernel), List.mem_of_getElem? (i := 45) (by decide +kernel)⟩
theorem mwX7_count : gMw yX7_count cX7_count 4 (some .int) 1 := ⟨List.mem_of_getElem? (i := 1260) (by decide +kernel), List.mem_of_getElem? (i := 62) (by decide +kernel), by decide +kernel, by decide +kernel, by decide⟩
theorem mvX7_count : gMv yX7_count := ⟨List.mem_of_getElem? (i := 1258) (by decide +kernel), List.mem_of_getElem? (i := 1259) (by decide +kernel)⟩
theorem mwX7_cut : gMw yX7_cut cX7_cut 2 (some .int) 1 := ⟨List.mem_of_getElem? (i := 1063) (by decide +kernel), List.mem_of_getElem? (i := 62) (by decide +kernel), by decide +kernel, by decide +kernel, by decide⟩
theorem mvX7_cut : gMv yX7_cut := ⟨List.mem_of_getElem? (i := 1061) (by decide +kernel), List.mem_of_getElem? (i := 1062) (by decide +kernel)⟩
theorem mwX7_drop : gMw yX7_drop cX7_drop 2 (some .int) 1 := ⟨List.mem_of_getElem? (i := 1075) (by decide +kernel), List.mem_of_getElem? (i := 62) (by decide +kernel), by decide +kernel, by decide +kernel, by decide⟩
theorem mvX7_drop : gMv yX7_drop := ⟨List.mem_of_getElem? (i := 1073) (by decide +kernel), List.mem_of_getElem? (i := 1074) (by decide +kernel)⟩
theorem mwX7_end : gMw yX7_end cX7_end 3 (some .int) 1 := ⟨List.mem_of_getElem? (i := 943) (by decide +kernel), List.mem_of_getElem? (i := 62) (by decide +kernel), by decide +kernel, by decide +kernel, by decide⟩
theorem mvX7_end : gMv yX7_end := ⟨List.mem_of_getElem? (i := 941) (by decide +kernel), List.mem_of_getElem? (i := 942) (by decide +kernel)⟩
theorem mwX7_fadesOn : gMw yX7_fadesOn cX7_fadesOn 4 (some .int) 2 := ⟨List.mem_of_getElem? (i := 1096) (by decide +kernel), List.mem_of_getElem? (i := 62) (by decide +kernel), by decide +kernel, by decide +kernel, by decide⟩
theorem mvX7_fadesOn : gMv yX7_fadesOn := ⟨List.mem_of_getElem? (i := 1095) (by decide +kernel), List.mem_of_getElem? (i := 43) (by decide +kernel)⟩
theorem mwX7_fails : gMw yX7_fails cX7_fails 2 (none) 1 := ⟨List.mem_of_getElem? (i := 963) (by decide +kernel), List.mem_of_getElem? (i := 62) (by decide +kernel), by decide +kernel, by decide +kernel, by decide⟩
theorem mvX7_fails : gMv yX7_fails := ⟨List.mem_of_getElem? (i := 962) (by decide +kernel), List.mem_of_getElem? (i := 25) (by decide +kernel)⟩
theorem mwX7_fault : gMw yX7_fault cX7_fault 1 (some .int) 0 := ⟨List.mem_of_getElem? (i := 984) (by decide +kernel), List.mem_of_getElem? (i := 62) (by decide +kernel), by decide +kernel, by decide +kernel, by decide⟩
theorem mvX7_fault : gMv yX7_fault := ⟨List.mem_of_getElem? (i := 982) (by decide +kernel), List.mem_of_getElem? (i := 983) (by decide +kernel)⟩
theorem mwX7_feed : gMw yX7_feed cX7_feed 2 (some .int) 1 := ⟨List.mem_of_getElem? (i := 935) (by decide +kernel), List.mem_of_getElem? (i := 62) (by decide +kernel), by decide +kernel, by decide +kernel, by decide⟩
theorem mvX7_feed : gMv yX7_feed := ⟨List.mem_of_getElem? (i := 933) (by decide +kernel), List.mem_of_getElem? (i := 934) (by decide +kernel)⟩
theorem mwX7_feels : gMw yX7_feels cX7_feels 3 (none) 1 := ⟨List.mem_of_getElem? (i := 1119) (by decide +kernel), List.mem_of_getElem? (i := 62) (by decide +kernel), by decide +kernel, by decide +kernel, by decide⟩
theorem mvX7_feels : gMv yX7_feels := ⟨List.mem_of_getElem? (i := 1118) (by decide +kernel), List.mem_of_getElem? (i := 46) (by decide +kernel)⟩
theorem mwX7_figuresOf : gMw yX7_figuresOf cX7_figuresOf 6 (none) 3 := ⟨List.mem_of_getElem? (i := 1177) (by decide +kernel), List.mem_of_getElem? (i := 62) (by decide +kernel), by decide +kernel, by decide +kernel, by decide⟩
theorem mvX7_figuresOf : gMv yX7_figuresOf := ⟨List.mem_of_getElem? (i := 1176) (by decide +kernel), List.mem_of_getElem? (i := 49) (by decide +kernel)⟩
theorem mwX7_flow : gMw yX7_flow cX7_flow 5 (some .int) 3 := ⟨List.mem_of_getElem? (i := 1164) (by decide +kernel), List.mem_of_getElem? (i := 62) (by decide +kernel), by decide +kernel, by decide +kernel, by decide⟩
theorem mvX7_flow : gMv yX7_flow := ⟨List.mem_of_getElem? (i := 1162) (by decide +kernel), List.mem_of_getElem? (i := 1163) (by decide +kernel)⟩
theorem mwX7_forget : gMw yX7_forget cX7_forget 3 (some .int) 1 := ⟨List.mem_of_getElem? (i := 1207) (by decide +kernel), List.mem_of_getElem? (i := 62) (by decide +kernel), by decide +kernel, by decide +kernel, by decide⟩
theorem mvX7_forget : gMv yX7_forget := ⟨List.mem_of_getElem? (i := 1205) (by decide +kernel), List.mem_of_getElem? (i := 1206) (by decide +kernel)⟩
theorem mwX7_geyser : gMw yX7_geyser cX7_geyser 3 (some .int) 2 := ⟨List.mem_of_getElem? (i := 1008) (by decide +kernel), List.mem_of_getElem? (i := 62) (by decide +kernel), by decide +kernel, by decide +kernel, by decide⟩
theorem mvX7_geyser : gMv yX7_geyser := ⟨List.mem_of_getElem? (i := 1006) (by decide +kernel), List.mem_of_getElem? (i := 1007) (by decide +kernel)⟩
theorem mwX7_goesBack : gMw yX7_goesBack cX7_goesBack 6 (none) 3 := ⟨List.mem_of_getElem? (i := 1181) (by decide +kernel), List.mem_of_getElem? (i := 62) (by decide +kernel), by decide +kernel, by decide +kernel, by decide⟩
theorem mvX7_goesBack : gMv yX7_goesBack := ⟨List.mem_of_getElem? (i := 1180) (by decide +kernel), List.mem_of_getElem? (i := 50) (by decide +kernel)⟩
theorem mwX7_goesUp : gMw yX7_goesUp cX7_goesUp 8 (some .boolean) 4 := ⟨List.mem_of_getElem? (i := 1092) (by decide +kernel), List.mem_of_getElem? (i := 62) (by decide +kernel), by decide +kernel, by decide +kernel, by decide⟩
theorem mvX7_goesUp : gMv yX7_goesUp := ⟨List.mem_of_getElem? (i := 1091) (by decide +kernel), List.mem_of_getElem? (i := 42) (by decide +kernel)⟩
theorem mwX7_hourOn : gMw yX7_hourOn cX7_hourOn 6 (some .int) 3 := ⟨List.mem_of_getElem? (i := 1088) (by decide +kernel), List.mem_of_getElem? (i := 62) (by decide +kernel), by decide +kernel, by decide +kernel, by decide⟩
theorem mvX7_hourOn : gMv yX7_hourOn := ⟨List.mem_of_getElem? (i := 1087) (by decide +kernel), List.mem_of_getElem? (i := 41) (by decide +kernel)⟩
theorem mwX7_hours : gMw yX7_hours cX7_hours 4 (some .int) 1 := ⟨List.mem_of_getElem? (i := 1079) (by decide +kernel), List.mem_of_getElem? (i := 62) (by decide +kernel), by decide +kernel, by decide +kernel, by decide⟩
theorem mvX7_hours : gMv yX7_hours := ⟨List.mem_of_getElem? (i := 1077) (by decide +kernel), List.mem_of_getElem? (i := 1078) (by decide +kernel)⟩
theorem mwX7_hoursGo : gMw yX7_hoursGo cX7_hoursGo 7 (some .int) 2 := ⟨List.mem_of_getElem? (i := 1111) (by decide +kernel), List.mem_of_getElem? (i := 62) (by decide +kernel), by decide +kernel, by decide +kernel, by decide⟩
theorem mvX7_hoursGo : gMv yX7_hoursGo := ⟨List.mem_of_getElem? (i := 1110) (by decide +kernel), List.mem_of_getElem? (i := 44) (by decide +kernel)⟩
theorem mwX7_in : gMw yX7_in cX7_in 6 (some .boolean) 3 := ⟨List.mem_of_getElem? (i := 939) (by decide +kernel), List.mem_of_getElem? (i := 62) (by decide +kernel), by decide +kernel, by decide +kernel, by decide⟩
theorem msX7_in : gMs yX7_in := List.mem_of_getElem? (i := 938) (by decide +kernel)
theorem mwX7_isAsSeen : gMw yX7_isAsSeen cX7_isAsSeen 6 (some .boolean) 1 := ⟨List.mem_of_getElem? (i := 1219) (by decide +kernel), List.mem_of_getElem? (i := 62) (by decide +kernel), by decide +kernel, by decide +kernel, by decide⟩
theorem mvX7_isAsSeen : gMv yX7_isAsSeen := ⟨List.mem_of_getElem? (i := 1218) (by decide +kernel), List.mem_of_getElem? (i := 53) (by decide +kernel)⟩
theorem mwX7_isGeyser : gMw yX7_isGeyser cX7_isGeyser 2 (some .boolean) 1 := ⟨List.mem_of_getElem? (i := 1012) (by decide +kernel), List.mem_of_getElem? (i := 62) (by decide +kernel), by decide +kernel, by decide +kernel, by decide⟩
theorem mvX7_isGeyser : gMv yX7_isGeyser := ⟨List.mem_of_getElem? (i := 1011) (by decide +kernel), List.mem_of_getElem? (i := 34) (by decide +kernel)⟩
theorem mwX7_isGood : gMw yX7_isGood cX7_isGood 2 (some .boolean) 2 := ⟨List.mem_of_getElem? (i := 1036) (by decide +kernel), List.mem_of_getElem? (i := 62) (by decide +kernel), by decide +kernel, by decide +kernel, by decide⟩
theorem msX7_isGood : gMs yX7_isGood := List.mem_of_getElem? (i := 1035) (by decide +kernel)
theorem mwX7_isLong : gMw yX7_isLong cX7_isLong 1 (some .boolean) 1 := ⟨List.mem_of_getElem? (i := 1106) (by decide +kernel), List.mem_of_getElem? (i := 62) (by decide +kernel), by decide +kernel, by decide +kernel, by decide⟩
theorem msX7_isLong : gMs yX7_isLong := List.mem_of_getElem? (i := 1105) (by decide +kernel)
theorem mwX7_isRow : gMw yX7_isRow cX7_isRow 2 (some .boolean) 1 := ⟨List.mem_of_getElem? (i := 1029) (by decide +kernel), List.mem_of_getElem? (i := 62) (by decide +kernel), by decide +kernel, by decide +kernel, by decide⟩
theorem mvX7_isRow : gMv yX7_isRow := ⟨List.mem_of_getElem? (i := 1028) (by decide +kernel), List.mem_of_getElem? (i := 37) (by decide +kernel)⟩
theorem mwX7_keep : gMw yX7_keep cX7_keep 3 (some .int) 1 := ⟨List.mem_of_getElem? (i := 1236) (by decide +kernel), List.mem_of_getElem? (i := 62) (by decide +kernel), by decide +kernel, by decide +kernel, by decide⟩
theorem mvX7_keep : gMv yX7_keep := ⟨List.mem_of_getElem? (i := 1234) (by decide +kernel), List.mem_of_getElem? (i := 1235) (by decide +kernel)⟩
theorem mwX7_kind : gMw yX7_kind cX7_kind 7 (some .int) 3 := ⟨List.mem_of_getElem? (i := 1168) (by decide +kernel), List.mem_of_getElem? (i := 62) (by decide +kernel), by decide +kernel, by decide +kernel, by decide⟩
theorem mvX7_kind : gMv yX7_kind := ⟨List.mem_of_getElem? (i := 1166) (by decide +kernel), List.mem_of_getElem? (i := 1167) (by decide +kernel)⟩
theorem mwX7_kinds : gMw yX7_kinds cX7_kinds 2 (some .int) 1 := ⟨List.mem_of_getElem? (i := 1211) (by decide +kernel), List.mem_of_getElem? (i := 62) (by decide +kernel), by decide +kernel, by decide +kernel, by decide⟩
theorem mvX7_kinds : gMv yX7_kinds := ⟨List.mem_of_getElem? (i := 1209) (by decide +kernel), List.mem_of_getElem? (i := 1210) (by decide +kernel)⟩
theorem mwX7_lay : gMw yX7_lay cX7_lay 4 (some .int) 3 := ⟨List.mem_of_getElem? (i := 1248) (by decide +kernel), List.mem_of_getElem? (i := 62) (by decide +kernel), by decide +kernel, by decide +kernel, by decide⟩
theorem mvX7_lay : gMv yX7_lay := ⟨List.mem_of_getElem? (i := 1246) (by decide +kernel), List.mem_of_getElem? (i := 1247) (by decide +kernel)⟩
theorem mwX7_lowest : gMw yX7_lowest cX7_lowest 11 (some .long) 3 := ⟨List.mem_of_getElem? (i := 1194) (by decide +kernel), List.mem_of_getElem? (i := 62) (by decide +kernel), by decide +kernel, by decide +kernel, by decide⟩
theorem msX7_lowest : gMs yX7_lowest := List.mem_of_getElem? (i := 1193) (by decide +kernel)
theorem mwX7_luck : gMw yX7_luck cX7_luck 5 (some .long) 4 := ⟨List.mem_of_getElem? (i := 1185) (by decide +kernel), List.mem_of_getElem? (i := 62) (by decide +kernel), by decide +kernel, by decide +kernel, by decide⟩
theorem mvX7_luck : gMv yX7_luck := ⟨List.mem_of_getElem? (i := 1183) (by decide +kernel), List.mem_of_getElem? (i := 1184) (by decide +kernel)⟩
theorem mwX7_mean : gMw yX7_mean cX7_mean 4 (some .long) 3 := ⟨List.mem_of_getElem? (i := 1199) (by decide +kernel), List.mem_of_getElem? (i := 62) (by decide +kernel), by decide +kernel, by decide +kernel, by decide⟩
theorem mvX7_mean : gMv yX7_mean := ⟨List.mem_of_getElem? (i := 1197) (by decide +kernel), List.mem_of_getElem? (i := 1198) (by decide +kernel)⟩
theorem mwX7_mindsOn : gMw yX7_mindsOn cX7_mindsOn 6 (some .int) 3 := ⟨List.mem_of_getElem? (i := 1021) (by decide +kernel), List.mem_of_getElem? (i := 62) (by decide +kernel), by decide +kernel, by decide +kernel, by decide⟩
theorem mvX7_mindsOn : gMv yX7_mindsOn := ⟨List.mem_of_getElem? (i := 1020) (by decide +kernel), List.mem_of_getElem? (i := 36) (by decide +kernel)⟩
theorem mwX7_nameHere : gMw yX7_nameHere cX7_nameHere 4 (some .int) 0 := ⟨List.mem_of_getElem? (i := 971) (by decide +kernel), List.mem_of_getElem? (i := 62) (by decide +kernel), by decide +kernel, by decide +kernel, by decide⟩
theorem mvX7_nameHere : gMv yX7_nameHere := ⟨List.mem_of_getElem? (i := 970) (by decide +kernel), List.mem_of_getElem? (i := 27) (by decide +kernel)⟩
theorem mwX7_nerves : gMw yX7_nerves cX7_nerves 2 (some .int) 1 := ⟨List.mem_of_getElem? (i := 1223) (by decide +kernel), List.mem_of_getElem? (i := 62) (by decide +kernel), by decide +kernel, by decide +kernel, by decide⟩
theorem mvX7_nerves : gMv yX7_nerves := ⟨List.mem_of_getElem? (i := 1221) (by decide +kernel), List.mem_of_getElem? (i := 1222) (by decide +kernel)⟩
theorem mwX7_number : gMw yX7_number cX7_number 4 (some .int) 2 := ⟨List.mem_of_getElem? (i := 980) (by decide +kernel), List.mem_of_getElem? (i := 62) (by decide +kernel), by decide +kernel, by decide +kernel, by decide⟩
theorem mvX7_number : gMv yX7_number := ⟨List.mem_of_getElem? (i := 979) (by decide +kernel), List.mem_of_getElem? (i := 29) (by decide +kernel)⟩
theorem mwX7_numbersAt : gMw yX7_numbersAt cX7_numbersAt 6 (some .int) 2 := ⟨List.mem_of_getElem? (i := 1215) (by decide +kernel), List.mem_of_getElem? (i := 62) (by decide +kernel), by decide +kernel, by decide +kernel, by decide⟩
theorem mvX7_numbersAt : gMv yX7_numbersAt := ⟨List.mem_of_getElem? (i := 1214) (by decide +kernel), List.mem_of_getElem? (i := 52) (by decide +kernel)⟩
theorem mwX7_open : gMw yX7_open cX7_open 5 (some .int) 3 := ⟨List.mem_of_getElem? (i := 1059) (by decide +kernel), List.mem_of_getElem? (i := 62) (by decide +kernel), by decide +kernel, by decide +kernel, by decide⟩
theorem mvX7_open : gMv yX7_open := ⟨List.mem_of_getElem? (i := 1057) (by decide +kernel), List.mem_of_getElem? (i := 1058) (by decide +kernel)⟩
theorem mwX7_planOn : gMw yX7_planOn cX7_planOn 2 (some .int) 1 := ⟨List.mem_of_getElem? (i := 1084) (by decide +kernel), List.mem_of_getElem? (i := 62) (by decide +kernel), by decide +kernel, by decide +kernel, by decide⟩
theorem mvX7_planOn : gMv yX7_planOn := ⟨List.mem_of_getElem? (i := 1083) (by decide +kernel), List.mem_of_getElem? (i := 40) (by decide +kernel)⟩
theorem mwX7_play : gMw yX7_play cX7_play 8 (some .int) 2 := ⟨List.mem_of_getElem? (i := 1172) (by decide +kernel), List.mem_of_getElem? (i := 62) (by decide +kernel), by decide +kernel, by decide +kernel, by decide⟩
theorem mvX7_play : gMv yX7_play := ⟨List.mem_of_getElem? (i := 1170) (by decide +kernel), List.mem_of_getElem? (i := 1171) (by decide +kernel)⟩
theorem mwX7_puts : gMw yX7_puts cX7_puts 6 (some .int) 4 := ⟨List.mem_of_getElem? (i := 1045) (by decide +kernel), List.mem_of_getElem? (i := 62) (by decide +kernel), by decide +kernel, by decide +kernel, by decide⟩
theorem mvX7_puts : gMv yX7_puts := ⟨List.mem_of_getElem? (i := 1044) (by decide +kernel), List.mem_of_getElem? (i := 38) (by decide +kernel)⟩
theorem mwX7_read : gMw yX7_read cX7_read 9 (some .int) 4 := ⟨List.mem_of_getElem? (i := 1252) (by decide +kernel), List.mem_of_getElem? (i := 62) (by decide +kernel), by decide +kernel, by decide +kernel, by decide⟩
theorem mvX7_read : gMv yX7_read := ⟨List.mem_of_getElem? (i := 1250) (by decide +kernel), List.mem_of_getElem? (i := 1251) (by decide +kernel)⟩
theorem mwX7_readLine : gMw yX7_readLine cX7_readLine 2 (none) 0 := ⟨List.mem_of_getElem? (i := 967) (by decide +kernel), List.mem_of_getElem? (i := 62) (by decide +kernel), by decide +kernel, by decide +kernel, by decide⟩
theorem mvX7_readLine : gMv yX7_readLine := ⟨List.mem_of_getElem? (i := 966) (by decide +kernel), List.mem_of_getElem? (i := 26) (by decide +kernel)⟩
theorem mwX7_readMore : gMw yX7_readMore cX7_readMore 3 (none) 1 := ⟨List.mem_of_getElem? (i := 976) (by decide +kernel), List.mem_of_getElem? (i := 62) (by decide +kernel), by decide +kernel, by decide +kernel, by decide⟩
theorem mvX7_readMore : gMv yX7_readMore := ⟨List.mem_of_getElem? (i := 975) (by decide +kernel), List.mem_of_getElem? (i := 28) (by decide +kernel)⟩
theorem mwX7_readsOn : gMw yX7_readsOn cX7_readsOn 2 (none) 0 := ⟨List.mem_of_getElem? (i := 951) (by decide +kernel), List.mem_of_getElem? (i := 62) (by decide +kernel), by decide +kernel, by decide +kernel, by decide⟩
theorem mvX7_readsOn : gMv yX7_readsOn := ⟨List.mem_of_getElem? (i := 950) (by decide +kernel), List.mem_of_getElem? (i := 23) (by decide +kernel)⟩
theorem mwX7_route : gMw yX7_route cX7_route 11 (some .int) 2 := ⟨List.mem_of_getElem? (i := 1152) (by decide +kernel), List.mem_of_getElem? (i := 62) (by decide +kernel), by decide +kernel, by decide +kernel, by decide⟩
theorem mvX7_route : gMv yX7_route := ⟨List.mem_of_getElem? (i := 1150) (by decide +kernel), List.mem_of_getElem? (i := 1151) (by decide +kernel)⟩
theorem mwX7_row : gMw yX7_row cX7_row 3 (some .int) 2 := ⟨List.mem_of_getElem? (i := 1025) (by decide +kernel), List.mem_of_getElem? (i := 62) (by decide +kernel), by decide +kernel, by decide +kernel, by decide⟩
theorem mvX7_row : gMv yX7_row := ⟨List.mem_of_getElem? (i := 1023) (by decide +kernel), List.mem_of_getElem? (i := 1024) (by decide +kernel)⟩
theorem mwX7_rowOn : gMw yX7_rowOn cX7_rowOn 2 (some .int) 1 := ⟨List.mem_of_getElem? (i := 1000) (by decide +kernel), List.mem_of_getElem? (i := 62) (by decide +kernel), by decide +kernel, by decide +kernel, by decide⟩
theorem mvX7_rowOn : gMv yX7_rowOn := ⟨List.mem_of_getElem? (i := 999) (by decide +kernel), List.mem_of_getElem? (i := 32) (by decide +kernel)⟩
theorem mwX7_rule : gMw yX7_rule cX7_rule 2 (some .int) 1 := ⟨List.mem_of_getElem? (i := 988) (by decide +kernel), List.mem_of_getElem? (i := 62) (by decide +kernel), by decide +kernel, by decide +kernel, by decide⟩
theorem mvX7_rule : gMv yX7_rule := ⟨List.mem_of_getElem? (i := 986) (by decide +kernel), List.mem_of_getElem? (i := 987) (by decide +kernel)⟩
theorem mwX7_runs : gMw yX7_runs cX7_runs 4 (some .int) 2 := ⟨List.mem_of_getElem? (i := 1103) (by decide +kernel), List.mem_of_getElem? (i := 62) (by decide +kernel), by decide +kernel, by decide +kernel, by decide⟩
theorem mvX7_runs : gMv yX7_runs := ⟨List.mem_of_getElem? (i := 1101) (by decide +kernel), List.mem_of_getElem? (i := 1102) (by decide +kernel)⟩
theorem mwX7_season : gMw yX7_season cX7_season 7 (some .int) 3 := ⟨List.mem_of_getElem? (i := 1231) (by decide +kernel), List.mem_of_getElem? (i := 62) (by decide +kernel), by decide +kernel, by decide +kernel, by decide⟩
theorem mvX7_season : gMv yX7_season := ⟨List.mem_of_getElem? (i := 1229) (by decide +kernel), List.mem_of_getElem? (i := 1230) (by decide +kernel)⟩
theorem mwX7_see : gMw yX7_see cX7_see 4 (some .int) 3 := ⟨List.mem_of_getElem? (i := 1203) (by decide +kernel), List.mem_of_getElem? (i := 62) (by decide +kernel), by decide +kernel, by decide +kernel, by decide⟩
theorem mvX7_see : gMv yX7_see := ⟨List.mem_of_getElem? (i := 1201) (by decide +kernel), List.mem_of_getElem? (i := 1202) (by decide +kernel)⟩
theorem mwX7_set : gMw yX7_set cX7_set 5 (some .int) 3 := ⟨List.mem_of_getElem? (i := 1054) (by decide +kernel), List.mem_of_getElem? (i := 62) (by decide +kernel), by decide +kernel, by decide +kernel, by decide⟩
theorem mvX7_set : gMv yX7_set := ⟨List.mem_of_getElem? (i := 1052) (by decide +kernel), List.mem_of_getElem? (i := 1053) (by decide +kernel)⟩
theorem mwX7_shareOn : gMw yX7_shareOn cX7_shareOn 5 (some .int) 2 := ⟨List.mem_of_getElem? (i := 1017) (by decide +kernel), List.mem_of_getElem? (i := 62) (by decide +kernel), by decide +kernel, by decide +kernel, by decide⟩
theorem mvX7_shareOn : gMv yX7_shareOn := ⟨List.mem_of_getElem? (i := 1016) (by decide +kernel), List.mem_of_getElem? (i := 35) (by decide +kernel)⟩
theorem mwX7_sheet : gMw yX7_sheet cX7_sheet 5 (some .int) 3 := ⟨List.mem_of_getElem? (i := 1244) (by decide +kernel), List.mem_of_getElem? (i := 62) (by decide +kernel), by decide +kernel, by decide +kernel, by decide⟩
theorem mvX7_sheet : gMv yX7_sheet := ⟨List.mem_of_getElem? (i := 1242) (by decide +kernel), List.mem_of_getElem? (i := 1243) (by decide +kernel)⟩
theorem mwX7_sumOn : gMw yX7_sumOn cX7_sumOn 5 (some .int) 2 := ⟨List.mem_of_getElem? (i := 992) (by decide +kernel), List.mem_of_getElem? (i := 62) (by decide +kernel), by decide +kernel, by decide +kernel, by decide⟩
theorem mvX7_sumOn : gMv yX7_sumOn := ⟨List.mem_of_getElem? (i := 991) (by decide +kernel), List.mem_of_getElem? (i := 30) (by decide +kernel)⟩
theorem mwX7_swap : gMw yX7_swap cX7_swap 7 (some .int) 2 := ⟨List.mem_of_getElem? (i := 1156) (by decide +kernel), List.mem_of_getElem? (i := 62) (by decide +kernel), by decide +kernel, by decide +kernel, by decide⟩
theorem mvX7_swap : gMv yX7_swap := ⟨List.mem_of_getElem? (i := 1154) (by decide +kernel), List.mem_of_getElem? (i := 1155) (by decide +kernel)⟩
theorem mwX7_tell : gMw yX7_tell cX7_tell 3 (some .int) 2 := ⟨List.mem_of_getElem? (i := 1049) (by decide +kernel), List.mem_of_getElem? (i := 62) (by decide +kernel), by decide +kernel, by decide +kernel, by decide⟩
theorem mvX7_tell : gMv yX7_tell := ⟨List.mem_of_getElem? (i := 1047) (by decide +kernel), List.mem_of_getElem? (i := 1048) (by decide +kernel)⟩
theorem mwX7_text : gMw yX7_text cX7_text 3 (some .int) 0 := ⟨List.mem_of_getElem? (i := 947) (by decide +kernel), List.mem_of_getElem? (i := 62) (by decide +kernel), by decide +kernel, by decide +kernel, by decide⟩
theorem mvX7_text : gMv yX7_text := ⟨List.mem_of_getElem? (i := 945) (by decide +kernel), List.mem_of_getElem? (i := 946) (by decide +kernel)⟩
theorem mwX7_torn : gMw yX7_torn cX7_torn 1 (some .int) 0 := ⟨List.mem_of_getElem? (i := 1256) (by decide +kernel), List.mem_of_getElem? (i := 62) (by decide +kernel), by decide +kernel, by decide +kernel, by decide⟩
theorem mvX7_torn : gMv yX7_torn := ⟨List.mem_of_getElem? (i := 1254) (by decide +kernel), List.mem_of_getElem? (i := 1255) (by decide +kernel)⟩
theorem mwX7_ups : gMw yX7_ups cX7_ups 2 (some .int) 1 := ⟨List.mem_of_getElem? (i := 1132) (by decide +kernel), List.mem_of_getElem? (i := 62) (by decide +kernel), by decide +kernel, by decide +kernel, by decide⟩
theorem mvX7_ups : gMv yX7_ups := ⟨List.mem_of_getElem? (i := 1130) (by decide +kernel), List.mem_of_getElem? (i := 1131) (by decide +kernel)⟩
theorem mwX7_watchersOn : gMw yX7_watchersOn cX7_watchersOn 3 (some .int) 1 := ⟨List.mem_of_getElem? (i := 996) (by decide +kernel), List.mem_of_getElem? (i := 62) (by decide +kernel), by decide +kernel, by decide +kernel, by decide⟩
theorem mvX7_watchersOn : gMv yX7_watchersOn := ⟨List.mem_of_getElem? (i := 995) (by decide +kernel), List.mem_of_getElem? (i := 31) (by decide +kernel)⟩
theorem mwX7_wentThen : gMw yX7_wentThen cX7_wentThen 2 (some .int) 1 := ⟨List.mem_of_getElem? (i := 1128) (by decide +kernel), List.mem_of_getElem? (i := 62) (by decide +kernel), by decide +kernel, by decide +kernel, by decide⟩
theorem mvX7_wentThen : gMv yX7_wentThen := ⟨List.mem_of_getElem? (i := 1127) (by decide +kernel), List.mem_of_getElem? (i := 47) (by decide +kernel)⟩
theorem mwX7_when : gMw yX7_when cX7_when 3 (some .int) 1 := ⟨List.mem_of_getElem? (i := 1136) (by decide +kernel), List.mem_of_getElem? (i := 62) (by decide +kernel), by decide +kernel, by decide +kernel, by decide⟩
theorem mvX7_when : gMv yX7_when := ⟨List.mem_of_getElem? (i := 1134) (by decide +kernel), List.mem_of_getElem? (i := 1135) (by decide +kernel)⟩
theorem mwX7_whom : gMw yX7_whom cX7_whom 8 (some .int) 3 := ⟨List.mem_of_getElem? (i := 1144) (by decide +kernel), List.mem_of_getElem? (i := 62) (by decide +kernel), by decide +kernel, by decide +kernel, by decide⟩
theorem mvX7_whom : gMv yX7_whom := ⟨List.mem_of_getElem? (i := 1142) (by decide +kernel), List.mem_of_getElem? (i := 1143) (by decide +kernel)⟩
theorem mwX7_whomBy : gMw yX7_whomBy cX7_whomBy 2 (some .int) 1 := ⟨List.mem_of_getElem? (i := 1148) (by decide +kernel), List.mem_of_getElem? (i := 62) (by decide +kernel), by decide +kernel, by decide +kernel, by decide⟩
theorem mvX7_whomBy : gMv yX7_whomBy := ⟨List.mem_of_getElem? (i := 1147) (by decide +kernel), List.mem_of_getElem? (i := 48) (by decide +kernel)⟩
theorem mwX7_whomOn : gMw yX7_whomOn cX7_whomOn 3 (some .int) 1 := ⟨List.mem_of_getElem? (i := 1004) (by decide +kernel), List.mem_of_getElem? (i := 62) (by decide +kernel), by decide +kernel, by decide +kernel, by decide⟩
theorem mvX7_whomOn : gMv yX7_whomOn := ⟨List.mem_of_getElem? (i := 1003) (by decide +kernel), List.mem_of_getElem? (i := 33) (by decide +kernel)⟩
theorem mwJ6_bitCount_0f7a4 : gMw yJ6_bitCount_0f7a4 cJ6_bitCount_0f7a4 1 (some .int) 1 := ⟨List.mem_of_getElem? (i := 582) (by decide +kernel), List.mem_of_getElem? (i := 68) (by decide +kernel), by decide +kernel, by decide +kernel, by decide⟩
theorem msJ6_bitCount_0f7a4 : gMs yJ6_bitCount_0f7a4 := List.mem_of_getElem? (i := 581) (by decide +kernel)
theorem mwJ9_max_7cf53 : gMw yJ9_max_7cf53 cJ9_max_7cf53 2 (some .int) 2 := ⟨List.mem_of_getElem? (i := 575) (by decide +kernel), List.mem_of_getElem? (i := 67) (by decide +kernel), by decide +kernel, by decide +kernel, by decide⟩
theorem msJ9_max_7cf53 : gMs yJ9_max_7cf53 := List.mem_of_getElem? (i := 574) (by decide +kernel)
theorem mwJ9_min_7cf53 : gMw yJ9_min_7cf53 cJ9_min_7cf53 2 (some .int) 2 := ⟨List.mem_of_getElem? (i := 571) (by decide +kernel), List.mem_of_getElem? (i := 67) (by decide +kernel), by decide +kernel, by decide +kernel, by decide⟩
theorem msJ9_min_7cf53 : gMs yJ9_min_7cf53 := List.mem_of_getElem? (i := 570) (by decide +kernel)
theorem mwJ0_charAt_5068e : gMw yJ0_charAt_5068e cJ0_charAt_5068e 2 (some .char) 1 := ⟨List.mem_of_getElem? (i := 358) (by decide +kernel), List.mem_of_getElem? (i := 63) (by decide +kernel), by decide +kernel, by decide +kernel, by decide⟩
theorem mvJ0_charAt_5068e : gMv yJ0_charAt_5068e := ⟨List.mem_of_getElem? (i := 356) (by decide +kernel), List.mem_of_getElem? (i := 357) (by decide +kernel)⟩
theorem mwJ0_checkIndex_df160 : gMw yJ0_checkIndex_df160 cJ0_checkIndex_df160 2 (none) 2 := ⟨List.mem_of_getElem? (i := 368) (by decide +kernel), List.mem_of_getElem? (i := 63) (by decide +kernel), by decide +kernel, by decide +kernel, by decide⟩
theorem msJ0_checkIndex_df160 : gMs yJ0_checkIndex_df160 := List.mem_of_getElem? (i := 367) (by decide +kernel)
theorem mwJ0_coder_7d493 : gMw yJ0_coder_7d493 cJ0_coder_7d493 1 (some .byte) 0 := ⟨List.mem_of_getElem? (i := 352) (by decide +kernel), List.mem_of_getElem? (i := 63) (by decide +kernel), by decide +kernel, by decide +kernel, by decide⟩
theorem mvJ0_coder_7d493 : gMv yJ0_coder_7d493 := ⟨List.mem_of_getElem? (i := 350) (by decide +kernel), List.mem_of_getElem? (i := 351) (by decide +kernel)⟩
theorem mwJ0_isLatin1_aae02 : gMw yJ0_isLatin1_aae02 cJ0_isLatin1_aae02 1 (some .boolean) 0 := ⟨List.mem_of_getElem? (i := 362) (by decide +kernel), List.mem_of_getElem? (i := 63) (by decide +kernel), by decide +kernel, by decide +kernel, by decide⟩
theorem mvJ0_isLatin1_aae02 : gMv yJ0_isLatin1_aae02 := ⟨List.mem_of_getElem? (i := 360) (by decide +kernel), List.mem_of_getElem? (i := 361) (by decide +kernel)⟩
theorem mwJ0_length_8abf5 : gMw yJ0_length_8abf5 cJ0_length_8abf5 1 (some .int) 0 := ⟨List.mem_of_getElem? (i := 348) (by decide +kernel), List.mem_of_getElem? (i := 63) (by decide +kernel), by decide +kernel, by decide +kernel, by decide⟩
theorem mvJ0_length_8abf5 : gMv yJ0_length_8abf5 := ⟨List.mem_of_getElem? (i := 346) (by decide +kernel), List.mem_of_getElem? (i := 347) (by decide +kernel)⟩
theorem mwJ1_charAt_3b067 : gMw yJ1_charAt_3b067 cJ1_charAt_3b067 2 (some .char) 2 := ⟨List.mem_of_getElem? (i := 365) (by decide +kernel), List.mem_of_getElem? (i := 64) (by decide +kernel), by decide +kernel, by decide +kernel, by decide⟩
theorem msJ1_charAt_3b067 : gMs yJ1_charAt_3b067 := List.mem_of_getElem? (i := 364) (by decide +kernel)
theorem mwJ2_charAt_3b067 : gMw yJ2_charAt_3b067 cJ2_charAt_3b067 2 (some .char) 2 := ⟨List.mem_of_getElem? (i := 376) (by decide +kernel), List.mem_of_getElem? (i := 66) (by decide +kernel), by decide +kernel, by decide +kernel, by decide⟩
theorem msJ2_charAt_3b067 : gMs yJ2_charAt_3b067 := List.mem_of_getElem? (i := 375) (by decide +kernel)
theorem mwJ2_checkIndex_2214a : gMw yJ2_checkIndex_2214a cJ2_checkIndex_2214a 2 (none) 2 := ⟨List.mem_of_getElem? (i := 379) (by decide +kernel), List.mem_of_getElem? (i := 66) (by decide +kernel), by decide +kernel, by decide +kernel, by decide⟩
theorem msJ2_checkIndex_2214a : gMs yJ2_checkIndex_2214a := List.mem_of_getElem? (i := 378) (by decide +kernel)
theorem mwJ2_getChar_3b067 : gMw yJ2_getChar_3b067 cJ2_getChar_3b067 2 (some .char) 2 := ⟨List.mem_of_getElem? (i := 386) (by decide +kernel), List.mem_of_getElem? (i := 66) (by decide +kernel), by decide +kernel, by decide +kernel, by decide⟩
theorem msJ2_getChar_3b067 : gMs yJ2_getChar_3b067 := List.mem_of_getElem? (i := 385) (by decide +kernel)
theorem mwJ2_length_9d52b : gMw yJ2_length_9d52b cJ2_length_9d52b 1 (some .int) 1 := ⟨List.mem_of_getElem? (i := 382) (by decide +kernel), List.mem_of_getElem? (i := 66) (by decide +kernel), by decide +kernel, by decide +kernel, by decide⟩
theorem msJ2_length_9d52b : gMs yJ2_length_9d52b := List.mem_of_getElem? (i := 381) (by decide +kernel)
theorem mwJ3_checkIndex_8e157 : gMw yJ3_checkIndex_8e157 cJ3_checkIndex_8e157 3 (some .int) 3 := ⟨List.mem_of_getElem? (i := 373) (by decide +kernel), List.mem_of_getElem? (i := 65) (by decide +kernel), by decide +kernel, by decide +kernel, by decide⟩
theorem msJ3_checkIndex_8e157 : gMs yJ3_checkIndex_8e157 := List.mem_of_getElem? (i := 372) (by decide +kernel)
theorem lJ0_335 : Cond.methodLink RJ0 335 yJ0_coder_7d493 ∈ lw_tbl := List.mem_of_getElem? (i := 349) (by decide +kernel)
theorem lJ0_492 : Cond.methodLink RJ0 492 yJ0_isLatin1_aae02 ∈ lw_tbl := List.mem_of_getElem? (i := 359) (by decide +kernel)
theorem lJ0_495 : Cond.methodLink RJ0 495 yJ1_charAt_3b067 ∈ lw_tbl := List.mem_of_getElem? (i := 363) (by decide +kernel)
theorem lJ0_498 : Cond.methodLink RJ0 498 yJ2_charAt_3b067 ∈ lw_tbl := List.mem_of_getElem? (i := 374) (by decide +kernel)
theorem lJ0_1059 : Cond.methodLink RJ0 1059 yJ3_checkIndex_8e157 ∈ lw_tbl := List.mem_of_getElem? (i := 371) (by decide +kernel)
theorem lJ1_9 : Cond.methodLink RJ1 9 yJ0_checkIndex_df160 ∈ lw_tbl := List.mem_of_getElem? (i := 366) (by decide +kernel)
theorem lJ2_48 : Cond.methodLink RJ2 48 yJ2_length_9d52b ∈ lw_tbl := List.mem_of_getElem? (i := 380) (by decide +kernel)
theorem lJ2_67 : Cond.methodLink RJ2 67 yJ2_checkIndex_2214a ∈ lw_tbl := List.mem_of_getElem? (i := 377) (by decide +kernel)
theorem lJ2_71 : Cond.methodLink RJ2 71 yJ2_getChar_3b067 ∈ lw_tbl := List.mem_of_getElem? (i := 384) (by decide +kernel)
theorem lJ2_414 : Cond.methodLink RJ2 414 yJ0_checkIndex_df160 ∈ lw_tbl := List.mem_of_getElem? (i := 383) (by decide +kernel)
theorem lL_9 : Cond.methodLink RL 9 yX6_init ∈ lw_tbl := List.mem_of_getElem? (i := 71) (by decide +kernel)
theorem lL_12 : Cond.methodLink RL 12 yX7_init ∈ lw_tbl := List.mem_of_getElem? (i := 837) (by decide +kernel)
theorem lL_13 : Cond.methodLink RL 13 yX6_feed ∈ lw_tbl := List.mem_of_getElem? (i := 287) (by decide +kernel)
theorem lL_17 : Cond.methodLink RL 17 yX7_feed ∈ lw_tbl := List.mem_of_getElem? (i := 932) (by decide +kernel)
theorem lL_18 : Cond.methodLink RL 18 yX6_end ∈ lw_tbl := List.mem_of_getElem? (i := 298) (by decide +kernel)
theorem lL_21 : Cond.methodLink RL 21 yX7_end ∈ lw_tbl := List.mem_of_getElem? (i := 940) (by decide +kernel)
theorem lL_22 : Cond.methodLink RL 22 yX6_text ∈ lw_tbl := List.mem_of_getElem? (i := 302) (by decide +kernel)
theorem lL_26 : Cond.methodLink RL 26 yX7_text ∈ lw_tbl := List.mem_of_getElem? (i := 944) (by decide +kernel)
theorem lL_27 : Cond.methodLink RL 27 yX6_fault ∈ lw_tbl := List.mem_of_getElem? (i := 452) (by decide +kernel)
theorem lL_30 : Cond.methodLink RL 30 yX7_fault ∈ lw_tbl := List.mem_of_getElem? (i := 981) (by decide +kernel)
theorem lL_31 : Cond.methodLink RL 31 yX6_rule ∈ lw_tbl := List.mem_of_getElem? (i := 456) (by decide +kernel)
theorem lL_34 : Cond.methodLink RL 34 yX7_rule ∈ lw_tbl := List.mem_of_getElem? (i := 985) (by decide +kernel)
theorem lL_35 : Cond.methodLink RL 35 yX6_geyser ∈ lw_tbl := List.mem_of_getElem? (i := 484) (by decide +kernel)
theorem lL_39 : Cond.methodLink RL 39 yX7_geyser ∈ lw_tbl := List.mem_of_getElem? (i := 1005) (by decide +kernel)
theorem lL_40 : Cond.methodLink RL 40 yX6_row ∈ lw_tbl := List.mem_of_getElem? (i := 501) (by decide +kernel)
theorem lL_43 : Cond.methodLink RL 43 yX7_row ∈ lw_tbl := List.mem_of_getElem? (i := 1022) (by decide +kernel)
theorem lL_44 : Cond.methodLink RL 44 yX6_alter ∈ lw_tbl := List.mem_of_getElem? (i := 506) (by decide +kernel)
theorem lL_48 : Cond.methodLink RL 48 yX7_alter ∈ lw_tbl := List.mem_of_getElem? (i := 1030) (by decide +kernel)
theorem lL_49 : Cond.methodLink RL 49 yX6_tell ∈ lw_tbl := List.mem_of_getElem? (i := 517) (by decide +kernel)
theorem lL_52 : Cond.methodLink RL 52 yX7_tell ∈ lw_tbl := List.mem_of_getElem? (i := 1046) (by decide +kernel)
theorem lL_53 : Cond.methodLink RL 53 yX6_set ∈ lw_tbl := List.mem_of_getElem? (i := 521) (by decide +kernel)
theorem lL_56 : Cond.methodLink RL 56 yX7_set ∈ lw_tbl := List.mem_of_getElem? (i := 1051) (by decide +kernel)
theorem lL_57 : Cond.methodLink RL 57 yX6_open ∈ lw_tbl := List.mem_of_getElem? (i := 525) (by decide +kernel)
theorem lL_60 : Cond.methodLink RL 60 yX7_open ∈ lw_tbl := List.mem_of_getElem? (i := 1056) (by decide +kernel)
theorem lL_61 : Cond.methodLink RL 61 yX6_cut ∈ lw_tbl := List.mem_of_getElem? (i := 530) (by decide +kernel)
theorem lL_64 : Cond.methodLink RL 64 yX7_cut ∈ lw_tbl := List.mem_of_getElem? (i := 1060) (by decide +kernel)
theorem lL_65 : Cond.methodLink RL 65 yX6_add ∈ lw_tbl := List.mem_of_getElem? (i := 534) (by decide +kernel)
theorem lL_68 : Cond.methodLink RL 68 yX7_add ∈ lw_tbl := List.mem_of_getElem? (i := 1064) (by decide +kernel)
theorem lL_69 : Cond.methodLink RL 69 yX6_drop ∈ lw_tbl := List.mem_of_getElem? (i := 542) (by decide +kernel)
theorem lL_72 : Cond.methodLink RL 72 yX7_drop ∈ lw_tbl := List.mem_of_getElem? (i := 1072) (by decide +kernel)
theorem lL_73 : Cond.methodLink RL 73 yX6_hours ∈ lw_tbl := List.mem_of_getElem? (i := 546) (by decide +kernel)
theorem lL_76 : Cond.methodLink RL 76 yX7_hours ∈ lw_tbl := List.mem_of_getElem? (i := 1076) (by decide +kernel)
theorem lL_77 : Cond.methodLink RL 77 yX6_runs ∈ lw_tbl := List.mem_of_getElem? (i := 586) (by decide +kernel)
theorem lL_80 : Cond.methodLink RL 80 yX7_runs ∈ lw_tbl := List.mem_of_getElem? (i := 1100) (by decide +kernel)
theorem lL_81 : Cond.methodLink RL 81 yX6_ahead ∈ lw_tbl := List.mem_of_getElem? (i := 607) (by decide +kernel)
theorem lL_84 : Cond.methodLink RL 84 yX7_ahead ∈ lw_tbl := List.mem_of_getElem? (i := 1120) (by decide +kernel)
theorem lL_85 : Cond.methodLink RL 85 yX6_ups ∈ lw_tbl := List.mem_of_getElem? (i := 618) (by decide +kernel)
theorem lL_88 : Cond.methodLink RL 88 yX7_ups ∈ lw_tbl := List.mem_of_getElem? (i := 1129) (by decide +kernel)
theorem lL_89 : Cond.methodLink RL 89 yX6_when ∈ lw_tbl := List.mem_of_getElem? (i := 623) (by decide +kernel)
theorem lL_92 : Cond.methodLink RL 92 yX7_when ∈ lw_tbl := List.mem_of_getElem? (i := 1133) (by decide +kernel)
theorem lL_93 : Cond.methodLink RL 93 yX6_again ∈ lw_tbl := List.mem_of_getElem? (i := 628) (by decide +kernel)
theorem lL_96 : Cond.methodLink RL 96 yX7_again ∈ lw_tbl := List.mem_of_getElem? (i := 1137) (by decide +kernel)
theorem lL_97 : Cond.methodLink RL 97 yX6_whom ∈ lw_tbl := List.mem_of_getElem? (i := 636) (by decide +kernel)
theorem lL_100 : Cond.methodLink RL 100 yX7_whom ∈ lw_tbl := List.mem_of_getElem? (i := 1141) (by decide +kernel)
theorem lL_101 : Cond.methodLink RL 101 yX6_route ∈ lw_tbl := List.mem_of_getElem? (i := 644) (by decide +kernel)
theorem lL_104 : Cond.methodLink RL 104 yX7_route ∈ lw_tbl := List.mem_of_getElem? (i := 1149) (by decide +kernel)
theorem lL_105 : Cond.methodLink RL 105 yX6_swap ∈ lw_tbl := List.mem_of_getElem? (i := 659) (by decide +kernel)
theorem lL_108 : Cond.methodLink RL 108 yX7_swap ∈ lw_tbl := List.mem_of_getElem? (i := 1153) (by decide +kernel)
theorem lL_109 : Cond.methodLink RL 109 yX6_bears ∈ lw_tbl := List.mem_of_getElem? (i := 667) (by decide +kernel)
theorem lL_112 : Cond.methodLink RL 112 yX7_bears ∈ lw_tbl := List.mem_of_getElem? (i := 1157) (by decide +kernel)
theorem lL_113 : Cond.methodLink RL 113 yX6_flow ∈ lw_tbl := List.mem_of_getElem? (i := 675) (by decide +kernel)
theorem lL_116 : Cond.methodLink RL 116 yX7_flow ∈ lw_tbl := List.mem_of_getElem? (i := 1161) (by decide +kernel)
theorem lL_117 : Cond.methodLink RL 117 yX6_kind ∈ lw_tbl := List.mem_of_getElem? (i := 679) (by decide +kernel)
theorem lL_120 : Cond.methodLink RL 120 yX7_kind ∈ lw_tbl := List.mem_of_getElem? (i := 1165) (by decide +kernel)
theorem lL_121 : Cond.methodLink RL 121 yX6_play ∈ lw_tbl := List.mem_of_getElem? (i := 683) (by decide +kernel)
theorem lL_124 : Cond.methodLink RL 124 yX7_play ∈ lw_tbl := List.mem_of_getElem? (i := 1169) (by decide +kernel)
theorem lL_125 : Cond.methodLink RL 125 yX6_luck ∈ lw_tbl := List.mem_of_getElem? (i := 701) (by decide +kernel)
theorem lL_129 : Cond.methodLink RL 129 yX7_luck ∈ lw_tbl := List.mem_of_getElem? (i := 1182) (by decide +kernel)
theorem lL_130 : Cond.methodLink RL 130 yX6_mean ∈ lw_tbl := List.mem_of_getElem? (i := 722) (by decide +kernel)
theorem lL_134 : Cond.methodLink RL 134 yX7_mean ∈ lw_tbl := List.mem_of_getElem? (i := 1196) (by decide +kernel)
theorem lL_135 : Cond.methodLink RL 135 yX6_see ∈ lw_tbl := List.mem_of_getElem? (i := 726) (by decide +kernel)
theorem lL_138 : Cond.methodLink RL 138 yX7_see ∈ lw_tbl := List.mem_of_getElem? (i := 1200) (by decide +kernel)
theorem lL_139 : Cond.methodLink RL 139 yX6_forget ∈ lw_tbl := List.mem_of_getElem? (i := 734) (by decide +kernel)
theorem lL_142 : Cond.methodLink RL 142 yX7_forget ∈ lw_tbl := List.mem_of_getElem? (i := 1204) (by decide +kernel)
theorem lL_143 : Cond.methodLink RL 143 yX6_kinds ∈ lw_tbl := List.mem_of_getElem? (i := 738) (by decide +kernel)
theorem lL_146 : Cond.methodLink RL 146 yX7_kinds ∈ lw_tbl := List.mem_of_getElem? (i := 1208) (by decide +kernel)
theorem lL_147 : Cond.methodLink RL 147 yX6_nerves ∈ lw_tbl := List.mem_of_getElem? (i := 751) (by decide +kernel)
theorem lL_150 : Cond.methodLink RL 150 yX7_nerves ∈ lw_tbl := List.mem_of_getElem? (i := 1220) (by decide +kernel)
theorem lL_151 : Cond.methodLink RL 151 yX6_ask ∈ lw_tbl := List.mem_of_getElem? (i := 759) (by decide +kernel)
theorem lL_154 : Cond.methodLink RL 154 yX7_ask ∈ lw_tbl := List.mem_of_getElem? (i := 1224) (by decide +kernel)
theorem lL_155 : Cond.methodLink RL 155 yX6_season ∈ lw_tbl := List.mem_of_getElem? (i := 771) (by decide +kernel)
theorem lL_158 : Cond.methodLink RL 158 yX7_season ∈ lw_tbl := List.mem_of_getElem? (i := 1228) (by decide +kernel)
theorem lL_159 : Cond.methodLink RL 159 yX6_keep ∈ lw_tbl := List.mem_of_getElem? (i := 776) (by decide +kernel)
theorem lL_162 : Cond.methodLink RL 162 yX7_keep ∈ lw_tbl := List.mem_of_getElem? (i := 1233) (by decide +kernel)
theorem lL_163 : Cond.methodLink RL 163 yX6_back ∈ lw_tbl := List.mem_of_getElem? (i := 780) (by decide +kernel)
theorem lL_166 : Cond.methodLink RL 166 yX7_back ∈ lw_tbl := List.mem_of_getElem? (i := 1237) (by decide +kernel)
theorem lL_167 : Cond.methodLink RL 167 yX6_sheet ∈ lw_tbl := List.mem_of_getElem? (i := 784) (by decide +kernel)
theorem lL_170 : Cond.methodLink RL 170 yX7_sheet ∈ lw_tbl := List.mem_of_getElem? (i := 1241) (by decide +kernel)
theorem lL_171 : Cond.methodLink RL 171 yX6_lay ∈ lw_tbl := List.mem_of_getElem? (i := 797) (by decide +kernel)
theorem lL_174 : Cond.methodLink RL 174 yX7_lay ∈ lw_tbl := List.mem_of_getElem? (i := 1245) (by decide +kernel)
theorem lL_175 : Cond.methodLink RL 175 yX6_read ∈ lw_tbl := List.mem_of_getElem? (i := 809) (by decide +kernel)
theorem lL_179 : Cond.methodLink RL 179 yX7_read ∈ lw_tbl := List.mem_of_getElem? (i := 1249) (by decide +kernel)
theorem lL_180 : Cond.methodLink RL 180 yX6_torn ∈ lw_tbl := List.mem_of_getElem? (i := 823) (by decide +kernel)
theorem lL_183 : Cond.methodLink RL 183 yX7_torn ∈ lw_tbl := List.mem_of_getElem? (i := 1253) (by decide +kernel)
theorem lL_184 : Cond.methodLink RL 184 yX6_count ∈ lw_tbl := List.mem_of_getElem? (i := 827) (by decide +kernel)
theorem lL_187 : Cond.methodLink RL 187 yX7_count ∈ lw_tbl := List.mem_of_getElem? (i := 1257) (by decide +kernel)
theorem lX0_3 : Cond.methodLink RX0 3 objectInit ∈ lw_tbl := List.mem_of_getElem? (i := 82) (by decide +kernel)
theorem lX0_31 : Cond.methodLinkNest RX0 31 yX5_init "GeyserNerves" ∈ lw_tbl := List.mem_of_getElem? (i := 86) (by decide +kernel)
theorem lX0_41 : Cond.methodLink RX0 41 yX5_become ∈ lw_tbl := List.mem_of_getElem? (i := 444) (by decide +kernel)
theorem lX0_45 : Cond.methodLink RX0 45 yX5_takeMood ∈ lw_tbl := List.mem_of_getElem? (i := 695) (by decide +kernel)
theorem lX0_48 : Cond.methodLink RX0 48 yX5_begin ∈ lw_tbl := List.mem_of_getElem? (i := 436) (by decide +kernel)
theorem lX0_52 : Cond.methodLink RX0 52 yX0_hasRow ∈ lw_tbl := List.mem_of_getElem? (i := 476) (by decide +kernel)
theorem lX0_56 : Cond.methodLink RX0 56 yX0_turn ∈ lw_tbl := List.mem_of_getElem? (i := 472) (by decide +kernel)
theorem lX0_60 : Cond.methodLink RX0 60 yX0_shareOf ∈ lw_tbl := List.mem_of_getElem? (i := 564) (by decide +kernel)
theorem lX0_64 : Cond.methodLink RX0 64 yX5_pass ∈ lw_tbl := List.mem_of_getElem? (i := 565) (by decide +kernel)
theorem lX0_68 : Cond.methodLink RX0 68 yX0_watchersNow ∈ lw_tbl := List.mem_of_getElem? (i := 558) (by decide +kernel)
theorem lX0_71 : Cond.methodLink RX0 71 yX0_companyNow ∈ lw_tbl := List.mem_of_getElem? (i := 559) (by decide +kernel)
theorem lX0_74 : Cond.methodLink RX0 74 yX0_pass ∈ lw_tbl := List.mem_of_getElem? (i := 560) (by decide +kernel)
theorem lX0_77 : Cond.methodLink RX0 77 yX0_passByPlan ∈ lw_tbl := List.mem_of_getElem? (i := 554) (by decide +kernel)
theorem lX0_80 : Cond.methodLink RX0 80 yJ6_bitCount_0f7a4 ∈ lw_tbl := List.mem_of_getElem? (i := 580) (by decide +kernel)
theorem lX0_85 : Cond.methodLinkNest RX0 85 yX6_bit "GeyserNerves" ∈ lw_tbl := List.mem_of_getElem? (i := 615) (by decide +kernel)
theorem lX0_88 : Cond.methodLink RX0 88 yX0_greatestHeat ∈ lw_tbl := List.mem_of_getElem? (i := 601) (by decide +kernel)
theorem lX0_91 : Cond.methodLink RX0 91 yJ9_max_7cf53 ∈ lw_tbl := List.mem_of_getElem? (i := 605) (by decide +kernel)
theorem lX0_96 : Cond.methodLink RX0 96 yX0_sumOf ∈ lw_tbl := List.mem_of_getElem? (i := 606) (by decide +kernel)
theorem lX0_105 : Cond.methodLink RX0 105 yX5_part ∈ lw_tbl := List.mem_of_getElem? (i := 464) (by decide +kernel)
theorem lX1_3 : Cond.methodLink RX1 3 objectInit ∈ lw_tbl := List.mem_of_getElem? (i := 159) (by decide +kernel)
theorem lX1_11 : Cond.methodLinkNest RX1 11 yX4_init "GeyserNerves" ∈ lw_tbl := List.mem_of_getElem? (i := 162) (by decide +kernel)
theorem lX1_35 : Cond.methodLink RX1 35 yX0_clear ∈ lw_tbl := List.mem_of_getElem? (i := 310) (by decide +kernel)
theorem lX1_40 : Cond.methodLink RX1 40 yX1_advance ∈ lw_tbl := List.mem_of_getElem? (i := 314) (by decide +kernel)
theorem lX1_46 : Cond.methodLink RX1 46 yX1_takeLine ∈ lw_tbl := List.mem_of_getElem? (i := 332) (by decide +kernel)
theorem lX1_50 : Cond.methodLink RX1 50 yX1_lineOfName ∈ lw_tbl := List.mem_of_getElem? (i := 336) (by decide +kernel)
theorem lX1_57 : Cond.methodLink RX1 57 yX1_fail ∈ lw_tbl := List.mem_of_getElem? (i := 328) (by decide +kernel)
theorem lX1_61 : Cond.methodLink RX1 61 yX1_takeFlow ∈ lw_tbl := List.mem_of_getElem? (i := 399) (by decide +kernel)
theorem lX1_64 : Cond.methodLink RX1 64 yX1_takeCalm ∈ lw_tbl := List.mem_of_getElem? (i := 416) (by decide +kernel)
theorem lX1_67 : Cond.methodLink RX1 67 yX1_takeHour ∈ lw_tbl := List.mem_of_getElem? (i := 420) (by decide +kernel)
theorem lX1_70 : Cond.methodLink RX1 70 yX1_takeVent ∈ lw_tbl := List.mem_of_getElem? (i := 428) (by decide +kernel)
theorem lX1_74 : Cond.methodLink RX1 74 yX1_passName ∈ lw_tbl := List.mem_of_getElem? (i := 403) (by decide +kernel)
theorem lX1_77 : Cond.methodLink RX1 77 yX1_takeNumber ∈ lw_tbl := List.mem_of_getElem? (i := 407) (by decide +kernel)
theorem lX1_84 : Cond.methodLink RX1 84 yX1_takeStop ∈ lw_tbl := List.mem_of_getElem? (i := 412) (by decide +kernel)
theorem lX1_93 : Cond.methodLink RX1 93 yX0_moreRows ∈ lw_tbl := List.mem_of_getElem? (i := 424) (by decide +kernel)
theorem lX1_100 : Cond.methodLink RX1 100 yX0_moreVents ∈ lw_tbl := List.mem_of_getElem? (i := 432) (by decide +kernel)
theorem lX1_107 : Cond.methodLinkNest RX1 107 yX6_within "GeyserNerves" ∈ lw_tbl := List.mem_of_getElem? (i := 411) (by decide +kernel)
theorem lX1_110 : Cond.methodLink RX1 110 yX4_byteAt ∈ lw_tbl := List.mem_of_getElem? (i := 318) (by decide +kernel)
theorem lX1_114 : Cond.methodLink RX1 114 yX1_isLetter ∈ lw_tbl := List.mem_of_getElem? (i := 322) (by decide +kernel)
theorem lX1_118 : Cond.methodLink RX1 118 yX1_isFigure ∈ lw_tbl := List.mem_of_getElem? (i := 325) (by decide +kernel)
theorem lX1_123 : Cond.methodLink RX1 123 yX1_nameIs ∈ lw_tbl := List.mem_of_getElem? (i := 341) (by decide +kernel)
theorem lX1_137 : Cond.methodLink RX1 137 yJ0_length_8abf5 ∈ lw_tbl := List.mem_of_getElem? (i := 345) (by decide +kernel)
theorem lX1_142 : Cond.methodLink RX1 142 yJ0_charAt_5068e ∈ lw_tbl := List.mem_of_getElem? (i := 355) (by decide +kernel)
theorem lX2_3 : Cond.methodLink RX2 3 objectInit ∈ lw_tbl := List.mem_of_getElem? (i := 212) (by decide +kernel)
theorem lX2_25 : Cond.methodLinkNest RX2 25 yX6_bit "GeyserNerves" ∈ lw_tbl := List.mem_of_getElem? (i := 750) (by decide +kernel)
theorem lX3_3 : Cond.methodLink RX3 3 objectInit ∈ lw_tbl := List.mem_of_getElem? (i := 233) (by decide +kernel)
theorem lX3_22 : Cond.methodLink RX3 22 yJ9_min_7cf53 ∈ lw_tbl := List.mem_of_getElem? (i := 795) (by decide +kernel)
theorem lX3_28 : Cond.methodLink RX3 28 yJ9_max_7cf53 ∈ lw_tbl := List.mem_of_getElem? (i := 796) (by decide +kernel)
theorem lX3_31 : Cond.methodLink RX3 31 yX3_faultAt ∈ lw_tbl := List.mem_of_getElem? (i := 818) (by decide +kernel)
theorem lX4_3 : Cond.methodLink RX4 3 objectInit ∈ lw_tbl := List.mem_of_getElem? (i := 165) (by decide +kernel)
theorem lX5_3 : Cond.methodLink RX5 3 objectInit ∈ lw_tbl := List.mem_of_getElem? (i := 89) (by decide +kernel)
theorem lX5_30 : Cond.methodLink RX5 30 yX5_takeMood ∈ lw_tbl := List.mem_of_getElem? (i := 448) (by decide +kernel)
theorem lX5_34 : Cond.methodLink RX5 34 yJ9_min_7cf53 ∈ lw_tbl := List.mem_of_getElem? (i := 569) (by decide +kernel)
theorem lX5_40 : Cond.methodLink RX5 40 yX5_minds ∈ lw_tbl := List.mem_of_getElem? (i := 572) (by decide +kernel)
theorem lX5_44 : Cond.methodLink RX5 44 yJ9_max_7cf53 ∈ lw_tbl := List.mem_of_getElem? (i := 573) (by decide +kernel)
theorem lX5_47 : Cond.methodLink RX5 47 yX5_fades ∈ lw_tbl := List.mem_of_getElem? (i := 576) (by decide +kernel)
theorem lX6_1 : Cond.methodLink RX6 1 objectInit ∈ lw_tbl := List.mem_of_getElem? (i := 74) (by decide +kernel)
theorem lX6_9 : Cond.methodLink RX6 9 yX0_init ∈ lw_tbl := List.mem_of_getElem? (i := 79) (by decide +kernel)
theorem lX6_32 : Cond.methodLinkNest RX6 32 yX1_init "GeyserNerves" ∈ lw_tbl := List.mem_of_getElem? (i := 156) (by decide +kernel)
theorem lX6_46 : Cond.methodLinkNest RX6 46 yX2_init "GeyserNerves" ∈ lw_tbl := List.mem_of_getElem? (i := 209) (by decide +kernel)
theorem lX6_65 : Cond.methodLinkNest RX6 65 yX3_init "GeyserNerves" ∈ lw_tbl := List.mem_of_getElem? (i := 230) (by decide +kernel)
theorem lX6_66 : Cond.methodLink RX6 66 yX6_within ∈ lw_tbl := List.mem_of_getElem? (i := 291) (by decide +kernel)
theorem lX6_70 : Cond.methodLink RX6 70 yX4_take ∈ lw_tbl := List.mem_of_getElem? (i := 294) (by decide +kernel)
theorem lX6_80 : Cond.methodLink RX6 80 yX1_takeAll ∈ lw_tbl := List.mem_of_getElem? (i := 306) (by decide +kernel)
theorem lX6_93 : Cond.methodLink RX6 93 yX0_become ∈ lw_tbl := List.mem_of_getElem? (i := 440) (by decide +kernel)
theorem lX6_115 : Cond.methodLink RX6 115 yX0_sumOf ∈ lw_tbl := List.mem_of_getElem? (i := 460) (by decide +kernel)
theorem lX6_119 : Cond.methodLink RX6 119 yX0_watchersNow ∈ lw_tbl := List.mem_of_getElem? (i := 468) (by decide +kernel)
theorem lX6_123 : Cond.methodLink RX6 123 yX0_companyNow ∈ lw_tbl := List.mem_of_getElem? (i := 480) (by decide +kernel)
theorem lX6_126 : Cond.methodLink RX6 126 yX0_hasVent ∈ lw_tbl := List.mem_of_getElem? (i := 488) (by decide +kernel)
theorem lX6_129 : Cond.methodLink RX6 129 yX0_shareOf ∈ lw_tbl := List.mem_of_getElem? (i := 492) (by decide +kernel)
theorem lX6_136 : Cond.methodLink RX6 136 yX5_minds ∈ lw_tbl := List.mem_of_getElem? (i := 496) (by decide +kernel)
theorem lX6_141 : Cond.methodLink RX6 141 yX5_part ∈ lw_tbl := List.mem_of_getElem? (i := 500) (by decide +kernel)
theorem lX6_144 : Cond.methodLink RX6 144 yX0_hasRow ∈ lw_tbl := List.mem_of_getElem? (i := 505) (by decide +kernel)
theorem lX6_153 : Cond.methodLink RX6 153 yX6_fitsVent ∈ lw_tbl := List.mem_of_getElem? (i := 510) (by decide +kernel)
theorem lX6_157 : Cond.methodLink RX6 157 yX5_change ∈ lw_tbl := List.mem_of_getElem? (i := 513) (by decide +kernel)
theorem lX6_161 : Cond.methodLink RX6 161 yX0_moreVents ∈ lw_tbl := List.mem_of_getElem? (i := 529) (by decide +kernel)
theorem lX6_164 : Cond.methodLink RX6 164 yX6_addTo ∈ lw_tbl := List.mem_of_getElem? (i := 538) (by decide +kernel)
theorem lX6_168 : Cond.methodLink RX6 168 yX0_moreRows ∈ lw_tbl := List.mem_of_getElem? (i := 541) (by decide +kernel)
theorem lX6_171 : Cond.methodLink RX6 171 yX0_upsOfAll ∈ lw_tbl := List.mem_of_getElem? (i := 550) (by decide +kernel)
theorem lX6_174 : Cond.methodLink RX6 174 yX6_isAhead ∈ lw_tbl := List.mem_of_getElem? (i := 590) (by decide +kernel)
theorem lX6_177 : Cond.methodLink RX6 177 yX6_afresh ∈ lw_tbl := List.mem_of_getElem? (i := 593) (by decide +kernel)
theorem lX6_181 : Cond.methodLink RX6 181 yX0_tally ∈ lw_tbl := List.mem_of_getElem? (i := 597) (by decide +kernel)
theorem lX6_185 : Cond.methodLink RX6 185 yX0_upsOf ∈ lw_tbl := List.mem_of_getElem? (i := 611) (by decide +kernel)
theorem lX6_194 : Cond.methodLink RX6 194 yX0_passByPlan ∈ lw_tbl := List.mem_of_getElem? (i := 622) (by decide +kernel)
theorem lX6_197 : Cond.methodLink RX6 197 yX6_bit ∈ lw_tbl := List.mem_of_getElem? (i := 627) (by decide +kernel)
theorem lX6_200 : Cond.methodLink RX6 200 yX0_standsAs ∈ lw_tbl := List.mem_of_getElem? (i := 632) (by decide +kernel)
theorem lX6_204 : Cond.methodLink RX6 204 yX0_choice ∈ lw_tbl := List.mem_of_getElem? (i := 640) (by decide +kernel)
theorem lX6_207 : Cond.methodLink RX6 207 yX6_upsByRoute ∈ lw_tbl := List.mem_of_getElem? (i := 648) (by decide +kernel)
theorem lX6_210 : Cond.methodLink RX6 210 yX6_companyOnRoute ∈ lw_tbl := List.mem_of_getElem? (i := 652) (by decide +kernel)
theorem lX6_214 : Cond.methodLink RX6 214 yX0_pass ∈ lw_tbl := List.mem_of_getElem? (i := 657) (by decide +kernel)
theorem lX6_217 : Cond.methodLink RX6 217 yJ6_bitCount_0f7a4 ∈ lw_tbl := List.mem_of_getElem? (i := 658) (by decide +kernel)
theorem lX6_222 : Cond.methodLink RX6 222 yJ9_max_7cf53 ∈ lw_tbl := List.mem_of_getElem? (i := 656) (by decide +kernel)
theorem lX6_227 : Cond.methodLink RX6 227 yX0_exchange ∈ lw_tbl := List.mem_of_getElem? (i := 663) (by decide +kernel)
theorem lX6_230 : Cond.methodLink RX6 230 yX6_upsWithWatchers ∈ lw_tbl := List.mem_of_getElem? (i := 671) (by decide +kernel)
theorem lX6_236 : Cond.methodLink RX6 236 yX6_leastFor ∈ lw_tbl := List.mem_of_getElem? (i := 687) (by decide +kernel)
theorem lX6_240 : Cond.methodLink RX6 240 yX0_takeMoods ∈ lw_tbl := List.mem_of_getElem? (i := 691) (by decide +kernel)
theorem lX6_243 : Cond.methodLink RX6 243 yX6_mostFrom ∈ lw_tbl := List.mem_of_getElem? (i := 696) (by decide +kernel)
theorem lX6_246 : Cond.methodLink RX6 246 yJ9_min_7cf53 ∈ lw_tbl := List.mem_of_getElem? (i := 700) (by decide +kernel)
theorem lX6_249 : Cond.methodLink RX6 249 yX6_areOdds ∈ lw_tbl := List.mem_of_getElem? (i := 705) (by decide +kernel)
theorem lX6_254 : Cond.methodLink RX6 254 yX6_upsByOdds ∈ lw_tbl := List.mem_of_getElem? (i := 709) (by decide +kernel)
theorem lX6_257 : Cond.methodLink RX6 257 yX6_weight ∈ lw_tbl := List.mem_of_getElem? (i := 713) (by decide +kernel)
theorem lX6_261 : Cond.methodLink RX6 261 yX6_power ∈ lw_tbl := List.mem_of_getElem? (i := 716) (by decide +kernel)
theorem lX6_265 : Cond.methodLink RX6 265 yX6_lowest ∈ lw_tbl := List.mem_of_getElem? (i := 719) (by decide +kernel)
theorem lX6_269 : Cond.methodLink RX6 269 yX2_take ∈ lw_tbl := List.mem_of_getElem? (i := 730) (by decide +kernel)
theorem lX6_271 : Cond.methodLink RX6 271 yX6_goesAsSeen ∈ lw_tbl := List.mem_of_getElem? (i := 742) (by decide +kernel)
theorem lX6_274 : Cond.methodLink RX6 274 yX6_goesAsSeenByNerve ∈ lw_tbl := List.mem_of_getElem? (i := 755) (by decide +kernel)
theorem lX6_280 : Cond.methodLink RX6 280 yX2_agrees ∈ lw_tbl := List.mem_of_getElem? (i := 746) (by decide +kernel)
theorem lX6_284 : Cond.methodLink RX6 284 yX6_hoursOf ∈ lw_tbl := List.mem_of_getElem? (i := 763) (by decide +kernel)
theorem lX6_288 : Cond.methodLink RX6 288 yX6_leftAtWorst ∈ lw_tbl := List.mem_of_getElem? (i := 767) (by decide +kernel)
theorem lX6_292 : Cond.methodLink RX6 292 yX6_isLane ∈ lw_tbl := List.mem_of_getElem? (i := 788) (by decide +kernel)
theorem lX6_295 : Cond.methodLink RX6 295 yX3_renew ∈ lw_tbl := List.mem_of_getElem? (i := 791) (by decide +kernel)
theorem lX6_301 : Cond.methodLink RX6 301 yX3_faultAt ∈ lw_tbl := List.mem_of_getElem? (i := 801) (by decide +kernel)
theorem lX6_305 : Cond.methodLink RX6 305 yX3_put ∈ lw_tbl := List.mem_of_getElem? (i := 805) (by decide +kernel)
theorem lX6_310 : Cond.methodLink RX6 310 yX3_faultOfTwo ∈ lw_tbl := List.mem_of_getElem? (i := 814) (by decide +kernel)
theorem lX6_313 : Cond.methodLink RX6 313 yX3_cellAt ∈ lw_tbl := List.mem_of_getElem? (i := 819) (by decide +kernel)
theorem lX6_323 : Cond.methodLink RX6 323 yX0_sumOfWatchers ∈ lw_tbl := List.mem_of_getElem? (i := 831) (by decide +kernel)
theorem lX7_1 : Cond.methodLink RX7 1 objectInit ∈ lw_tbl := List.mem_of_getElem? (i := 840) (by decide +kernel)
theorem lX7_55 : Cond.methodLink RX7 55 yX7_in ∈ lw_tbl := List.mem_of_getElem? (i := 937) (by decide +kernel)
theorem lX7_78 : Cond.methodLink RX7 78 yX7_byteAt ∈ lw_tbl := List.mem_of_getElem? (i := 952) (by decide +kernel)
theorem lX7_93 : Cond.methodLink RX7 93 yX7_fails ∈ lw_tbl := List.mem_of_getElem? (i := 960) (by decide +kernel)
theorem lX7_97 : Cond.methodLink RX7 97 yX7_readsOn ∈ lw_tbl := List.mem_of_getElem? (i := 948) (by decide +kernel)
theorem lX7_100 : Cond.methodLink RX7 100 yX7_number ∈ lw_tbl := List.mem_of_getElem? (i := 977) (by decide +kernel)
theorem lX7_104 : Cond.methodLink RX7 104 yX7_nameHere ∈ lw_tbl := List.mem_of_getElem? (i := 968) (by decide +kernel)
theorem lX7_117 : Cond.methodLink RX7 117 yX7_readMore ∈ lw_tbl := List.mem_of_getElem? (i := 973) (by decide +kernel)
theorem lX7_120 : Cond.methodLink RX7 120 yX7_readLine ∈ lw_tbl := List.mem_of_getElem? (i := 964) (by decide +kernel)
theorem lX7_131 : Cond.methodLink RX7 131 yX7_rowOn ∈ lw_tbl := List.mem_of_getElem? (i := 997) (by decide +kernel)
theorem lX7_134 : Cond.methodLink RX7 134 yX7_shareOn ∈ lw_tbl := List.mem_of_getElem? (i := 1014) (by decide +kernel)
theorem lX7_137 : Cond.methodLink RX7 137 yX7_mindsOn ∈ lw_tbl := List.mem_of_getElem? (i := 1018) (by decide +kernel)
theorem lX7_141 : Cond.methodLink RX7 141 yX7_fadesOn ∈ lw_tbl := List.mem_of_getElem? (i := 1093) (by decide +kernel)
theorem lX7_144 : Cond.methodLink RX7 144 yX7_goesUp ∈ lw_tbl := List.mem_of_getElem? (i := 1089) (by decide +kernel)
theorem lX7_148 : Cond.methodLink RX7 148 yX7_watchersOn ∈ lw_tbl := List.mem_of_getElem? (i := 993) (by decide +kernel)
theorem lX7_151 : Cond.methodLink RX7 151 yX7_whomOn ∈ lw_tbl := List.mem_of_getElem? (i := 1001) (by decide +kernel)
theorem lX7_154 : Cond.methodLink RX7 154 yX7_hourOn ∈ lw_tbl := List.mem_of_getElem? (i := 1085) (by decide +kernel)
theorem lX7_157 : Cond.methodLink RX7 157 yX7_sumOn ∈ lw_tbl := List.mem_of_getElem? (i := 989) (by decide +kernel)
theorem lX7_160 : Cond.methodLink RX7 160 yX7_isGeyser ∈ lw_tbl := List.mem_of_getElem? (i := 1009) (by decide +kernel)
theorem lX7_166 : Cond.methodLink RX7 166 yX7_isRow ∈ lw_tbl := List.mem_of_getElem? (i := 1026) (by decide +kernel)
theorem lX7_179 : Cond.methodLink RX7 179 yX7_isGood ∈ lw_tbl := List.mem_of_getElem? (i := 1034) (by decide +kernel)
theorem lX7_183 : Cond.methodLink RX7 183 yX7_puts ∈ lw_tbl := List.mem_of_getElem? (i := 1042) (by decide +kernel)
theorem lX7_191 : Cond.methodLink RX7 191 yX7_adds ∈ lw_tbl := List.mem_of_getElem? (i := 1068) (by decide +kernel)
theorem lX7_196 : Cond.methodLink RX7 196 yX7_planOn ∈ lw_tbl := List.mem_of_getElem? (i := 1081) (by decide +kernel)
theorem lX7_199 : Cond.methodLink RX7 199 yX7_bitsOf ∈ lw_tbl := List.mem_of_getElem? (i := 1097) (by decide +kernel)
theorem lX7_205 : Cond.methodLink RX7 205 yX7_copies ∈ lw_tbl := List.mem_of_getElem? (i := 1112) (by decide +kernel)
theorem lX7_215 : Cond.methodLink RX7 215 yX7_feels ∈ lw_tbl := List.mem_of_getElem? (i := 1116) (by decide +kernel)
theorem lX7_218 : Cond.methodLink RX7 218 yX7_isLong ∈ lw_tbl := List.mem_of_getElem? (i := 1104) (by decide +kernel)
theorem lX7_221 : Cond.methodLink RX7 221 yX7_hoursGo ∈ lw_tbl := List.mem_of_getElem? (i := 1108) (by decide +kernel)
theorem lX7_226 : Cond.methodLink RX7 226 yX7_wentThen ∈ lw_tbl := List.mem_of_getElem? (i := 1125) (by decide +kernel)
theorem lX7_229 : Cond.methodLink RX7 229 yX7_whomBy ∈ lw_tbl := List.mem_of_getElem? (i := 1145) (by decide +kernel)
theorem lX7_236 : Cond.methodLink RX7 236 yX7_figuresOf ∈ lw_tbl := List.mem_of_getElem? (i := 1174) (by decide +kernel)
theorem lX7_240 : Cond.methodLink RX7 240 yX7_goesBack ∈ lw_tbl := List.mem_of_getElem? (i := 1178) (by decide +kernel)
theorem lX7_245 : Cond.methodLink RX7 245 yX7_lowest ∈ lw_tbl := List.mem_of_getElem? (i := 1192) (by decide +kernel)
theorem lX7_251 : Cond.methodLink RX7 251 yX7_byNobody ∈ lw_tbl := List.mem_of_getElem? (i := 1188) (by decide +kernel)
theorem lX7_257 : Cond.methodLink RX7 257 yX7_isAsSeen ∈ lw_tbl := List.mem_of_getElem? (i := 1216) (by decide +kernel)
theorem lX7_260 : Cond.methodLink RX7 260 yX7_numbersAt ∈ lw_tbl := List.mem_of_getElem? (i := 1212) (by decide +kernel)
theorem kJ6_265 : Cond.constant RJ6 265 (1431655765) ∈ lw_tbl := List.mem_of_getElem? (i := 583) (by decide +kernel)
theorem kJ6_266 : Cond.constant RJ6 266 (858993459) ∈ lw_tbl := List.mem_of_getElem? (i := 584) (by decide +kernel)
theorem kJ6_267 : Cond.constant RJ6 267 (252645135) ∈ lw_tbl := List.mem_of_getElem? (i := 585) (by decide +kernel)
theorem kX6_252 : Cond.constantLong RX6 252 (-1) ∈ lw_tbl := List.mem_of_getElem? (i := 708) (by decide +kernel)
theorem kX6_291 : Cond.constant RX6 291 (1103515245) ∈ lw_tbl := List.mem_of_getElem? (i := 775) (by decide +kernel)
theorem kX6_308 : Cond.constantLong RX6 308 (2) ∈ lw_tbl := List.mem_of_getElem? (i := 813) (by decide +kernel)
theorem kX7_53 : Cond.constantLong RX7 53 (127) ∈ lw_tbl := List.mem_of_getElem? (i := 936) (by decide +kernel)
theorem kX7_85 : Cond.constantLong RX7 85 (97) ∈ lw_tbl := List.mem_of_getElem? (i := 956) (by decide +kernel)
theorem kX7_87 : Cond.constantLong RX7 87 (122) ∈ lw_tbl := List.mem_of_getElem? (i := 957) (by decide +kernel)
theorem kX7_89 : Cond.constantLong RX7 89 (48) ∈ lw_tbl := List.mem_of_getElem? (i := 958) (by decide +kernel)
theorem kX7_91 : Cond.constantLong RX7 91 (57) ∈ lw_tbl := List.mem_of_getElem? (i := 959) (by decide +kernel)
theorem kX7_108 : Cond.constantLong RX7 108 (6) ∈ lw_tbl := List.mem_of_getElem? (i := 972) (by decide +kernel)
theorem kX7_129 : Cond.constantLong RX7 129 (200) ∈ lw_tbl := List.mem_of_getElem? (i := 1107) (by decide +kernel)
theorem kX7_164 : Cond.constantLong RX7 164 (7) ∈ lw_tbl := List.mem_of_getElem? (i := 1013) (by decide +kernel)
theorem kX7_169 : Cond.constantLong RX7 169 (3) ∈ lw_tbl := List.mem_of_getElem? (i := 1037) (by decide +kernel)
theorem kX7_171 : Cond.constantLong RX7 171 (60) ∈ lw_tbl := List.mem_of_getElem? (i := 1038) (by decide +kernel)
theorem kX7_173 : Cond.constantLong RX7 173 (9) ∈ lw_tbl := List.mem_of_getElem? (i := 1039) (by decide +kernel)
theorem kX7_175 : Cond.constantLong RX7 175 (199) ∈ lw_tbl := List.mem_of_getElem? (i := 1040) (by decide +kernel)
theorem kX7_177 : Cond.constantLong RX7 177 (20) ∈ lw_tbl := List.mem_of_getElem? (i := 1041) (by decide +kernel)
theorem kX7_187 : Cond.constantLong RX7 187 (40) ∈ lw_tbl := List.mem_of_getElem? (i := 1050) (by decide +kernel)
theorem kX7_189 : Cond.constantLong RX7 189 (4) ∈ lw_tbl := List.mem_of_getElem? (i := 1055) (by decide +kernel)
theorem kX7_194 : Cond.constantLong RX7 194 (100) ∈ lw_tbl := List.mem_of_getElem? (i := 1080) (by decide +kernel)
theorem kX7_224 : Cond.constantLong RX7 224 (2) ∈ lw_tbl := List.mem_of_getElem? (i := 1124) (by decide +kernel)
theorem kX7_232 : Cond.constant RX7 232 (1000000) ∈ lw_tbl := List.mem_of_getElem? (i := 1173) (by decide +kernel)
theorem kX7_243 : Cond.constantLong RX7 243 (10) ∈ lw_tbl := List.mem_of_getElem? (i := 1186) (by decide +kernel)
theorem kX7_249 : Cond.constantLong RX7 249 (8) ∈ lw_tbl := List.mem_of_getElem? (i := 1187) (by decide +kernel)
theorem kX7_255 : Cond.constantLong RX7 255 (-1) ∈ lw_tbl := List.mem_of_getElem? (i := 1195) (by decide +kernel)
theorem kX7_263 : Cond.constant RX7 263 (1103515245) ∈ lw_tbl := List.mem_of_getElem? (i := 1232) (by decide +kernel)
theorem qL_7 : Cond.classLink RL 7 RX6 ∈ lw_tbl := List.mem_of_getElem? (i := 69) (by decide +kernel)
theorem qL_10 : Cond.classLink RL 10 RX7 ∈ lw_tbl := List.mem_of_getElem? (i := 835) (by decide +kernel)
theorem qX0_9 : Cond.classLink RX0 9 RX5 ∈ lw_tbl := List.mem_of_getElem? (i := 83) (by decide +kernel)
theorem qX1_9 : Cond.classLink RX1 9 RX4 ∈ lw_tbl := List.mem_of_getElem? (i := 160) (by decide +kernel)
theorem qX6_7 : Cond.classLink RX6 7 RX0 ∈ lw_tbl := List.mem_of_getElem? (i := 77) (by decide +kernel)
theorem qX6_30 : Cond.classLink RX6 30 RX1 ∈ lw_tbl := List.mem_of_getElem? (i := 154) (by decide +kernel)
theorem qX6_44 : Cond.classLink RX6 44 RX2 ∈ lw_tbl := List.mem_of_getElem? (i := 207) (by decide +kernel)
theorem qX6_59 : Cond.classLink RX6 59 RX3 ∈ lw_tbl := List.mem_of_getElem? (i := 227) (by decide +kernel)
theorem nX0 : Cond.instantiable RX0 8 ∈ lw_tbl ∧ Cond.initialized RX0 ∈ lw_tbl := ⟨List.mem_of_getElem? (i := 78) (by decide +kernel), List.mem_of_getElem? (i := 56) (by decide +kernel)⟩
theorem nX1 : Cond.instantiable RX1 9 ∈ lw_tbl ∧ Cond.initialized RX1 ∈ lw_tbl := ⟨List.mem_of_getElem? (i := 155) (by decide +kernel), List.mem_of_getElem? (i := 58) (by decide +kernel)⟩
theorem nX2 : Cond.instantiable RX2 4 ∈ lw_tbl ∧ Cond.initialized RX2 ∈ lw_tbl := ⟨List.mem_of_getElem? (i := 208) (by decide +kernel), List.mem_of_getElem? (i := 60) (by decide +kernel)⟩
theorem nX3 : Cond.instantiable RX3 3 ∈ lw_tbl ∧ Cond.initialized RX3 ∈ lw_tbl := ⟨List.mem_of_getElem? (i := 229) (by decide +kernel), List.mem_of_getElem? (i := 61) (by decide +kernel)⟩
theorem nX4 : Cond.instantiable RX4 2 ∈ lw_tbl ∧ Cond.initialized RX4 ∈ lw_tbl := ⟨List.mem_of_getElem? (i := 161) (by decide +kernel), List.mem_of_getElem? (i := 59) (by decide +kernel)⟩
theorem nX5 : Cond.instantiable RX5 6 ∈ lw_tbl ∧ Cond.initialized RX5 ∈ lw_tbl := ⟨List.mem_of_getElem? (i := 85) (by decide +kernel), List.mem_of_getElem? (i := 57) (by decide +kernel)⟩
theorem nX6 : Cond.instantiable RX6 13 ∈ lw_tbl ∧ Cond.initialized RX6 ∈ lw_tbl := ⟨List.mem_of_getElem? (i := 70) (by decide +kernel), List.mem_of_getElem? (i := 55) (by decide +kernel)⟩
theorem nX7 : Cond.instantiable RX7 30 ∈ lw_tbl ∧ Cond.initialized RX7 ∈ lw_tbl := ⟨List.mem_of_getElem? (i := 836) (by decide +kernel), List.mem_of_getElem? (i := 62) (by decide +kernel)⟩
theorem ao_X5 : Cond.arrayOver (.object RX5) ∈ lw_tbl := List.mem_of_getElem? (i := 84) (by decide +kernel)
theorem a_int : Cond.arrayClass .int ∈ lw_tbl := List.mem_of_getElem? (i := 115) (by decide +kernel)
theorem ao_X0 : Cond.arrayOver (.object RX0) ∈ lw_tbl := List.mem_of_getElem? (i := 153) (by decide +kernel)
theorem a_boolean : Cond.arrayClass .boolean ∈ lw_tbl := List.mem_of_getElem? (i := 174) (by decide +kernel)
theorem a_byte : Cond.arrayClass .byte ∈ lw_tbl := List.mem_of_getElem? (i := 175) (by decide +kernel)
theorem ao_X3 : Cond.arrayOver (.object RX3) ∈ lw_tbl := List.mem_of_getElem? (i := 228) (by decide +kernel)
theorem a_long : Cond.arrayClass .long ∈ lw_tbl := List.mem_of_getElem? (i := 246) (by decide +kernel)
theorem w_objI : Cond.instanceMethod objectInit ∈ lw_tbl := List.mem_of_getElem? (i := 75) (by decide +kernel)
theorem w_objC : Cond.code objectInit ⟨#[0xb1]⟩ 1 none ∈ lw_tbl := List.mem_of_getElem? (i := 76) (by decide +kernel)
end
