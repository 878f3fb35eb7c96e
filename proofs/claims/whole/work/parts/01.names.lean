-- ===== PART A: goes FIRST, ahead of the names: the tables' words, and 'selects' of the private methods out of them =====
/-- a private method of a class that the tables say can be made, by its rows of tables_1 -/
def lw_okq (q : MethodName × Nat) : Prop := (q.1.cls ≠ "java/lang/invoke/MethodHandle" ∧ q.1.cls ≠ "java/lang/invoke/VarHandle") ∧ Cond.instantiable q.1.cls q.2 ∈ tables_1 ∧ Cond.privateMethod q.1 ∈ tables_1 ∧ Cond.instanceMethod q.1 ∈ tables_1
theorem lw_p0 : lw_okq (⟨"GeyserNerves$Reader", "advance", "()V"⟩, 9) := ⟨⟨by decide +kernel, by decide +kernel⟩, List.mem_of_getElem? (i := 101) (by decide +kernel), List.mem_of_getElem? (i := 261) (by decide +kernel), List.mem_of_getElem? (i := 262) (by decide +kernel)⟩
theorem lw_p1 : lw_okq (⟨"GeyserNerves$Reader", "fail", "(II)V"⟩, 9) := ⟨⟨by decide +kernel, by decide +kernel⟩, List.mem_of_getElem? (i := 101) (by decide +kernel), List.mem_of_getElem? (i := 275) (by decide +kernel), List.mem_of_getElem? (i := 276) (by decide +kernel)⟩
theorem lw_p2 : lw_okq (⟨"GeyserNerves$Reader", "takeLine", "(LGeyserNerves$Ground;)V"⟩, 9) := ⟨⟨by decide +kernel, by decide +kernel⟩, List.mem_of_getElem? (i := 101) (by decide +kernel), List.mem_of_getElem? (i := 279) (by decide +kernel), List.mem_of_getElem? (i := 280) (by decide +kernel)⟩
theorem lw_p3 : lw_okq (⟨"GeyserNerves$Reader", "lineOfName", "()I"⟩, 9) := ⟨⟨by decide +kernel, by decide +kernel⟩, List.mem_of_getElem? (i := 101) (by decide +kernel), List.mem_of_getElem? (i := 283) (by decide +kernel), List.mem_of_getElem? (i := 284) (by decide +kernel)⟩
theorem lw_p4 : lw_okq (⟨"GeyserNerves$Reader", "nameIs", "(Ljava/lang/String;)Z"⟩, 9) := ⟨⟨by decide +kernel, by decide +kernel⟩, List.mem_of_getElem? (i := 101) (by decide +kernel), List.mem_of_getElem? (i := 288) (by decide +kernel), List.mem_of_getElem? (i := 289) (by decide +kernel)⟩
theorem lw_p5 : lw_okq (⟨"GeyserNerves$Reader", "takeFlow", "(LGeyserNerves$Ground;)V"⟩, 9) := ⟨⟨by decide +kernel, by decide +kernel⟩, List.mem_of_getElem? (i := 101) (by decide +kernel), List.mem_of_getElem? (i := 346) (by decide +kernel), List.mem_of_getElem? (i := 347) (by decide +kernel)⟩
theorem lw_p6 : lw_okq (⟨"GeyserNerves$Reader", "passName", "()V"⟩, 9) := ⟨⟨by decide +kernel, by decide +kernel⟩, List.mem_of_getElem? (i := 101) (by decide +kernel), List.mem_of_getElem? (i := 350) (by decide +kernel), List.mem_of_getElem? (i := 351) (by decide +kernel)⟩
theorem lw_p7 : lw_okq (⟨"GeyserNerves$Reader", "takeNumber", "(II)I"⟩, 9) := ⟨⟨by decide +kernel, by decide +kernel⟩, List.mem_of_getElem? (i := 101) (by decide +kernel), List.mem_of_getElem? (i := 354) (by decide +kernel), List.mem_of_getElem? (i := 355) (by decide +kernel)⟩
theorem lw_p8 : lw_okq (⟨"GeyserNerves$Reader", "takeStop", "()V"⟩, 9) := ⟨⟨by decide +kernel, by decide +kernel⟩, List.mem_of_getElem? (i := 101) (by decide +kernel), List.mem_of_getElem? (i := 359) (by decide +kernel), List.mem_of_getElem? (i := 360) (by decide +kernel)⟩
theorem lw_p9 : lw_okq (⟨"GeyserNerves$Reader", "takeCalm", "(LGeyserNerves$Ground;)V"⟩, 9) := ⟨⟨by decide +kernel, by decide +kernel⟩, List.mem_of_getElem? (i := 101) (by decide +kernel), List.mem_of_getElem? (i := 363) (by decide +kernel), List.mem_of_getElem? (i := 364) (by decide +kernel)⟩
theorem lw_p10 : lw_okq (⟨"GeyserNerves$Reader", "takeHour", "(LGeyserNerves$Ground;)V"⟩, 9) := ⟨⟨by decide +kernel, by decide +kernel⟩, List.mem_of_getElem? (i := 101) (by decide +kernel), List.mem_of_getElem? (i := 367) (by decide +kernel), List.mem_of_getElem? (i := 368) (by decide +kernel)⟩
theorem lw_p11 : lw_okq (⟨"GeyserNerves$Reader", "takeVent", "(LGeyserNerves$Ground;I)V"⟩, 9) := ⟨⟨by decide +kernel, by decide +kernel⟩, List.mem_of_getElem? (i := 101) (by decide +kernel), List.mem_of_getElem? (i := 375) (by decide +kernel), List.mem_of_getElem? (i := 376) (by decide +kernel)⟩
theorem lw_p12 : lw_okq (⟨"GeyserNerves", "afresh", "()LGeyserNerves$Ground;"⟩, 13) := ⟨⟨by decide +kernel, by decide +kernel⟩, List.mem_of_getElem? (i := 16) (by decide +kernel), List.mem_of_getElem? (i := 540) (by decide +kernel), List.mem_of_getElem? (i := 541) (by decide +kernel)⟩
theorem lw_p13 : lw_okq (⟨"GeyserNerves", "upsByRoute", "(II)I"⟩, 13) := ⟨⟨by decide +kernel, by decide +kernel⟩, List.mem_of_getElem? (i := 16) (by decide +kernel), List.mem_of_getElem? (i := 595) (by decide +kernel), List.mem_of_getElem? (i := 596) (by decide +kernel)⟩
theorem lw_p14 : lw_okq (⟨"GeyserNerves", "companyOnRoute", "(III)I"⟩, 13) := ⟨⟨by decide +kernel, by decide +kernel⟩, List.mem_of_getElem? (i := 16) (by decide +kernel), List.mem_of_getElem? (i := 599) (by decide +kernel), List.mem_of_getElem? (i := 600) (by decide +kernel)⟩
theorem lw_p15 : lw_okq (⟨"GeyserNerves", "upsWithWatchers", "(III)I"⟩, 13) := ⟨⟨by decide +kernel, by decide +kernel⟩, List.mem_of_getElem? (i := 16) (by decide +kernel), List.mem_of_getElem? (i := 618) (by decide +kernel), List.mem_of_getElem? (i := 619) (by decide +kernel)⟩
def lw_privs_1 : List (MethodName × Nat) := [(⟨"GeyserNerves$Reader", "advance", "()V"⟩, 9), (⟨"GeyserNerves$Reader", "fail", "(II)V"⟩, 9), (⟨"GeyserNerves$Reader", "takeLine", "(LGeyserNerves$Ground;)V"⟩, 9), (⟨"GeyserNerves$Reader", "lineOfName", "()I"⟩, 9), (⟨"GeyserNerves$Reader", "nameIs", "(Ljava/lang/String;)Z"⟩, 9), (⟨"GeyserNerves$Reader", "takeFlow", "(LGeyserNerves$Ground;)V"⟩, 9), (⟨"GeyserNerves$Reader", "passName", "()V"⟩, 9), (⟨"GeyserNerves$Reader", "takeNumber", "(II)I"⟩, 9), (⟨"GeyserNerves$Reader", "takeStop", "()V"⟩, 9), (⟨"GeyserNerves$Reader", "takeCalm", "(LGeyserNerves$Ground;)V"⟩, 9), (⟨"GeyserNerves$Reader", "takeHour", "(LGeyserNerves$Ground;)V"⟩, 9), (⟨"GeyserNerves$Reader", "takeVent", "(LGeyserNerves$Ground;I)V"⟩, 9), (⟨"GeyserNerves", "afresh", "()LGeyserNerves$Ground;"⟩, 13), (⟨"GeyserNerves", "upsByRoute", "(II)I"⟩, 13), (⟨"GeyserNerves", "companyOnRoute", "(III)I"⟩, 13), (⟨"GeyserNerves", "upsWithWatchers", "(III)I"⟩, 13)]
theorem lw_r1 : ∀ q ∈ lw_privs_1, lw_okq q := List.forall_mem_cons.mpr ⟨lw_p0, List.forall_mem_cons.mpr ⟨lw_p1, List.forall_mem_cons.mpr ⟨lw_p2, List.forall_mem_cons.mpr ⟨lw_p3, List.forall_mem_cons.mpr ⟨lw_p4, List.forall_mem_cons.mpr ⟨lw_p5, List.forall_mem_cons.mpr ⟨lw_p6, List.forall_mem_cons.mpr ⟨lw_p7, List.forall_mem_cons.mpr ⟨lw_p8, List.forall_mem_cons.mpr ⟨lw_p9, List.forall_mem_cons.mpr ⟨lw_p10, List.forall_mem_cons.mpr ⟨lw_p11, List.forall_mem_cons.mpr ⟨lw_p12, List.forall_mem_cons.mpr ⟨lw_p13, List.forall_mem_cons.mpr ⟨lw_p14, List.forall_mem_cons.mpr ⟨lw_p15, fun _ h => absurd h List.not_mem_nil⟩⟩⟩⟩⟩⟩⟩⟩⟩⟩⟩⟩⟩⟩⟩⟩
theorem lw_p16 : lw_okq (⟨"GeyserNerves", "leastFor", "(IIII)I"⟩, 13) := ⟨⟨by decide +kernel, by decide +kernel⟩, List.mem_of_getElem? (i := 16) (by decide +kernel), List.mem_of_getElem? (i := 634) (by decide +kernel), List.mem_of_getElem? (i := 635) (by decide +kernel)⟩
theorem lw_p17 : lw_okq (⟨"GeyserNerves", "mostFrom", "(II)I"⟩, 13) := ⟨⟨by decide +kernel, by decide +kernel⟩, List.mem_of_getElem? (i := 16) (by decide +kernel), List.mem_of_getElem? (i := 643) (by decide +kernel), List.mem_of_getElem? (i := 644) (by decide +kernel)⟩
theorem lw_p18 : lw_okq (⟨"GeyserNerves", "upsByOdds", "(III)I"⟩, 13) := ⟨⟨by decide +kernel, by decide +kernel⟩, List.mem_of_getElem? (i := 16) (by decide +kernel), List.mem_of_getElem? (i := 656) (by decide +kernel), List.mem_of_getElem? (i := 657) (by decide +kernel)⟩
theorem lw_p19 : lw_okq (⟨"GeyserNerves", "goesAsSeen", "(LGeyserNerves$Ground;)Z"⟩, 13) := ⟨⟨by decide +kernel, by decide +kernel⟩, List.mem_of_getElem? (i := 16) (by decide +kernel), List.mem_of_getElem? (i := 689) (by decide +kernel), List.mem_of_getElem? (i := 690) (by decide +kernel)⟩
theorem lw_p20 : lw_okq (⟨"GeyserNerves", "goesAsSeenByNerve", "(II)Z"⟩, 13) := ⟨⟨by decide +kernel, by decide +kernel⟩, List.mem_of_getElem? (i := 16) (by decide +kernel), List.mem_of_getElem? (i := 702) (by decide +kernel), List.mem_of_getElem? (i := 703) (by decide +kernel)⟩
theorem lw_p21 : lw_okq (⟨"GeyserNerves", "hoursOf", "(I)J"⟩, 13) := ⟨⟨by decide +kernel, by decide +kernel⟩, List.mem_of_getElem? (i := 16) (by decide +kernel), List.mem_of_getElem? (i := 710) (by decide +kernel), List.mem_of_getElem? (i := 711) (by decide +kernel)⟩
theorem lw_p22 : lw_okq (⟨"GeyserNerves", "leftAtWorst", "(II)I"⟩, 13) := ⟨⟨by decide +kernel, by decide +kernel⟩, List.mem_of_getElem? (i := 16) (by decide +kernel), List.mem_of_getElem? (i := 714) (by decide +kernel), List.mem_of_getElem? (i := 715) (by decide +kernel)⟩
theorem lw_p23 : lw_okq (⟨"GeyserNervesModel", "readsOn", "()V"⟩, 30) := ⟨⟨by decide +kernel, by decide +kernel⟩, List.mem_of_getElem? (i := 782) (by decide +kernel), List.mem_of_getElem? (i := 895) (by decide +kernel), List.mem_of_getElem? (i := 896) (by decide +kernel)⟩
theorem lw_p24 : lw_okq (⟨"GeyserNervesModel", "byteAt", "(I)I"⟩, 30) := ⟨⟨by decide +kernel, by decide +kernel⟩, List.mem_of_getElem? (i := 782) (by decide +kernel), List.mem_of_getElem? (i := 899) (by decide +kernel), List.mem_of_getElem? (i := 900) (by decide +kernel)⟩
theorem lw_p25 : lw_okq (⟨"GeyserNervesModel", "fails", "(I)V"⟩, 30) := ⟨⟨by decide +kernel, by decide +kernel⟩, List.mem_of_getElem? (i := 782) (by decide +kernel), List.mem_of_getElem? (i := 907) (by decide +kernel), List.mem_of_getElem? (i := 908) (by decide +kernel)⟩
theorem lw_p26 : lw_okq (⟨"GeyserNervesModel", "readLine", "()V"⟩, 30) := ⟨⟨by decide +kernel, by decide +kernel⟩, List.mem_of_getElem? (i := 782) (by decide +kernel), List.mem_of_getElem? (i := 911) (by decide +kernel), List.mem_of_getElem? (i := 912) (by decide +kernel)⟩
theorem lw_p27 : lw_okq (⟨"GeyserNervesModel", "nameHere", "()I"⟩, 30) := ⟨⟨by decide +kernel, by decide +kernel⟩, List.mem_of_getElem? (i := 782) (by decide +kernel), List.mem_of_getElem? (i := 915) (by decide +kernel), List.mem_of_getElem? (i := 916) (by decide +kernel)⟩
theorem lw_p28 : lw_okq (⟨"GeyserNervesModel", "readMore", "(I)V"⟩, 30) := ⟨⟨by decide +kernel, by decide +kernel⟩, List.mem_of_getElem? (i := 782) (by decide +kernel), List.mem_of_getElem? (i := 920) (by decide +kernel), List.mem_of_getElem? (i := 921) (by decide +kernel)⟩
theorem lw_p29 : lw_okq (⟨"GeyserNervesModel", "number", "(II)I"⟩, 30) := ⟨⟨by decide +kernel, by decide +kernel⟩, List.mem_of_getElem? (i := 782) (by decide +kernel), List.mem_of_getElem? (i := 924) (by decide +kernel), List.mem_of_getElem? (i := 925) (by decide +kernel)⟩
theorem lw_p30 : lw_okq (⟨"GeyserNervesModel", "sumOn", "(II)I"⟩, 30) := ⟨⟨by decide +kernel, by decide +kernel⟩, List.mem_of_getElem? (i := 782) (by decide +kernel), List.mem_of_getElem? (i := 936) (by decide +kernel), List.mem_of_getElem? (i := 937) (by decide +kernel)⟩
theorem lw_p31 : lw_okq (⟨"GeyserNervesModel", "watchersOn", "(I)I"⟩, 30) := ⟨⟨by decide +kernel, by decide +kernel⟩, List.mem_of_getElem? (i := 782) (by decide +kernel), List.mem_of_getElem? (i := 940) (by decide +kernel), List.mem_of_getElem? (i := 941) (by decide +kernel)⟩
def lw_privs_2 : List (MethodName × Nat) := [(⟨"GeyserNerves", "leastFor", "(IIII)I"⟩, 13), (⟨"GeyserNerves", "mostFrom", "(II)I"⟩, 13), (⟨"GeyserNerves", "upsByOdds", "(III)I"⟩, 13), (⟨"GeyserNerves", "goesAsSeen", "(LGeyserNerves$Ground;)Z"⟩, 13), (⟨"GeyserNerves", "goesAsSeenByNerve", "(II)Z"⟩, 13), (⟨"GeyserNerves", "hoursOf", "(I)J"⟩, 13), (⟨"GeyserNerves", "leftAtWorst", "(II)I"⟩, 13), (⟨"GeyserNervesModel", "readsOn", "()V"⟩, 30), (⟨"GeyserNervesModel", "byteAt", "(I)I"⟩, 30), (⟨"GeyserNervesModel", "fails", "(I)V"⟩, 30), (⟨"GeyserNervesModel", "readLine", "()V"⟩, 30), (⟨"GeyserNervesModel", "nameHere", "()I"⟩, 30), (⟨"GeyserNervesModel", "readMore", "(I)V"⟩, 30), (⟨"GeyserNervesModel", "number", "(II)I"⟩, 30), (⟨"GeyserNervesModel", "sumOn", "(II)I"⟩, 30), (⟨"GeyserNervesModel", "watchersOn", "(I)I"⟩, 30)]
theorem lw_r2 : ∀ q ∈ lw_privs_2, lw_okq q := List.forall_mem_cons.mpr ⟨lw_p16, List.forall_mem_cons.mpr ⟨lw_p17, List.forall_mem_cons.mpr ⟨lw_p18, List.forall_mem_cons.mpr ⟨lw_p19, List.forall_mem_cons.mpr ⟨lw_p20, List.forall_mem_cons.mpr ⟨lw_p21, List.forall_mem_cons.mpr ⟨lw_p22, List.forall_mem_cons.mpr ⟨lw_p23, List.forall_mem_cons.mpr ⟨lw_p24, List.forall_mem_cons.mpr ⟨lw_p25, List.forall_mem_cons.mpr ⟨lw_p26, List.forall_mem_cons.mpr ⟨lw_p27, List.forall_mem_cons.mpr ⟨lw_p28, List.forall_mem_cons.mpr ⟨lw_p29, List.forall_mem_cons.mpr ⟨lw_p30, List.forall_mem_cons.mpr ⟨lw_p31, fun _ h => absurd h List.not_mem_nil⟩⟩⟩⟩⟩⟩⟩⟩⟩⟩⟩⟩⟩⟩⟩⟩
theorem lw_p32 : lw_okq (⟨"GeyserNervesModel", "rowOn", "(I)I"⟩, 30) := ⟨⟨by decide +kernel, by decide +kernel⟩, List.mem_of_getElem? (i := 782) (by decide +kernel), List.mem_of_getElem? (i := 944) (by decide +kernel), List.mem_of_getElem? (i := 945) (by decide +kernel)⟩
theorem lw_p33 : lw_okq (⟨"GeyserNervesModel", "whomOn", "(I)I"⟩, 30) := ⟨⟨by decide +kernel, by decide +kernel⟩, List.mem_of_getElem? (i := 782) (by decide +kernel), List.mem_of_getElem? (i := 948) (by decide +kernel), List.mem_of_getElem? (i := 949) (by decide +kernel)⟩
theorem lw_p34 : lw_okq (⟨"GeyserNervesModel", "isGeyser", "(I)Z"⟩, 30) := ⟨⟨by decide +kernel, by decide +kernel⟩, List.mem_of_getElem? (i := 782) (by decide +kernel), List.mem_of_getElem? (i := 956) (by decide +kernel), List.mem_of_getElem? (i := 957) (by decide +kernel)⟩
theorem lw_p35 : lw_okq (⟨"GeyserNervesModel", "shareOn", "(II)I"⟩, 30) := ⟨⟨by decide +kernel, by decide +kernel⟩, List.mem_of_getElem? (i := 782) (by decide +kernel), List.mem_of_getElem? (i := 961) (by decide +kernel), List.mem_of_getElem? (i := 962) (by decide +kernel)⟩
theorem lw_p36 : lw_okq (⟨"GeyserNervesModel", "mindsOn", "(III)I"⟩, 30) := ⟨⟨by decide +kernel, by decide +kernel⟩, List.mem_of_getElem? (i := 782) (by decide +kernel), List.mem_of_getElem? (i := 965) (by decide +kernel), List.mem_of_getElem? (i := 966) (by decide +kernel)⟩
theorem lw_p37 : lw_okq (⟨"GeyserNervesModel", "isRow", "(I)Z"⟩, 30) := ⟨⟨by decide +kernel, by decide +kernel⟩, List.mem_of_getElem? (i := 782) (by decide +kernel), List.mem_of_getElem? (i := 973) (by decide +kernel), List.mem_of_getElem? (i := 974) (by decide +kernel)⟩
theorem lw_p38 : lw_okq (⟨"GeyserNervesModel", "puts", "(ZIII)I"⟩, 30) := ⟨⟨by decide +kernel, by decide +kernel⟩, List.mem_of_getElem? (i := 782) (by decide +kernel), List.mem_of_getElem? (i := 989) (by decide +kernel), List.mem_of_getElem? (i := 990) (by decide +kernel)⟩
theorem lw_p39 : lw_okq (⟨"GeyserNervesModel", "adds", "(II)I"⟩, 30) := ⟨⟨by decide +kernel, by decide +kernel⟩, List.mem_of_getElem? (i := 782) (by decide +kernel), List.mem_of_getElem? (i := 1015) (by decide +kernel), List.mem_of_getElem? (i := 1016) (by decide +kernel)⟩
theorem lw_p40 : lw_okq (⟨"GeyserNervesModel", "planOn", "(I)I"⟩, 30) := ⟨⟨by decide +kernel, by decide +kernel⟩, List.mem_of_getElem? (i := 782) (by decide +kernel), List.mem_of_getElem? (i := 1028) (by decide +kernel), List.mem_of_getElem? (i := 1029) (by decide +kernel)⟩
theorem lw_p41 : lw_okq (⟨"GeyserNervesModel", "hourOn", "(III)I"⟩, 30) := ⟨⟨by decide +kernel, by decide +kernel⟩, List.mem_of_getElem? (i := 782) (by decide +kernel), List.mem_of_getElem? (i := 1032) (by decide +kernel), List.mem_of_getElem? (i := 1033) (by decide +kernel)⟩
theorem lw_p42 : lw_okq (⟨"GeyserNervesModel", "goesUp", "(IIII)Z"⟩, 30) := ⟨⟨by decide +kernel, by decide +kernel⟩, List.mem_of_getElem? (i := 782) (by decide +kernel), List.mem_of_getElem? (i := 1036) (by decide +kernel), List.mem_of_getElem? (i := 1037) (by decide +kernel)⟩
theorem lw_p43 : lw_okq (⟨"GeyserNervesModel", "fadesOn", "(II)I"⟩, 30) := ⟨⟨by decide +kernel, by decide +kernel⟩, List.mem_of_getElem? (i := 782) (by decide +kernel), List.mem_of_getElem? (i := 1040) (by decide +kernel), List.mem_of_getElem? (i := 1041) (by decide +kernel)⟩
theorem lw_p44 : lw_okq (⟨"GeyserNervesModel", "hoursGo", "(II)I"⟩, 30) := ⟨⟨by decide +kernel, by decide +kernel⟩, List.mem_of_getElem? (i := 782) (by decide +kernel), List.mem_of_getElem? (i := 1055) (by decide +kernel), List.mem_of_getElem? (i := 1056) (by decide +kernel)⟩
theorem lw_p45 : lw_okq (⟨"GeyserNervesModel", "copies", "(II)V"⟩, 30) := ⟨⟨by decide +kernel, by decide +kernel⟩, List.mem_of_getElem? (i := 782) (by decide +kernel), List.mem_of_getElem? (i := 1059) (by decide +kernel), List.mem_of_getElem? (i := 1060) (by decide +kernel)⟩
theorem lw_p46 : lw_okq (⟨"GeyserNervesModel", "feels", "(I)V"⟩, 30) := ⟨⟨by decide +kernel, by decide +kernel⟩, List.mem_of_getElem? (i := 782) (by decide +kernel), List.mem_of_getElem? (i := 1063) (by decide +kernel), List.mem_of_getElem? (i := 1064) (by decide +kernel)⟩
theorem lw_p47 : lw_okq (⟨"GeyserNervesModel", "wentThen", "(I)I"⟩, 30) := ⟨⟨by decide +kernel, by decide +kernel⟩, List.mem_of_getElem? (i := 782) (by decide +kernel), List.mem_of_getElem? (i := 1072) (by decide +kernel), List.mem_of_getElem? (i := 1073) (by decide +kernel)⟩
def lw_privs_3 : List (MethodName × Nat) := [(⟨"GeyserNervesModel", "rowOn", "(I)I"⟩, 30), (⟨"GeyserNervesModel", "whomOn", "(I)I"⟩, 30), (⟨"GeyserNervesModel", "isGeyser", "(I)Z"⟩, 30), (⟨"GeyserNervesModel", "shareOn", "(II)I"⟩, 30), (⟨"GeyserNervesModel", "mindsOn", "(III)I"⟩, 30), (⟨"GeyserNervesModel", "isRow", "(I)Z"⟩, 30), (⟨"GeyserNervesModel", "puts", "(ZIII)I"⟩, 30), (⟨"GeyserNervesModel", "adds", "(II)I"⟩, 30), (⟨"GeyserNervesModel", "planOn", "(I)I"⟩, 30), (⟨"GeyserNervesModel", "hourOn", "(III)I"⟩, 30), (⟨"GeyserNervesModel", "goesUp", "(IIII)Z"⟩, 30), (⟨"GeyserNervesModel", "fadesOn", "(II)I"⟩, 30), (⟨"GeyserNervesModel", "hoursGo", "(II)I"⟩, 30), (⟨"GeyserNervesModel", "copies", "(II)V"⟩, 30), (⟨"GeyserNervesModel", "feels", "(I)V"⟩, 30), (⟨"GeyserNervesModel", "wentThen", "(I)I"⟩, 30)]
theorem lw_r3 : ∀ q ∈ lw_privs_3, lw_okq q := List.forall_mem_cons.mpr ⟨lw_p32, List.forall_mem_cons.mpr ⟨lw_p33, List.forall_mem_cons.mpr ⟨lw_p34, List.forall_mem_cons.mpr ⟨lw_p35, List.forall_mem_cons.mpr ⟨lw_p36, List.forall_mem_cons.mpr ⟨lw_p37, List.forall_mem_cons.mpr ⟨lw_p38, List.forall_mem_cons.mpr ⟨lw_p39, List.forall_mem_cons.mpr ⟨lw_p40, List.forall_mem_cons.mpr ⟨lw_p41, List.forall_mem_cons.mpr ⟨lw_p42, List.forall_mem_cons.mpr ⟨lw_p43, List.forall_mem_cons.mpr ⟨lw_p44, List.forall_mem_cons.mpr ⟨lw_p45, List.forall_mem_cons.mpr ⟨lw_p46, List.forall_mem_cons.mpr ⟨lw_p47, fun _ h => absurd h List.not_mem_nil⟩⟩⟩⟩⟩⟩⟩⟩⟩⟩⟩⟩⟩⟩⟩⟩
theorem lw_p48 : lw_okq (⟨"GeyserNervesModel", "whomBy", "(I)I"⟩, 30) := ⟨⟨by decide +kernel, by decide +kernel⟩, List.mem_of_getElem? (i := 782) (by decide +kernel), List.mem_of_getElem? (i := 1092) (by decide +kernel), List.mem_of_getElem? (i := 1093) (by decide +kernel)⟩
theorem lw_p49 : lw_okq (⟨"GeyserNervesModel", "figuresOf", "(III)V"⟩, 30) := ⟨⟨by decide +kernel, by decide +kernel⟩, List.mem_of_getElem? (i := 782) (by decide +kernel), List.mem_of_getElem? (i := 1121) (by decide +kernel), List.mem_of_getElem? (i := 1122) (by decide +kernel)⟩
theorem lw_p50 : lw_okq (⟨"GeyserNervesModel", "goesBack", "(III)V"⟩, 30) := ⟨⟨by decide +kernel, by decide +kernel⟩, List.mem_of_getElem? (i := 782) (by decide +kernel), List.mem_of_getElem? (i := 1125) (by decide +kernel), List.mem_of_getElem? (i := 1126) (by decide +kernel)⟩
theorem lw_p51 : lw_okq (⟨"GeyserNervesModel", "byNobody", "(IIII)J"⟩, 30) := ⟨⟨by decide +kernel, by decide +kernel⟩, List.mem_of_getElem? (i := 782) (by decide +kernel), List.mem_of_getElem? (i := 1135) (by decide +kernel), List.mem_of_getElem? (i := 1136) (by decide +kernel)⟩
theorem lw_p52 : lw_okq (⟨"GeyserNervesModel", "numbersAt", "(II)I"⟩, 30) := ⟨⟨by decide +kernel, by decide +kernel⟩, List.mem_of_getElem? (i := 782) (by decide +kernel), List.mem_of_getElem? (i := 1159) (by decide +kernel), List.mem_of_getElem? (i := 1160) (by decide +kernel)⟩
theorem lw_p53 : lw_okq (⟨"GeyserNervesModel", "isAsSeen", "(I)Z"⟩, 30) := ⟨⟨by decide +kernel, by decide +kernel⟩, List.mem_of_getElem? (i := 782) (by decide +kernel), List.mem_of_getElem? (i := 1163) (by decide +kernel), List.mem_of_getElem? (i := 1164) (by decide +kernel)⟩
def lw_privs_4 : List (MethodName × Nat) := [(⟨"GeyserNervesModel", "whomBy", "(I)I"⟩, 30), (⟨"GeyserNervesModel", "figuresOf", "(III)V"⟩, 30), (⟨"GeyserNervesModel", "goesBack", "(III)V"⟩, 30), (⟨"GeyserNervesModel", "byNobody", "(IIII)J"⟩, 30), (⟨"GeyserNervesModel", "numbersAt", "(II)I"⟩, 30), (⟨"GeyserNervesModel", "isAsSeen", "(I)Z"⟩, 30)]
theorem lw_r4 : ∀ q ∈ lw_privs_4, lw_okq q := List.forall_mem_cons.mpr ⟨lw_p48, List.forall_mem_cons.mpr ⟨lw_p49, List.forall_mem_cons.mpr ⟨lw_p50, List.forall_mem_cons.mpr ⟨lw_p51, List.forall_mem_cons.mpr ⟨lw_p52, List.forall_mem_cons.mpr ⟨lw_p53, fun _ h => absurd h List.not_mem_nil⟩⟩⟩⟩⟩⟩
def lw_privs : List (MethodName × Nat) := lw_privs_1 ++ (lw_privs_2 ++ (lw_privs_3 ++ (lw_privs_4)))
def lw_tbl : List Cond := k2_sels lw_privs ++ tables_1
theorem lw_privs_ok : ∀ q ∈ lw_privs, lw_okq q := by
  show ∀ q ∈ lw_privs_1 ++ (lw_privs_2 ++ (lw_privs_3 ++ (lw_privs_4))), lw_okq q
  exact List.forall_mem_append.mpr ⟨lw_r1, List.forall_mem_append.mpr ⟨lw_r2, List.forall_mem_append.mpr ⟨lw_r3, lw_r4⟩⟩⟩

def RX0 : String := "GeyserNerves$Ground"
def TX0 : u_T := fun k => match k with
  | 0 => ("GeyserNerves$Ground", "vents", "[LGeyserNerves$Vent;", true)
  | 1 => ("GeyserNerves$Ground", "watchers", "[I", true)
  | 2 => ("GeyserNerves$Ground", "company", "[I", true)
  | 3 => ("GeyserNerves$Ground", "ventCount", "I", false)
  | 4 => ("GeyserNerves$Ground", "rowCount", "I", false)
  | 5 => ("GeyserNerves$Ground", "hour", "I", false)
  | 6 => ("GeyserNerves$Ground", "flow", "I", false)
  | _ => ("GeyserNerves$Ground", "calm", "I", false)
def tyX0 : Nat → FieldType := fun k => match k with
  | 0 => .array (.object "GeyserNerves$Vent")
  | 1 => .array .int
  | 2 => .array .int
  | 3 => .int
  | 4 => .int
  | 5 => .int
  | 6 => .int
  | _ => .int
abbrev wsX00 : List Cond := u_ws RX0 TX0 8
theorem nmX0 : ∀ a, a < 8 → ∀ b, b < 8 → a ≠ b → (TX0 a).2.1 ≠ (TX0 b).2.1 := by decide +kernel
theorem tyX0_ok : ∀ k, k < 8 → parseFieldDescriptor (TX0 k).2.2.1 = some (tyX0 k) := by decide +kernel
abbrev cX0_init : ByteArray := prog_2_method_1_code
def yX0_init : MethodName := ⟨RX0, "<init>", "()V"⟩
abbrev cX0_clear : ByteArray := prog_2_method_2_code
def yX0_clear : MethodName := ⟨RX0, "clear", "()V"⟩
abbrev cX0_become : ByteArray := prog_2_method_3_code
def yX0_become : MethodName := ⟨RX0, "become", "(LGeyserNerves$Ground;)V"⟩
abbrev cX0_takeMoods : ByteArray := prog_2_method_4_code
def yX0_takeMoods : MethodName := ⟨RX0, "takeMoods", "(LGeyserNerves$Ground;)V"⟩
abbrev cX0_hasVent : ByteArray := prog_2_method_5_code
def yX0_hasVent : MethodName := ⟨RX0, "hasVent", "(I)Z"⟩
abbrev cX0_hasRow : ByteArray := prog_2_method_6_code
def yX0_hasRow : MethodName := ⟨RX0, "hasRow", "(I)Z"⟩
abbrev cX0_moreVents : ByteArray := prog_2_method_7_code
def yX0_moreVents : MethodName := ⟨RX0, "moreVents", "(III)Z"⟩
abbrev cX0_moreRows : ByteArray := prog_2_method_8_code
def yX0_moreRows : MethodName := ⟨RX0, "moreRows", "(II)Z"⟩
abbrev cX0_exchange : ByteArray := prog_2_method_9_code
def yX0_exchange : MethodName := ⟨RX0, "exchange", "(II)V"⟩
abbrev cX0_choice : ByteArray := prog_2_method_10_code
def yX0_choice : MethodName := ⟨RX0, "choice", "(I)I"⟩
abbrev cX0_shareOf : ByteArray := prog_2_method_11_code
def yX0_shareOf : MethodName := ⟨RX0, "shareOf", "(I)I"⟩
abbrev cX0_turn : ByteArray := prog_2_method_12_code
def yX0_turn : MethodName := ⟨RX0, "turn", "()I"⟩
abbrev cX0_watchersNow : ByteArray := prog_2_method_13_code
def yX0_watchersNow : MethodName := ⟨RX0, "watchersNow", "()I"⟩
abbrev cX0_companyNow : ByteArray := prog_2_method_14_code
def yX0_companyNow : MethodName := ⟨RX0, "companyNow", "()I"⟩
abbrev cX0_pass : ByteArray := prog_2_method_15_code
def yX0_pass : MethodName := ⟨RX0, "pass", "(II)I"⟩
abbrev cX0_passByPlan : ByteArray := prog_2_method_16_code
def yX0_passByPlan : MethodName := ⟨RX0, "passByPlan", "()I"⟩
abbrev cX0_upsOfAll : ByteArray := prog_2_method_17_code
def yX0_upsOfAll : MethodName := ⟨RX0, "upsOfAll", "(I)I"⟩
abbrev cX0_upsOf : ByteArray := prog_2_method_18_code
def yX0_upsOf : MethodName := ⟨RX0, "upsOf", "(II)I"⟩
abbrev cX0_tally : ByteArray := prog_2_method_19_code
def yX0_tally : MethodName := ⟨RX0, "tally", "(II)I"⟩
abbrev cX0_standsAs : ByteArray := prog_2_method_20_code
def yX0_standsAs : MethodName := ⟨RX0, "standsAs", "(LGeyserNerves$Ground;)Z"⟩
abbrev cX0_greatestHeat : ByteArray := prog_2_method_21_code
def yX0_greatestHeat : MethodName := ⟨RX0, "greatestHeat", "()I"⟩
abbrev cX0_sumOf : ByteArray := prog_2_method_22_code
def yX0_sumOf : MethodName := ⟨RX0, "sumOf", "(I)I"⟩
abbrev cX0_sumOfWatchers : ByteArray := prog_2_method_23_code
def yX0_sumOfWatchers : MethodName := ⟨RX0, "sumOfWatchers", "()I"⟩
def RX1 : String := "GeyserNerves$Reader"
def TX1 : u_T := fun k => match k with
  | 0 => ("GeyserNerves$Reader", "from", "LGeyserNerves$Tape;", true)
  | 1 => ("GeyserNerves$Reader", "at", "I", false)
  | 2 => ("GeyserNerves$Reader", "token", "I", false)
  | 3 => ("GeyserNerves$Reader", "start", "I", false)
  | 4 => ("GeyserNerves$Reader", "value", "I", false)
  | 5 => ("GeyserNerves$Reader", "fault", "I", false)
  | 6 => ("GeyserNerves$Reader", "place", "I", false)
  | 7 => ("GeyserNerves$Reader", "flowTold", "Z", false)
  | _ => ("GeyserNerves$Reader", "calmTold", "Z", false)
def tyX1 : Nat → FieldType := fun k => match k with
  | 0 => .object "GeyserNerves$Tape"
  | 1 => .int
  | 2 => .int
  | 3 => .int
  | 4 => .int
  | 5 => .int
  | 6 => .int
  | 7 => .boolean
  | _ => .boolean
abbrev wsX10 : List Cond := u_ws RX1 TX1 9
theorem nmX1 : ∀ a, a < 9 → ∀ b, b < 9 → a ≠ b → (TX1 a).2.1 ≠ (TX1 b).2.1 := by decide +kernel
theorem tyX1_ok : ∀ k, k < 9 → parseFieldDescriptor (TX1 k).2.2.1 = some (tyX1 k) := by decide +kernel
abbrev cX1_init : ByteArray := prog_3_method_1_code
def yX1_init : MethodName := ⟨RX1, "<init>", "()V"⟩
abbrev cX1_takeAll : ByteArray := prog_3_method_2_code
def yX1_takeAll : MethodName := ⟨RX1, "takeAll", "(LGeyserNerves$Ground;)I"⟩
abbrev cX1_takeLine : ByteArray := prog_3_method_3_code
def yX1_takeLine : MethodName := ⟨RX1, "takeLine", "(LGeyserNerves$Ground;)V"⟩
abbrev cX1_takeFlow : ByteArray := prog_3_method_4_code
def yX1_takeFlow : MethodName := ⟨RX1, "takeFlow", "(LGeyserNerves$Ground;)V"⟩
abbrev cX1_takeCalm : ByteArray := prog_3_method_5_code
def yX1_takeCalm : MethodName := ⟨RX1, "takeCalm", "(LGeyserNerves$Ground;)V"⟩
abbrev cX1_takeHour : ByteArray := prog_3_method_6_code
def yX1_takeHour : MethodName := ⟨RX1, "takeHour", "(LGeyserNerves$Ground;)V"⟩
abbrev cX1_takeVent : ByteArray := prog_3_method_7_code
def yX1_takeVent : MethodName := ⟨RX1, "takeVent", "(LGeyserNerves$Ground;I)V"⟩
abbrev cX1_passName : ByteArray := prog_3_method_8_code
def yX1_passName : MethodName := ⟨RX1, "passName", "()V"⟩
abbrev cX1_takeNumber : ByteArray := prog_3_method_9_code
def yX1_takeNumber : MethodName := ⟨RX1, "takeNumber", "(II)I"⟩
abbrev cX1_takeStop : ByteArray := prog_3_method_10_code
def yX1_takeStop : MethodName := ⟨RX1, "takeStop", "()V"⟩
abbrev cX1_fail : ByteArray := prog_3_method_11_code
def yX1_fail : MethodName := ⟨RX1, "fail", "(II)V"⟩
abbrev cX1_advance : ByteArray := prog_3_method_12_code
def yX1_advance : MethodName := ⟨RX1, "advance", "()V"⟩
abbrev cX1_isLetter : ByteArray := prog_3_method_13_code
def yX1_isLetter : MethodName := ⟨RX1, "isLetter", "(I)Z"⟩
abbrev cX1_isFigure : ByteArray := prog_3_method_14_code
def yX1_isFigure : MethodName := ⟨RX1, "isFigure", "(I)Z"⟩
abbrev cX1_lineOfName : ByteArray := prog_3_method_15_code
def yX1_lineOfName : MethodName := ⟨RX1, "lineOfName", "()I"⟩
abbrev cX1_nameIs : ByteArray := prog_3_method_16_code
def yX1_nameIs : MethodName := ⟨RX1, "nameIs", "(Ljava/lang/String;)Z"⟩
def RX2 : String := "GeyserNerves$Seen"
def TX2 : u_T := fun k => match k with
  | 0 => ("GeyserNerves$Seen", "hour", "[I", true)
  | 1 => ("GeyserNerves$Seen", "vent", "[I", true)
  | 2 => ("GeyserNerves$Seen", "went", "[I", true)
  | _ => ("GeyserNerves$Seen", "many", "I", false)
def tyX2 : Nat → FieldType := fun k => match k with
  | 0 => .array .int
  | 1 => .array .int
  | 2 => .array .int
  | _ => .int
abbrev wsX20 : List Cond := u_ws RX2 TX2 4
theorem nmX2 : ∀ a, a < 4 → ∀ b, b < 4 → a ≠ b → (TX2 a).2.1 ≠ (TX2 b).2.1 := by decide +kernel
theorem tyX2_ok : ∀ k, k < 4 → parseFieldDescriptor (TX2 k).2.2.1 = some (tyX2 k) := by decide +kernel
abbrev cX2_init : ByteArray := prog_4_method_1_code
def yX2_init : MethodName := ⟨RX2, "<init>", "()V"⟩
abbrev cX2_take : ByteArray := prog_4_method_2_code
def yX2_take : MethodName := ⟨RX2, "take", "(III)Z"⟩
abbrev cX2_agrees : ByteArray := prog_4_method_3_code
def yX2_agrees : MethodName := ⟨RX2, "agrees", "([I)Z"⟩
def RX3 : String := "GeyserNerves$Sheet"
def TX3 : u_T := fun k => match k with
  | 0 => ("GeyserNerves$Sheet", "cells", "[I", true)
  | 1 => ("GeyserNerves$Sheet", "lane", "I", false)
  | _ => ("GeyserNerves$Sheet", "size", "I", false)
def tyX3 : Nat → FieldType := fun k => match k with
  | 0 => .array .int
  | 1 => .int
  | _ => .int
abbrev wsX30 : List Cond := u_ws RX3 TX3 3
theorem nmX3 : ∀ a, a < 3 → ∀ b, b < 3 → a ≠ b → (TX3 a).2.1 ≠ (TX3 b).2.1 := by decide +kernel
theorem tyX3_ok : ∀ k, k < 3 → parseFieldDescriptor (TX3 k).2.2.1 = some (tyX3 k) := by decide +kernel
abbrev cX3_init : ByteArray := prog_5_method_1_code
def yX3_init : MethodName := ⟨RX3, "<init>", "()V"⟩
abbrev cX3_renew : ByteArray := prog_5_method_2_code
def yX3_renew : MethodName := ⟨RX3, "renew", "(II)V"⟩
abbrev cX3_faultAt : ByteArray := prog_5_method_3_code
def yX3_faultAt : MethodName := ⟨RX3, "faultAt", "(IJ)I"⟩
abbrev cX3_faultOfTwo : ByteArray := prog_5_method_4_code
def yX3_faultOfTwo : MethodName := ⟨RX3, "faultOfTwo", "(IJ)I"⟩
abbrev cX3_put : ByteArray := prog_5_method_5_code
def yX3_put : MethodName := ⟨RX3, "put", "(II)V"⟩
abbrev cX3_cellAt : ByteArray := prog_5_method_6_code
def yX3_cellAt : MethodName := ⟨RX3, "cellAt", "(J)I"⟩
def RX4 : String := "GeyserNerves$Tape"
def TX4 : u_T := fun k => match k with
  | 0 => ("GeyserNerves$Tape", "bytes", "[B", true)
  | _ => ("GeyserNerves$Tape", "length", "I", false)
def tyX4 : Nat → FieldType := fun k => match k with
  | 0 => .array .byte
  | _ => .int
abbrev wsX40 : List Cond := u_ws RX4 TX4 2
theorem nmX4 : ∀ a, a < 2 → ∀ b, b < 2 → a ≠ b → (TX4 a).2.1 ≠ (TX4 b).2.1 := by decide +kernel
theorem tyX4_ok : ∀ k, k < 2 → parseFieldDescriptor (TX4 k).2.2.1 = some (tyX4 k) := by decide +kernel
abbrev cX4_init : ByteArray := prog_6_method_1_code
def yX4_init : MethodName := ⟨RX4, "<init>", "()V"⟩
abbrev cX4_take : ByteArray := prog_6_method_2_code
def yX4_take : MethodName := ⟨RX4, "take", "(I)Z"⟩
abbrev cX4_byteAt : ByteArray := prog_6_method_3_code
def yX4_byteAt : MethodName := ⟨RX4, "byteAt", "(I)I"⟩
def RX5 : String := "GeyserNerves$Vent"
def TX5 : u_T := fun k => match k with
  | 0 => ("GeyserNerves$Vent", "kind", "I", false)
  | 1 => ("GeyserNerves$Vent", "need", "I", false)
  | 2 => ("GeyserNerves$Vent", "nerve", "I", false)
  | 3 => ("GeyserNerves$Vent", "heat", "I", false)
  | 4 => ("GeyserNerves$Vent", "fret", "I", false)
  | _ => ("GeyserNerves$Vent", "went", "I", false)
def tyX5 : Nat → FieldType := fun k => match k with
  | 0 => .int
  | 1 => .int
  | 2 => .int
  | 3 => .int
  | 4 => .int
  | _ => .int
abbrev wsX50 : List Cond := u_ws RX5 TX5 6
theorem nmX5 : ∀ a, a < 6 → ∀ b, b < 6 → a ≠ b → (TX5 a).2.1 ≠ (TX5 b).2.1 := by decide +kernel
theorem tyX5_ok : ∀ k, k < 6 → parseFieldDescriptor (TX5 k).2.2.1 = some (tyX5 k) := by decide +kernel
abbrev cX5_init : ByteArray := prog_7_method_1_code
def yX5_init : MethodName := ⟨RX5, "<init>", "()V"⟩
abbrev cX5_begin : ByteArray := prog_7_method_2_code
def yX5_begin : MethodName := ⟨RX5, "begin", "(III)V"⟩
abbrev cX5_become : ByteArray := prog_7_method_3_code
def yX5_become : MethodName := ⟨RX5, "become", "(LGeyserNerves$Vent;)V"⟩
abbrev cX5_takeMood : ByteArray := prog_7_method_4_code
def yX5_takeMood : MethodName := ⟨RX5, "takeMood", "(LGeyserNerves$Vent;)V"⟩
abbrev cX5_part : ByteArray := prog_7_method_5_code
def yX5_part : MethodName := ⟨RX5, "part", "(I)I"⟩
abbrev cX5_change : ByteArray := prog_7_method_6_code
def yX5_change : MethodName := ⟨RX5, "change", "(II)V"⟩
abbrev cX5_minds : ByteArray := prog_7_method_7_code
def yX5_minds : MethodName := ⟨RX5, "minds", "(I)I"⟩
abbrev cX5_fades : ByteArray := prog_7_method_8_code
def yX5_fades : MethodName := ⟨RX5, "fades", "()I"⟩
abbrev cX5_pass : ByteArray := prog_7_method_9_code
def yX5_pass : MethodName := ⟨RX5, "pass", "(III)Z"⟩
def RX6 : String := "GeyserNerves"
def TX6 : u_T := fun k => match k with
  | 0 => ("GeyserNerves", "now", "LGeyserNerves$Ground;", true)
  | 1 => ("GeyserNerves", "trial", "LGeyserNerves$Ground;", true)
  | 2 => ("GeyserNerves", "levels", "[LGeyserNerves$Ground;", true)
  | 3 => ("GeyserNerves", "images", "[LGeyserNerves$Ground;", true)
  | 4 => ("GeyserNerves", "kept", "[Z", true)
  | 5 => ("GeyserNerves", "reader", "LGeyserNerves$Reader;", true)
  | 6 => ("GeyserNerves", "tape", "LGeyserNerves$Tape;", true)
  | 7 => ("GeyserNerves", "seen", "LGeyserNerves$Seen;", true)
  | 8 => ("GeyserNerves", "upsByHour", "[I", true)
  | 9 => ("GeyserNerves", "hoursByNerve", "[J", true)
  | 10 => ("GeyserNerves", "sheets", "[LGeyserNerves$Sheet;", true)
  | 11 => ("GeyserNerves", "latestFault", "I", false)
  | _ => ("GeyserNerves", "latestTorn", "I", false)
def tyX6 : Nat → FieldType := fun k => match k with
  | 0 => .object "GeyserNerves$Ground"
  | 1 => .object "GeyserNerves$Ground"
  | 2 => .array (.object "GeyserNerves$Ground")
  | 3 => .array (.object "GeyserNerves$Ground")
  | 4 => .array .boolean
  | 5 => .object "GeyserNerves$Reader"
  | 6 => .object "GeyserNerves$Tape"
  | 7 => .object "GeyserNerves$Seen"
  | 8 => .array .int
  | 9 => .array .long
  | 10 => .array (.object "GeyserNerves$Sheet")
  | 11 => .int
  | _ => .int
abbrev wsX60 : List Cond := u_ws RX6 TX6 13
theorem nmX6 : ∀ a, a < 13 → ∀ b, b < 13 → a ≠ b → (TX6 a).2.1 ≠ (TX6 b).2.1 := by decide +kernel
theorem tyX6_ok : ∀ k, k < 13 → parseFieldDescriptor (TX6 k).2.2.1 = some (tyX6 k) := by decide +kernel
abbrev cX6_init : ByteArray := prog_1_method_1_code
def yX6_init : MethodName := ⟨RX6, "<init>", "()V"⟩
abbrev cX6_feed : ByteArray := prog_1_method_2_code
def yX6_feed : MethodName := ⟨RX6, "feed", "(I)I"⟩
abbrev cX6_end : ByteArray := prog_1_method_3_code
def yX6_end : MethodName := ⟨RX6, "end", "(I)I"⟩
abbrev cX6_text : ByteArray := prog_1_method_4_code
def yX6_text : MethodName := ⟨RX6, "text", "()I"⟩
abbrev cX6_fault : ByteArray := prog_1_method_5_code
def yX6_fault : MethodName := ⟨RX6, "fault", "()I"⟩
abbrev cX6_rule : ByteArray := prog_1_method_6_code
def yX6_rule : MethodName := ⟨RX6, "rule", "(I)I"⟩
abbrev cX6_geyser : ByteArray := prog_1_method_7_code
def yX6_geyser : MethodName := ⟨RX6, "geyser", "(II)I"⟩
abbrev cX6_row : ByteArray := prog_1_method_8_code
def yX6_row : MethodName := ⟨RX6, "row", "(II)I"⟩
abbrev cX6_alter : ByteArray := prog_1_method_9_code
def yX6_alter : MethodName := ⟨RX6, "alter", "(III)I"⟩
abbrev cX6_fitsVent : ByteArray := prog_1_method_10_code
def yX6_fitsVent : MethodName := ⟨RX6, "fitsVent", "(II)Z"⟩
abbrev cX6_tell : ByteArray := prog_1_method_11_code
def yX6_tell : MethodName := ⟨RX6, "tell", "(II)I"⟩
abbrev cX6_set : ByteArray := prog_1_method_12_code
def yX6_set : MethodName := ⟨RX6, "set", "(III)I"⟩
abbrev cX6_open : ByteArray := prog_1_method_13_code
def yX6_open : MethodName := ⟨RX6, "open", "(III)I"⟩
abbrev cX6_cut : ByteArray := prog_1_method_14_code
def yX6_cut : MethodName := ⟨RX6, "cut", "(I)I"⟩
abbrev cX6_add : ByteArray := prog_1_method_15_code
def yX6_add : MethodName := ⟨RX6, "add", "(II)I"⟩
abbrev cX6_addTo : ByteArray := prog_1_method_16_code
def yX6_addTo : MethodName := ⟨RX6, "addTo", "(LGeyserNerves$Ground;II)I"⟩
abbrev cX6_drop : ByteArray := prog_1_method_17_code
def yX6_drop : MethodName := ⟨RX6, "drop", "(I)I"⟩
abbrev cX6_hours : ByteArray := prog_1_method_18_code
def yX6_hours : MethodName := ⟨RX6, "hours", "(I)I"⟩
abbrev cX6_runs : ByteArray := prog_1_method_19_code
def yX6_runs : MethodName := ⟨RX6, "runs", "(II)I"⟩
abbrev cX6_ahead : ByteArray := prog_1_method_20_code
def yX6_ahead : MethodName := ⟨RX6, "ahead", "(III)I"⟩
abbrev cX6_ups : ByteArray := prog_1_method_21_code
def yX6_ups : MethodName := ⟨RX6, "ups", "(I)I"⟩
abbrev cX6_when : ByteArray := prog_1_method_22_code
def yX6_when : MethodName := ⟨RX6, "when", "(I)I"⟩
abbrev cX6_again : ByteArray := prog_1_method_23_code
def yX6_again : MethodName := ⟨RX6, "again", "()I"⟩
abbrev cX6_whom : ByteArray := prog_1_method_24_code
def yX6_whom : MethodName := ⟨RX6, "whom", "(III)I"⟩
abbrev cX6_route : ByteArray := prog_1_method_25_code
def yX6_route : MethodName := ⟨RX6, "route", "(II)I"⟩
abbrev cX6_upsByRoute : ByteArray := prog_1_method_26_code
def yX6_upsByRoute : MethodName := ⟨RX6, "upsByRoute", "(II)I"⟩
abbrev cX6_companyOnRoute : ByteArray := prog_1_method_27_code
def yX6_companyOnRoute : MethodName := ⟨RX6, "companyOnRoute", "(III)I"⟩
abbrev cX6_swap : ByteArray := prog_1_method_28_code
def yX6_swap : MethodName := ⟨RX6, "swap", "(II)I"⟩
abbrev cX6_bears : ByteArray := prog_1_method_29_code
def yX6_bears : MethodName := ⟨RX6, "bears", "(II)I"⟩
abbrev cX6_upsWithWatchers : ByteArray := prog_1_method_30_code
def yX6_upsWithWatchers : MethodName := ⟨RX6, "upsWithWatchers", "(III)I"⟩
abbrev cX6_flow : ByteArray := prog_1_method_31_code
def yX6_flow : MethodName := ⟨RX6, "flow", "(III)I"⟩
abbrev cX6_kind : ByteArray := prog_1_method_32_code
def yX6_kind : MethodName := ⟨RX6, "kind", "(III)I"⟩
abbrev cX6_play : ByteArray := prog_1_method_33_code
def yX6_play : MethodName := ⟨RX6, "play", "(II)I"⟩
abbrev cX6_mostFrom : ByteArray := prog_1_method_34_code
def yX6_mostFrom : MethodName := ⟨RX6, "mostFrom", "(II)I"⟩
abbrev cX6_leastFor : ByteArray := prog_1_method_35_code
def yX6_leastFor : MethodName := ⟨RX6, "leastFor", "(IIII)I"⟩
abbrev cX6_luck : ByteArray := prog_1_method_36_code
def yX6_luck : MethodName := ⟨RX6, "luck", "(IIII)J"⟩
abbrev cX6_mean : ByteArray := prog_1_method_37_code
def yX6_mean : MethodName := ⟨RX6, "mean", "(III)J"⟩
abbrev cX6_areOdds : ByteArray := prog_1_method_38_code
def yX6_areOdds : MethodName := ⟨RX6, "areOdds", "(III)Z"⟩
abbrev cX6_upsByOdds : ByteArray := prog_1_method_39_code
def yX6_upsByOdds : MethodName := ⟨RX6, "upsByOdds", "(III)I"⟩
abbrev cX6_weight : ByteArray := prog_1_method_40_code
def yX6_weight : MethodName := ⟨RX6, "weight", "(III)J"⟩
abbrev cX6_power : ByteArray := prog_1_method_41_code
def yX6_power : MethodName := ⟨RX6, "power", "(II)J"⟩
abbrev cX6_lowest : ByteArray := prog_1_method_42_code
def yX6_lowest : MethodName := ⟨RX6, "lowest", "(JJI)J"⟩
abbrev cX6_see : ByteArray := prog_1_method_43_code
def yX6_see : MethodName := ⟨RX6, "see", "(III)I"⟩
abbrev cX6_forget : ByteArray := prog_1_method_44_code
def yX6_forget : MethodName := ⟨RX6, "forget", "(I)I"⟩
abbrev cX6_kinds : ByteArray := prog_1_method_45_code
def yX6_kinds : MethodName := ⟨RX6, "kinds", "(I)I"⟩
abbrev cX6_nerves : ByteArray := prog_1_method_46_code
def yX6_nerves : MethodName := ⟨RX6, "nerves", "(I)I"⟩
abbrev cX6_goesAsSeenByNerve : ByteArray := prog_1_method_47_code
def yX6_goesAsSeenByNerve : MethodName := ⟨RX6, "goesAsSeenByNerve", "(II)Z"⟩
abbrev cX6_goesAsSeen : ByteArray := prog_1_method_48_code
def yX6_goesAsSeen : MethodName := ⟨RX6, "goesAsSeen", "(LGeyserNerves$Ground;)Z"⟩
abbrev cX6_ask : ByteArray := prog_1_method_49_code
def yX6_ask : MethodName := ⟨RX6, "ask", "(II)I"⟩
abbrev cX6_hoursOf : ByteArray := prog_1_method_50_code
def yX6_hoursOf : MethodName := ⟨RX6, "hoursOf", "(I)J"⟩
abbrev cX6_leftAtWorst : ByteArray := prog_1_method_51_code
def yX6_leftAtWorst : MethodName := ⟨RX6, "leftAtWorst", "(II)I"⟩
abbrev cX6_season : ByteArray := prog_1_method_52_code
def yX6_season : MethodName := ⟨RX6, "season", "(III)I"⟩
abbrev cX6_keep : ByteArray := prog_1_method_53_code
def yX6_keep : MethodName := ⟨RX6, "keep", "(I)I"⟩
abbrev cX6_back : ByteArray := prog_1_method_54_code
def yX6_back : MethodName := ⟨RX6, "back", "(I)I"⟩
abbrev cX6_sheet : ByteArray := prog_1_method_55_code
def yX6_sheet : MethodName := ⟨RX6, "sheet", "(III)I"⟩
abbrev cX6_lay : ByteArray := prog_1_method_56_code
def yX6_lay : MethodName := ⟨RX6, "lay", "(III)I"⟩
abbrev cX6_read : ByteArray := prog_1_method_57_code
def yX6_read : MethodName := ⟨RX6, "read", "(IIII)I"⟩
abbrev cX6_isLane : ByteArray := prog_1_method_58_code
def yX6_isLane : MethodName := ⟨RX6, "isLane", "(I)Z"⟩
abbrev cX6_torn : ByteArray := prog_1_method_59_code
def yX6_torn : MethodName := ⟨RX6, "torn", "()I"⟩
abbrev cX6_count : ByteArray := prog_1_method_60_code
def yX6_count : MethodName := ⟨RX6, "count", "(I)I"⟩
abbrev cX6_afresh : ByteArray := prog_1_method_61_code
def yX6_afresh : MethodName := ⟨RX6, "afresh", "()LGeyserNerves$Ground;"⟩
abbrev cX6_within : ByteArray := prog_1_method_62_code
def yX6_within : MethodName := ⟨RX6, "within", "(III)Z"⟩
abbrev cX6_isAhead : ByteArray := prog_1_method_63_code
def yX6_isAhead : MethodName := ⟨RX6, "isAhead", "(I)Z"⟩
abbrev cX6_bit : ByteArray := prog_1_method_64_code
def yX6_bit : MethodName := ⟨RX6, "bit", "(II)I"⟩
def RX7 : String := "GeyserNervesModel"
def TX7 : u_T := fun k => match k with
  | 0 => ("GeyserNervesModel", "state", "[I", true)
  | 1 => ("GeyserNervesModel", "readPage", "[I", true)
  | 2 => ("GeyserNervesModel", "isFlowTold", "Z", false)
  | 3 => ("GeyserNervesModel", "isCalmTold", "Z", false)
  | 4 => ("GeyserNervesModel", "tape", "[I", true)
  | 5 => ("GeyserNervesModel", "taped", "I", false)
  | 6 => ("GeyserNervesModel", "fault", "I", false)
  | 7 => ("GeyserNervesModel", "broken", "I", false)
  | 8 => ("GeyserNervesModel", "brokenAt", "I", false)
  | 9 => ("GeyserNervesModel", "spot", "I", false)
  | 10 => ("GeyserNervesModel", "here", "I", false)
  | 11 => ("GeyserNervesModel", "token", "I", false)
  | 12 => ("GeyserNervesModel", "value", "I", false)
  | 13 => ("GeyserNervesModel", "ends", "[I", true)
  | 14 => ("GeyserNervesModel", "letters", "[I", true)
  | 15 => ("GeyserNervesModel", "pleased", "I", false)
  | 16 => ("GeyserNervesModel", "vain", "I", false)
  | 17 => ("GeyserNervesModel", "hottest", "I", false)
  | 18 => ("GeyserNervesModel", "low", "[I", true)
  | 19 => ("GeyserNervesModel", "high", "[I", true)
  | 20 => ("GeyserNervesModel", "figures", "[I", true)
  | 21 => ("GeyserNervesModel", "firstWhom", "I", false)
  | 22 => ("GeyserNervesModel", "seen", "[I", true)
  | 23 => ("GeyserNervesModel", "seenMany", "I", false)
  | 24 => ("GeyserNervesModel", "upBy", "[I", true)
  | 25 => ("GeyserNervesModel", "isKept", "[Z", true)
  | 26 => ("GeyserNervesModel", "lanes", "[I", true)
  | 27 => ("GeyserNervesModel", "lengths", "[I", true)
  | 28 => ("GeyserNervesModel", "cells", "[I", true)
  | _ => ("GeyserNervesModel", "torn", "I", false)
def tyX7 : Nat → FieldType := fun k => match k with
  | 0 => .array .int
  | 1 => .array .int
  | 2 => .boolean
  | 3 => .boolean
  | 4 => .array .int
  | 5 => .int
  | 6 => .int
  | 7 => .int
  | 8 => .int
  | 9 => .int
  | 10 => .int
  | 11 => .int
  | 12 => .int
  | 13 => .array .int
  | 14 => .array .int
  | 15 => .int
  | 16 => .int
  | 17 => .int
  | 18 => .array .int
  | 19 => .array .int
  | 20 => .array .int
  | 21 => .int
  | 22 => .array .int
  | 23 => .int
  | 24 => .array .int
  | 25 => .array .boolean
  | 26 => .array .int
  | 27 => .array .int
  | 28 => .array .int
  | _ => .int
abbrev wsX70 : List Cond := u_ws RX7 TX7 30
theorem nmX7 : ∀ a, a < 30 → ∀ b, b < 30 → a ≠ b → (TX7 a).2.1 ≠ (TX7 b).2.1 := by decide +kernel
theorem tyX7_ok : ∀ k, k < 30 → parseFieldDescriptor (TX7 k).2.2.1 = some (tyX7 k) := by decide +kernel
abbrev cX7_init : ByteArray := prog_9_method_1_code
def yX7_init : MethodName := ⟨RX7, "<init>", "()V"⟩
abbrev cX7_in : ByteArray := prog_9_method_3_code
def yX7_in : MethodName := ⟨RX7, "in", "(JJJ)Z"⟩
abbrev cX7_feed : ByteArray := prog_9_method_4_code
def yX7_feed : MethodName := ⟨RX7, "feed", "(I)I"⟩
abbrev cX7_end : ByteArray := prog_9_method_5_code
def yX7_end : MethodName := ⟨RX7, "end", "(I)I"⟩
abbrev cX7_byteAt : ByteArray := prog_9_method_6_code
def yX7_byteAt : MethodName := ⟨RX7, "byteAt", "(I)I"⟩
abbrev cX7_fails : ByteArray := prog_9_method_7_code
def yX7_fails : MethodName := ⟨RX7, "fails", "(I)V"⟩
abbrev cX7_nameHere : ByteArray := prog_9_method_8_code
def yX7_nameHere : MethodName := ⟨RX7, "nameHere", "()I"⟩
abbrev cX7_readsOn : ByteArray := prog_9_method_9_code
def yX7_readsOn : MethodName := ⟨RX7, "readsOn", "()V"⟩
abbrev cX7_number : ByteArray := prog_9_method_10_code
def yX7_number : MethodName := ⟨RX7, "number", "(II)I"⟩
abbrev cX7_readMore : ByteArray := prog_9_method_11_code
def yX7_readMore : MethodName := ⟨RX7, "readMore", "(I)V"⟩
abbrev cX7_readLine : ByteArray := prog_9_method_12_code
def yX7_readLine : MethodName := ⟨RX7, "readLine", "()V"⟩
abbrev cX7_text : ByteArray := prog_9_method_13_code
def yX7_text : MethodName := ⟨RX7, "text", "()I"⟩
abbrev cX7_fault : ByteArray := prog_9_method_14_code
def yX7_fault : MethodName := ⟨RX7, "fault", "()I"⟩
abbrev cX7_isGeyser : ByteArray := prog_9_method_15_code
def yX7_isGeyser : MethodName := ⟨RX7, "isGeyser", "(I)Z"⟩
abbrev cX7_isRow : ByteArray := prog_9_method_16_code
def yX7_isRow : MethodName := ⟨RX7, "isRow", "(I)Z"⟩
abbrev cX7_isLong : ByteArray := prog_9_method_17_code
def yX7_isLong : MethodName := ⟨RX7, "isLong", "(I)Z"⟩
abbrev cX7_shareOn : ByteArray := prog_9_method_18_code
def yX7_shareOn : MethodName := ⟨RX7, "shareOn", "(II)I"⟩
abbrev cX7_mindsOn : ByteArray := prog_9_method_19_code
def yX7_mindsOn : MethodName := ⟨RX7, "mindsOn", "(III)I"⟩
abbrev cX7_fadesOn : ByteArray := prog_9_method_20_code
def yX7_fadesOn : MethodName := ⟨RX7, "fadesOn", "(II)I"⟩
abbrev cX7_rowOn : ByteArray := prog_9_method_21_code
def yX7_rowOn : MethodName := ⟨RX7, "rowOn", "(I)I"⟩
abbrev cX7_watchersOn : ByteArray := prog_9_method_22_code
def yX7_watchersOn : MethodName := ⟨RX7, "watchersOn", "(I)I"⟩
abbrev cX7_whomOn : ByteArray := prog_9_method_23_code
def yX7_whomOn : MethodName := ⟨RX7, "whomOn", "(I)I"⟩
abbrev cX7_goesUp : ByteArray := prog_9_method_24_code
def yX7_goesUp : MethodName := ⟨RX7, "goesUp", "(IIII)Z"⟩
abbrev cX7_hourOn : ByteArray := prog_9_method_25_code
def yX7_hourOn : MethodName := ⟨RX7, "hourOn", "(III)I"⟩
abbrev cX7_planOn : ByteArray := prog_9_method_26_code
def yX7_planOn : MethodName := ⟨RX7, "planOn", "(I)I"⟩
abbrev cX7_sumOn : ByteArray := prog_9_method_27_code
def yX7_sumOn : MethodName := ⟨RX7, "sumOn", "(II)I"⟩
abbrev cX7_rule : ByteArray := prog_9_method_28_code
def yX7_rule : MethodName := ⟨RX7, "rule", "(I)I"⟩
abbrev cX7_geyser : ByteArray := prog_9_method_29_code
def yX7_geyser : MethodName := ⟨RX7, "geyser", "(II)I"⟩
abbrev cX7_row : ByteArray := prog_9_method_30_code
def yX7_row : MethodName := ⟨RX7, "row", "(II)I"⟩
abbrev cX7_puts : ByteArray := prog_9_method_31_code
def yX7_puts : MethodName := ⟨RX7, "puts", "(ZIII)I"⟩
abbrev cX7_isGood : ByteArray := prog_9_method_32_code
def yX7_isGood : MethodName := ⟨RX7, "isGood", "(II)Z"⟩
abbrev cX7_alter : ByteArray := prog_9_method_33_code
def yX7_alter : MethodName := ⟨RX7, "alter", "(III)I"⟩
abbrev cX7_tell : ByteArray := prog_9_method_34_code
def yX7_tell : MethodName := ⟨RX7, "tell", "(II)I"⟩
abbrev cX7_set : ByteArray := prog_9_method_35_code
def yX7_set : MethodName := ⟨RX7, "set", "(III)I"⟩
abbrev cX7_open : ByteArray := prog_9_method_36_code
def yX7_open : MethodName := ⟨RX7, "open", "(III)I"⟩
abbrev cX7_cut : ByteArray := prog_9_method_37_code
def yX7_cut : MethodName := ⟨RX7, "cut", "(I)I"⟩
abbrev cX7_adds : ByteArray := prog_9_method_38_code
def yX7_adds : MethodName := ⟨RX7, "adds", "(II)I"⟩
abbrev cX7_add : ByteArray := prog_9_method_39_code
def yX7_add : MethodName := ⟨RX7, "add", "(II)I"⟩
abbrev cX7_drop : ByteArray := prog_9_method_40_code
def yX7_drop : MethodName := ⟨RX7, "drop", "(I)I"⟩
abbrev cX7_hours : ByteArray := prog_9_method_41_code
def yX7_hours : MethodName := ⟨RX7, "hours", "(I)I"⟩
abbrev cX7_bitsOf : ByteArray := prog_9_method_42_code
def yX7_bitsOf : MethodName := ⟨RX7, "bitsOf", "(I)I"⟩
abbrev cX7_copies : ByteArray := prog_9_method_43_code
def yX7_copies : MethodName := ⟨RX7, "copies", "(II)V"⟩
abbrev cX7_feels : ByteArray := prog_9_method_44_code
def yX7_feels : MethodName := ⟨RX7, "feels", "(I)V"⟩
abbrev cX7_hoursGo : ByteArray := prog_9_method_45_code
def yX7_hoursGo : MethodName := ⟨RX7, "hoursGo", "(II)I"⟩
abbrev cX7_wentThen : ByteArray := prog_9_method_46_code
def yX7_wentThen : MethodName := ⟨RX7, "wentThen", "(I)I"⟩
abbrev cX7_runs : ByteArray := prog_9_method_47_code
def yX7_runs : MethodName := ⟨RX7, "runs", "(II)I"⟩
abbrev cX7_ahead : ByteArray := prog_9_method_48_code
def yX7_ahead : MethodName := ⟨RX7, "ahead", "(III)I"⟩
abbrev cX7_ups : ByteArray := prog_9_method_49_code
def yX7_ups : MethodName := ⟨RX7, "ups", "(I)I"⟩
abbrev cX7_when : ByteArray := prog_9_method_50_code
def yX7_when : MethodName := ⟨RX7, "when", "(I)I"⟩
abbrev cX7_again : ByteArray := prog_9_method_51_code
def yX7_again : MethodName := ⟨RX7, "again", "()I"⟩
abbrev cX7_whomBy : ByteArray := prog_9_method_52_code
def yX7_whomBy : MethodName := ⟨RX7, "whomBy", "(I)I"⟩
abbrev cX7_whom : ByteArray := prog_9_method_53_code
def yX7_whom : MethodName := ⟨RX7, "whom", "(III)I"⟩
abbrev cX7_route : ByteArray := prog_9_method_54_code
def yX7_route : MethodName := ⟨RX7, "route", "(II)I"⟩
abbrev cX7_swap : ByteArray := prog_9_method_55_code
def yX7_swap : MethodName := ⟨RX7, "swap", "(II)I"⟩
abbrev cX7_bears : ByteArray := prog_9_method_56_code
def yX7_bears : MethodName := ⟨RX7, "bears", "(II)I"⟩
abbrev cX7_flow : ByteArray := prog_9_method_57_code
def yX7_flow : MethodName := ⟨RX7, "flow", "(III)I"⟩
abbrev cX7_kind : ByteArray := prog_9_method_58_code
def yX7_kind : MethodName := ⟨RX7, "kind", "(III)I"⟩
abbrev cX7_figuresOf : ByteArray := prog_9_method_59_code
def yX7_figuresOf : MethodName := ⟨RX7, "figuresOf", "(III)V"⟩
abbrev cX7_goesBack : ByteArray := prog_9_method_60_code
def yX7_goesBack : MethodName := ⟨RX7, "goesBack", "(III)V"⟩
abbrev cX7_play : ByteArray := prog_9_method_61_code
def yX7_play : MethodName := ⟨RX7, "play", "(II)I"⟩
abbrev cX7_lowest : ByteArray := prog_9_method_62_code
def yX7_lowest : MethodName := ⟨RX7, "lowest", "(JJI)J"⟩
abbrev cX7_byNobody : ByteArray := prog_9_method_63_code
def yX7_byNobody : MethodName := ⟨RX7, "byNobody", "(IIII)J"⟩
abbrev cX7_luck : ByteArray := prog_9_method_64_code
def yX7_luck : MethodName := ⟨RX7, "luck", "(IIII)J"⟩
abbrev cX7_mean : ByteArray := prog_9_method_65_code
def yX7_mean : MethodName := ⟨RX7, "mean", "(III)J"⟩
abbrev cX7_see : ByteArray := prog_9_method_66_code
def yX7_see : MethodName := ⟨RX7, "see", "(III)I"⟩
abbrev cX7_forget : ByteArray := prog_9_method_67_code
def yX7_forget : MethodName := ⟨RX7, "forget", "(I)I"⟩
abbrev cX7_isAsSeen : ByteArray := prog_9_method_68_code
def yX7_isAsSeen : MethodName := ⟨RX7, "isAsSeen", "(I)Z"⟩
abbrev cX7_numbersAt : ByteArray := prog_9_method_69_code
def yX7_numbersAt : MethodName := ⟨RX7, "numbersAt", "(II)I"⟩
abbrev cX7_kinds : ByteArray := prog_9_method_70_code
def yX7_kinds : MethodName := ⟨RX7, "kinds", "(I)I"⟩
abbrev cX7_nerves : ByteArray := prog_9_method_71_code
def yX7_nerves : MethodName := ⟨RX7, "nerves", "(I)I"⟩
abbrev cX7_ask : ByteArray := prog_9_method_72_code
def yX7_ask : MethodName := ⟨RX7, "ask", "(II)I"⟩
abbrev cX7_season : ByteArray := prog_9_method_73_code
def yX7_season : MethodName := ⟨RX7, "season", "(III)I"⟩
abbrev cX7_keep : ByteArray := prog_9_method_74_code
def yX7_keep : MethodName := ⟨RX7, "keep", "(I)I"⟩
abbrev cX7_back : ByteArray := prog_9_method_75_code
def yX7_back : MethodName := ⟨RX7, "back", "(I)I"⟩
abbrev cX7_sheet : ByteArray := prog_9_method_76_code
def yX7_sheet : MethodName := ⟨RX7, "sheet", "(III)I"⟩
abbrev cX7_lay : ByteArray := prog_9_method_77_code
def yX7_lay : MethodName := ⟨RX7, "lay", "(III)I"⟩
abbrev cX7_read : ByteArray := prog_9_method_78_code
def yX7_read : MethodName := ⟨RX7, "read", "(IIII)I"⟩
abbrev cX7_torn : ByteArray := prog_9_method_79_code
def yX7_torn : MethodName := ⟨RX7, "torn", "()I"⟩
abbrev cX7_count : ByteArray := prog_9_method_80_code
def yX7_count : MethodName := ⟨RX7, "count", "(I)I"⟩
def RJ6 : String := "java/lang/Integer"
def TJ6 : u_T := fun k => match k with
  | _ => ("", "", "", false)
def tyJ6 : Nat → FieldType := fun k => match k with
  | _ => .int
theorem nmJ6 : ∀ a, a < 0 → ∀ b, b < 0 → a ≠ b → (TJ6 a).2.1 ≠ (TJ6 b).2.1 := by decide +kernel
theorem tyJ6_ok : ∀ k, k < 0 → parseFieldDescriptor (TJ6 k).2.2.1 = some (tyJ6 k) := by decide +kernel
abbrev cJ6_bitCount_0f7a4 : ByteArray := prog_10_method_49_code
def yJ6_bitCount_0f7a4 : MethodName := ⟨RJ6, "bitCount", "(I)I"⟩
def RJ9 : String := "java/lang/Math"
def TJ9 : u_T := fun k => match k with
  | _ => ("", "", "", false)
def tyJ9 : Nat → FieldType := fun k => match k with
  | _ => .int
theorem nmJ9 : ∀ a, a < 0 → ∀ b, b < 0 → a ≠ b → (TJ9 a).2.1 ≠ (TJ9 b).2.1 := by decide +kernel
theorem tyJ9_ok : ∀ k, k < 0 → parseFieldDescriptor (TJ9 k).2.2.1 = some (tyJ9 k) := by decide +kernel
abbrev cJ9_max_7cf53 : ByteArray := prog_11_method_65_code
def yJ9_max_7cf53 : MethodName := ⟨RJ9, "max", "(II)I"⟩
abbrev cJ9_min_7cf53 : ByteArray := prog_11_method_69_code
def yJ9_min_7cf53 : MethodName := ⟨RJ9, "min", "(II)I"⟩
def RJ0 : String := "java/lang/String"
def TJ0 : u_T := fun k => match k with
  | _ => ("", "", "", false)
def tyJ0 : Nat → FieldType := fun k => match k with
  | _ => .int
theorem nmJ0 : ∀ a, a < 0 → ∀ b, b < 0 → a ≠ b → (TJ0 a).2.1 ≠ (TJ0 b).2.1 := by decide +kernel
theorem tyJ0_ok : ∀ k, k < 0 → parseFieldDescriptor (TJ0 k).2.2.1 = some (tyJ0 k) := by decide +kernel
abbrev cJ0_length_8abf5 : ByteArray := prog_12_method_54_code
def yJ0_length_8abf5 : MethodName := ⟨RJ0, "length", "()I"⟩
abbrev cJ0_charAt_5068e : ByteArray := prog_12_method_56_code
def yJ0_charAt_5068e : MethodName := ⟨RJ0, "charAt", "(I)C"⟩
abbrev cJ0_coder_7d493 : ByteArray := prog_12_method_152_code
def yJ0_coder_7d493 : MethodName := ⟨RJ0, "coder", "()B"⟩
abbrev cJ0_isLatin1_aae02 : ByteArray := prog_12_method_154_code
def yJ0_isLatin1_aae02 : MethodName := ⟨RJ0, "isLatin1", "()Z"⟩
abbrev cJ0_checkIndex_df160 : ByteArray := prog_12_method_155_code
def yJ0_checkIndex_df160 : MethodName := ⟨RJ0, "checkIndex", "(II)V"⟩
def RJ1 : String := "java/lang/StringLatin1"
def TJ1 : u_T := fun k => match k with
  | _ => ("", "", "", false)
def tyJ1 : Nat → FieldType := fun k => match k with
  | _ => .int
theorem nmJ1 : ∀ a, a < 0 → ∀ b, b < 0 → a ≠ b → (TJ1 a).2.1 ≠ (TJ1 b).2.1 := by decide +kernel
theorem tyJ1_ok : ∀ k, k < 0 → parseFieldDescriptor (TJ1 k).2.2.1 = some (tyJ1 k) := by decide +kernel
abbrev cJ1_charAt_3b067 : ByteArray := prog_13_method_2_code
def yJ1_charAt_3b067 : MethodName := ⟨RJ1, "charAt", "([BI)C"⟩
def RJ2 : String := "java/lang/StringUTF16"
def TJ2 : u_T := fun k => match k with
  | _ => ("", "", "", false)
def tyJ2 : Nat → FieldType := fun k => match k with
  | _ => .int
theorem nmJ2 : ∀ a, a < 0 → ∀ b, b < 0 → a ≠ b → (TJ2 a).2.1 ≠ (TJ2 b).2.1 := by decide +kernel
theorem tyJ2_ok : ∀ k, k < 0 → parseFieldDescriptor (TJ2 k).2.2.1 = some (tyJ2 k) := by decide +kernel
abbrev cJ2_getChar_3b067 : ByteArray := prog_14_method_5_code
def yJ2_getChar_3b067 : MethodName := ⟨RJ2, "getChar", "([BI)C"⟩
abbrev cJ2_length_9d52b : ByteArray := prog_14_method_6_code
def yJ2_length_9d52b : MethodName := ⟨RJ2, "length", "([B)I"⟩
abbrev cJ2_charAt_3b067 : ByteArray := prog_14_method_83_code
def yJ2_charAt_3b067 : MethodName := ⟨RJ2, "charAt", "([BI)C"⟩
abbrev cJ2_checkIndex_2214a : ByteArray := prog_14_method_91_code
def yJ2_checkIndex_2214a : MethodName := ⟨RJ2, "checkIndex", "(I[B)V"⟩
def RJ3 : String := "jdk/internal/util/Preconditions"
def TJ3 : u_T := fun k => match k with
  | _ => ("", "", "", false)
def tyJ3 : Nat → FieldType := fun k => match k with
  | _ => .int
theorem nmJ3 : ∀ a, a < 0 → ∀ b, b < 0 → a ≠ b → (TJ3 a).2.1 ≠ (TJ3 b).2.1 := by decide +kernel
theorem tyJ3_ok : ∀ k, k < 0 → parseFieldDescriptor (TJ3 k).2.2.1 = some (tyJ3 k) := by decide +kernel
abbrev cJ3_checkIndex_8e157 : ByteArray := prog_15_method_11_code
def yJ3_checkIndex_8e157 : MethodName := ⟨RJ3, "checkIndex", "(IILjava/util/function/BiFunction;)I"⟩
def RL : String := "GeyserNervesLaw"
abbrev cL_law : ByteArray := code
def yL_law : MethodName := ⟨RL, "law", "([I)Z"⟩
