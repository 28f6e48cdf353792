-- ===== PART A: goes FIRST, ahead of the names: the tables' words, and 'selects' of the private methods out of them =====
/-- a private method of a class that the tables say can be made, by its rows of tables_1 -/
def lw_okq (q : MethodName × Nat) : Prop := (q.1.cls ≠ "java/lang/invoke/MethodHandle" ∧ q.1.cls ≠ "java/lang/invoke/VarHandle") ∧ Cond.instantiable q.1.cls q.2 ∈ tables_1 ∧ Cond.privateMethod q.1 ∈ tables_1 ∧ Cond.instanceMethod q.1 ∈ tables_1
theorem lw_p0 : lw_okq (⟨"SlopeChecker$Normals", "set", "(IIII)V"⟩, 4) := ⟨⟨by decide +kernel, by decide +kernel⟩, List.mem_of_getElem? (i := 40) (by decide +kernel), List.mem_of_getElem? (i := 50) (by decide +kernel), List.mem_of_getElem? (i := 51) (by decide +kernel)⟩
theorem lw_p1 : lw_okq (⟨"SlopeChecker", "tapeFour", "(I)V"⟩, 12) := ⟨⟨by decide +kernel, by decide +kernel⟩, List.mem_of_getElem? (i := 26) (by decide +kernel), List.mem_of_getElem? (i := 669) (by decide +kernel), List.mem_of_getElem? (i := 670) (by decide +kernel)⟩
theorem lw_p2 : lw_okq (⟨"SlopeChecker$Reader", "nextToken", "()V"⟩, 15) := ⟨⟨by decide +kernel, by decide +kernel⟩, List.mem_of_getElem? (i := 235) (by decide +kernel), List.mem_of_getElem? (i := 685) (by decide +kernel), List.mem_of_getElem? (i := 686) (by decide +kernel)⟩
theorem lw_p3 : lw_okq (⟨"SlopeChecker$Reader", "takeWord", "()V"⟩, 15) := ⟨⟨by decide +kernel, by decide +kernel⟩, List.mem_of_getElem? (i := 235) (by decide +kernel), List.mem_of_getElem? (i := 689) (by decide +kernel), List.mem_of_getElem? (i := 690) (by decide +kernel)⟩
theorem lw_p4 : lw_okq (⟨"SlopeChecker$Reader", "takeDigits", "()V"⟩, 15) := ⟨⟨by decide +kernel, by decide +kernel⟩, List.mem_of_getElem? (i := 235) (by decide +kernel), List.mem_of_getElem? (i := 693) (by decide +kernel), List.mem_of_getElem? (i := 694) (by decide +kernel)⟩
theorem lw_p5 : lw_okq (⟨"SlopeChecker$Reader", "readLine", "()V"⟩, 15) := ⟨⟨by decide +kernel, by decide +kernel⟩, List.mem_of_getElem? (i := 235) (by decide +kernel), List.mem_of_getElem? (i := 698) (by decide +kernel), List.mem_of_getElem? (i := 699) (by decide +kernel)⟩
theorem lw_p6 : lw_okq (⟨"SlopeChecker$Reader", "wordOfLanguage", "()I"⟩, 15) := ⟨⟨by decide +kernel, by decide +kernel⟩, List.mem_of_getElem? (i := 235) (by decide +kernel), List.mem_of_getElem? (i := 702) (by decide +kernel), List.mem_of_getElem? (i := 703) (by decide +kernel)⟩
theorem lw_p7 : lw_okq (⟨"SlopeChecker$Reader", "readMode", "()V"⟩, 15) := ⟨⟨by decide +kernel, by decide +kernel⟩, List.mem_of_getElem? (i := 235) (by decide +kernel), List.mem_of_getElem? (i := 706) (by decide +kernel), List.mem_of_getElem? (i := 707) (by decide +kernel)⟩
theorem lw_p8 : lw_okq (⟨"SlopeChecker$Reader", "failUnless", "(ZII)V"⟩, 15) := ⟨⟨by decide +kernel, by decide +kernel⟩, List.mem_of_getElem? (i := 235) (by decide +kernel), List.mem_of_getElem? (i := 710) (by decide +kernel), List.mem_of_getElem? (i := 711) (by decide +kernel)⟩
theorem lw_p9 : lw_okq (⟨"SlopeChecker$Reader", "fail", "(II)V"⟩, 15) := ⟨⟨by decide +kernel, by decide +kernel⟩, List.mem_of_getElem? (i := 235) (by decide +kernel), List.mem_of_getElem? (i := 714) (by decide +kernel), List.mem_of_getElem? (i := 715) (by decide +kernel)⟩
theorem lw_p10 : lw_okq (⟨"SlopeChecker$Reader", "readNumber", "(II)I"⟩, 15) := ⟨⟨by decide +kernel, by decide +kernel⟩, List.mem_of_getElem? (i := 235) (by decide +kernel), List.mem_of_getElem? (i := 722) (by decide +kernel), List.mem_of_getElem? (i := 723) (by decide +kernel)⟩
theorem lw_p11 : lw_okq (⟨"SlopeChecker$Reader", "readNormal", "(II)I"⟩, 15) := ⟨⟨by decide +kernel, by decide +kernel⟩, List.mem_of_getElem? (i := 235) (by decide +kernel), List.mem_of_getElem? (i := 726) (by decide +kernel), List.mem_of_getElem? (i := 727) (by decide +kernel)⟩
theorem lw_p12 : lw_okq (⟨"SlopeChecker$Reader", "readKeep", "()V"⟩, 15) := ⟨⟨by decide +kernel, by decide +kernel⟩, List.mem_of_getElem? (i := 235) (by decide +kernel), List.mem_of_getElem? (i := 745) (by decide +kernel), List.mem_of_getElem? (i := 746) (by decide +kernel)⟩
theorem lw_p13 : lw_okq (⟨"SlopeChecker$Reader", "readModeName", "()I"⟩, 15) := ⟨⟨by decide +kernel, by decide +kernel⟩, List.mem_of_getElem? (i := 235) (by decide +kernel), List.mem_of_getElem? (i := 749) (by decide +kernel), List.mem_of_getElem? (i := 750) (by decide +kernel)⟩
theorem lw_p14 : lw_okq (⟨"SlopeChecker$Reader", "readBound", "(LSlopeChecker$Bounds;I)V"⟩, 15) := ⟨⟨by decide +kernel, by decide +kernel⟩, List.mem_of_getElem? (i := 235) (by decide +kernel), List.mem_of_getElem? (i := 753) (by decide +kernel), List.mem_of_getElem? (i := 754) (by decide +kernel)⟩
theorem lw_p15 : lw_okq (⟨"SlopeChecker$Reader", "readHarm", "()V"⟩, 15) := ⟨⟨by decide +kernel, by decide +kernel⟩, List.mem_of_getElem? (i := 235) (by decide +kernel), List.mem_of_getElem? (i := 757) (by decide +kernel), List.mem_of_getElem? (i := 758) (by decide +kernel)⟩
def lw_privs_1 : List (MethodName × Nat) := [(⟨"SlopeChecker$Normals", "set", "(IIII)V"⟩, 4), (⟨"SlopeChecker", "tapeFour", "(I)V"⟩, 12), (⟨"SlopeChecker$Reader", "nextToken", "()V"⟩, 15), (⟨"SlopeChecker$Reader", "takeWord", "()V"⟩, 15), (⟨"SlopeChecker$Reader", "takeDigits", "()V"⟩, 15), (⟨"SlopeChecker$Reader", "readLine", "()V"⟩, 15), (⟨"SlopeChecker$Reader", "wordOfLanguage", "()I"⟩, 15), (⟨"SlopeChecker$Reader", "readMode", "()V"⟩, 15), (⟨"SlopeChecker$Reader", "failUnless", "(ZII)V"⟩, 15), (⟨"SlopeChecker$Reader", "fail", "(II)V"⟩, 15), (⟨"SlopeChecker$Reader", "readNumber", "(II)I"⟩, 15), (⟨"SlopeChecker$Reader", "readNormal", "(II)I"⟩, 15), (⟨"SlopeChecker$Reader", "readKeep", "()V"⟩, 15), (⟨"SlopeChecker$Reader", "readModeName", "()I"⟩, 15), (⟨"SlopeChecker$Reader", "readBound", "(LSlopeChecker$Bounds;I)V"⟩, 15), (⟨"SlopeChecker$Reader", "readHarm", "()V"⟩, 15)]
theorem lw_r1 : ∀ q ∈ lw_privs_1, lw_okq q := List.forall_mem_cons.mpr ⟨lw_p0, List.forall_mem_cons.mpr ⟨lw_p1, List.forall_mem_cons.mpr ⟨lw_p2, List.forall_mem_cons.mpr ⟨lw_p3, List.forall_mem_cons.mpr ⟨lw_p4, List.forall_mem_cons.mpr ⟨lw_p5, List.forall_mem_cons.mpr ⟨lw_p6, List.forall_mem_cons.mpr ⟨lw_p7, List.forall_mem_cons.mpr ⟨lw_p8, List.forall_mem_cons.mpr ⟨lw_p9, List.forall_mem_cons.mpr ⟨lw_p10, List.forall_mem_cons.mpr ⟨lw_p11, List.forall_mem_cons.mpr ⟨lw_p12, List.forall_mem_cons.mpr ⟨lw_p13, List.forall_mem_cons.mpr ⟨lw_p14, List.forall_mem_cons.mpr ⟨lw_p15, fun _ h => absurd h List.not_mem_nil⟩⟩⟩⟩⟩⟩⟩⟩⟩⟩⟩⟩⟩⟩⟩⟩
theorem lw_p16 : lw_okq (⟨"SlopeChecker$Reader", "readEdge", "()V"⟩, 15) := ⟨⟨by decide +kernel, by decide +kernel⟩, List.mem_of_getElem? (i := 235) (by decide +kernel), List.mem_of_getElem? (i := 761) (by decide +kernel), List.mem_of_getElem? (i := 762) (by decide +kernel)⟩
theorem lw_p17 : lw_okq (⟨"SlopeChecker$Reader", "readWhen", "()V"⟩, 15) := ⟨⟨by decide +kernel, by decide +kernel⟩, List.mem_of_getElem? (i := 235) (by decide +kernel), List.mem_of_getElem? (i := 769) (by decide +kernel), List.mem_of_getElem? (i := 770) (by decide +kernel)⟩
theorem lw_p18 : lw_okq (⟨"SlopeChecker$Reader", "readDone", "(I)V"⟩, 15) := ⟨⟨by decide +kernel, by decide +kernel⟩, List.mem_of_getElem? (i := 235) (by decide +kernel), List.mem_of_getElem? (i := 773) (by decide +kernel), List.mem_of_getElem? (i := 774) (by decide +kernel)⟩
theorem lw_p19 : lw_okq (⟨"SlopeChecker$Reader", "readStart", "()V"⟩, 15) := ⟨⟨by decide +kernel, by decide +kernel⟩, List.mem_of_getElem? (i := 235) (by decide +kernel), List.mem_of_getElem? (i := 777) (by decide +kernel), List.mem_of_getElem? (i := 778) (by decide +kernel)⟩
theorem lw_p20 : lw_okq (⟨"SlopeChecker$Reader", "readMost", "()V"⟩, 15) := ⟨⟨by decide +kernel, by decide +kernel⟩, List.mem_of_getElem? (i := 235) (by decide +kernel), List.mem_of_getElem? (i := 781) (by decide +kernel), List.mem_of_getElem? (i := 782) (by decide +kernel)⟩
theorem lw_p21 : lw_okq (⟨"SlopeChecker$Check", "tighten", "(LSlopeChecker$Region;)Z"⟩, 12) := ⟨⟨by decide +kernel, by decide +kernel⟩, List.mem_of_getElem? (i := 400) (by decide +kernel), List.mem_of_getElem? (i := 805) (by decide +kernel), List.mem_of_getElem? (i := 806) (by decide +kernel)⟩
theorem lw_p22 : lw_okq (⟨"SlopeChecker$Cutter", "linkRing", "()V"⟩, 9) := ⟨⟨by decide +kernel, by decide +kernel⟩, List.mem_of_getElem? (i := 339) (by decide +kernel), List.mem_of_getElem? (i := 813) (by decide +kernel), List.mem_of_getElem? (i := 814) (by decide +kernel)⟩
theorem lw_p23 : lw_okq (⟨"SlopeChecker$Check", "grow", "(I)V"⟩, 12) := ⟨⟨by decide +kernel, by decide +kernel⟩, List.mem_of_getElem? (i := 400) (by decide +kernel), List.mem_of_getElem? (i := 836) (by decide +kernel), List.mem_of_getElem? (i := 837) (by decide +kernel)⟩
theorem lw_p24 : lw_okq (⟨"SlopeChecker$Check", "addPart", "(I)V"⟩, 12) := ⟨⟨by decide +kernel, by decide +kernel⟩, List.mem_of_getElem? (i := 400) (by decide +kernel), List.mem_of_getElem? (i := 849) (by decide +kernel), List.mem_of_getElem? (i := 850) (by decide +kernel)⟩
theorem lw_p25 : lw_okq (⟨"SlopeChecker$Check", "firstOpen", "()I"⟩, 12) := ⟨⟨by decide +kernel, by decide +kernel⟩, List.mem_of_getElem? (i := 400) (by decide +kernel), List.mem_of_getElem? (i := 868) (by decide +kernel), List.mem_of_getElem? (i := 869) (by decide +kernel)⟩
theorem lw_p26 : lw_okq (⟨"SlopeChecker$Check", "follow", "(II)V"⟩, 12) := ⟨⟨by decide +kernel, by decide +kernel⟩, List.mem_of_getElem? (i := 400) (by decide +kernel), List.mem_of_getElem? (i := 876) (by decide +kernel), List.mem_of_getElem? (i := 877) (by decide +kernel)⟩
theorem lw_p27 : lw_okq (⟨"SlopeChecker$Check", "isCovered", "(ILSlopeChecker$Region;)Z"⟩, 12) := ⟨⟨by decide +kernel, by decide +kernel⟩, List.mem_of_getElem? (i := 400) (by decide +kernel), List.mem_of_getElem? (i := 887) (by decide +kernel), List.mem_of_getElem? (i := 888) (by decide +kernel)⟩
theorem lw_p28 : lw_okq (⟨"SlopeChecker$Check", "isOf", "(II)Z"⟩, 12) := ⟨⟨by decide +kernel, by decide +kernel⟩, List.mem_of_getElem? (i := 400) (by decide +kernel), List.mem_of_getElem? (i := 891) (by decide +kernel), List.mem_of_getElem? (i := 892) (by decide +kernel)⟩
theorem lw_p29 : lw_okq (⟨"SlopeChecker$Check", "joinLast", "(I)Z"⟩, 12) := ⟨⟨by decide +kernel, by decide +kernel⟩, List.mem_of_getElem? (i := 400) (by decide +kernel), List.mem_of_getElem? (i := 903) (by decide +kernel), List.mem_of_getElem? (i := 904) (by decide +kernel)⟩
theorem lw_p30 : lw_okq (⟨"SlopeChecker$Check", "lastOf", "(I)I"⟩, 12) := ⟨⟨by decide +kernel, by decide +kernel⟩, List.mem_of_getElem? (i := 400) (by decide +kernel), List.mem_of_getElem? (i := 907) (by decide +kernel), List.mem_of_getElem? (i := 908) (by decide +kernel)⟩
theorem lw_p31 : lw_okq (⟨"SlopeChecker", "isEdge", "(I)Z"⟩, 12) := ⟨⟨by decide +kernel, by decide +kernel⟩, List.mem_of_getElem? (i := 26) (by decide +kernel), List.mem_of_getElem? (i := 944) (by decide +kernel), List.mem_of_getElem? (i := 945) (by decide +kernel)⟩
def lw_privs_2 : List (MethodName × Nat) := [(⟨"SlopeChecker$Reader", "readEdge", "()V"⟩, 15), (⟨"SlopeChecker$Reader", "readWhen", "()V"⟩, 15), (⟨"SlopeChecker$Reader", "readDone", "(I)V"⟩, 15), (⟨"SlopeChecker$Reader", "readStart", "()V"⟩, 15), (⟨"SlopeChecker$Reader", "readMost", "()V"⟩, 15), (⟨"SlopeChecker$Check", "tighten", "(LSlopeChecker$Region;)Z"⟩, 12), (⟨"SlopeChecker$Cutter", "linkRing", "()V"⟩, 9), (⟨"SlopeChecker$Check", "grow", "(I)V"⟩, 12), (⟨"SlopeChecker$Check", "addPart", "(I)V"⟩, 12), (⟨"SlopeChecker$Check", "firstOpen", "()I"⟩, 12), (⟨"SlopeChecker$Check", "follow", "(II)V"⟩, 12), (⟨"SlopeChecker$Check", "isCovered", "(ILSlopeChecker$Region;)Z"⟩, 12), (⟨"SlopeChecker$Check", "isOf", "(II)Z"⟩, 12), (⟨"SlopeChecker$Check", "joinLast", "(I)Z"⟩, 12), (⟨"SlopeChecker$Check", "lastOf", "(I)I"⟩, 12), (⟨"SlopeChecker", "isEdge", "(I)Z"⟩, 12)]
theorem lw_r2 : ∀ q ∈ lw_privs_2, lw_okq q := List.forall_mem_cons.mpr ⟨lw_p16, List.forall_mem_cons.mpr ⟨lw_p17, List.forall_mem_cons.mpr ⟨lw_p18, List.forall_mem_cons.mpr ⟨lw_p19, List.forall_mem_cons.mpr ⟨lw_p20, List.forall_mem_cons.mpr ⟨lw_p21, List.forall_mem_cons.mpr ⟨lw_p22, List.forall_mem_cons.mpr ⟨lw_p23, List.forall_mem_cons.mpr ⟨lw_p24, List.forall_mem_cons.mpr ⟨lw_p25, List.forall_mem_cons.mpr ⟨lw_p26, List.forall_mem_cons.mpr ⟨lw_p27, List.forall_mem_cons.mpr ⟨lw_p28, List.forall_mem_cons.mpr ⟨lw_p29, List.forall_mem_cons.mpr ⟨lw_p30, List.forall_mem_cons.mpr ⟨lw_p31, fun _ h => absurd h List.not_mem_nil⟩⟩⟩⟩⟩⟩⟩⟩⟩⟩⟩⟩⟩⟩⟩⟩
theorem lw_p32 : lw_okq (⟨"SlopeChecker", "isNormal", "(I)Z"⟩, 12) := ⟨⟨by decide +kernel, by decide +kernel⟩, List.mem_of_getElem? (i := 26) (by decide +kernel), List.mem_of_getElem? (i := 952) (by decide +kernel), List.mem_of_getElem? (i := 953) (by decide +kernel)⟩
theorem lw_p33 : lw_okq (⟨"SlopeChecker", "isPart", "(I)Z"⟩, 12) := ⟨⟨by decide +kernel, by decide +kernel⟩, List.mem_of_getElem? (i := 26) (by decide +kernel), List.mem_of_getElem? (i := 965) (by decide +kernel), List.mem_of_getElem? (i := 966) (by decide +kernel)⟩
theorem lw_p34 : lw_okq (⟨"SlopeChecker$Cutter", "meet", "(IILSlopeChecker$Ratio;LSlopeChecker$Ratio;)V"⟩, 9) := ⟨⟨by decide +kernel, by decide +kernel⟩, List.mem_of_getElem? (i := 339) (by decide +kernel), List.mem_of_getElem? (i := 974) (by decide +kernel), List.mem_of_getElem? (i := 975) (by decide +kernel)⟩
theorem lw_p35 : lw_okq (⟨"SlopeChecker$Cutter", "isNewCorner", "(I)Z"⟩, 9) := ⟨⟨by decide +kernel, by decide +kernel⟩, List.mem_of_getElem? (i := 339) (by decide +kernel), List.mem_of_getElem? (i := 983) (by decide +kernel), List.mem_of_getElem? (i := 984) (by decide +kernel)⟩
theorem lw_p36 : lw_okq (⟨"SlopeChecker$Cutter", "orderOfCorners", "(II)I"⟩, 9) := ⟨⟨by decide +kernel, by decide +kernel⟩, List.mem_of_getElem? (i := 339) (by decide +kernel), List.mem_of_getElem? (i := 987) (by decide +kernel), List.mem_of_getElem? (i := 988) (by decide +kernel)⟩
theorem lw_p37 : lw_okq (⟨"SlopeChecker$Cutter", "sinkCorner", "(I)V"⟩, 9) := ⟨⟨by decide +kernel, by decide +kernel⟩, List.mem_of_getElem? (i := 339) (by decide +kernel), List.mem_of_getElem? (i := 1003) (by decide +kernel), List.mem_of_getElem? (i := 1004) (by decide +kernel)⟩
theorem lw_p38 : lw_okq (⟨"SlopeChecker", "regionOf", "(II)LSlopeChecker$Region;"⟩, 12) := ⟨⟨by decide +kernel, by decide +kernel⟩, List.mem_of_getElem? (i := 26) (by decide +kernel), List.mem_of_getElem? (i := 1015) (by decide +kernel), List.mem_of_getElem? (i := 1016) (by decide +kernel)⟩
theorem lw_p39 : lw_okq (⟨"SlopeChecker", "isMode", "(I)Z"⟩, 12) := ⟨⟨by decide +kernel, by decide +kernel⟩, List.mem_of_getElem? (i := 26) (by decide +kernel), List.mem_of_getElem? (i := 1042) (by decide +kernel), List.mem_of_getElem? (i := 1043) (by decide +kernel)⟩
theorem lw_p40 : lw_okq (⟨"SlopeChecker", "noWay", "(I)I"⟩, 12) := ⟨⟨by decide +kernel, by decide +kernel⟩, List.mem_of_getElem? (i := 26) (by decide +kernel), List.mem_of_getElem? (i := 1071) (by decide +kernel), List.mem_of_getElem? (i := 1072) (by decide +kernel)⟩
theorem lw_p41 : lw_okq (⟨"SlopeChecker$Way", "beginLast", "(LSlopeChecker$Model;LSlopeChecker$Part;)V"⟩, 6) := ⟨⟨by decide +kernel, by decide +kernel⟩, List.mem_of_getElem? (i := 532) (by decide +kernel), List.mem_of_getElem? (i := 1080) (by decide +kernel), List.mem_of_getElem? (i := 1081) (by decide +kernel)⟩
theorem lw_p42 : lw_okq (⟨"SlopeChecker$Way", "note", "(II)Z"⟩, 6) := ⟨⟨by decide +kernel, by decide +kernel⟩, List.mem_of_getElem? (i := 532) (by decide +kernel), List.mem_of_getElem? (i := 1091) (by decide +kernel), List.mem_of_getElem? (i := 1092) (by decide +kernel)⟩
theorem lw_p43 : lw_okq (⟨"SlopeChecker$Way", "goBack", "(LSlopeChecker$Model;LSlopeChecker$Part;)V"⟩, 6) := ⟨⟨by decide +kernel, by decide +kernel⟩, List.mem_of_getElem? (i := 532) (by decide +kernel), List.mem_of_getElem? (i := 1100) (by decide +kernel), List.mem_of_getElem? (i := 1101) (by decide +kernel)⟩
theorem lw_p44 : lw_okq (⟨"SlopeChecker$Way", "noteTime", "(I)Z"⟩, 6) := ⟨⟨by decide +kernel, by decide +kernel⟩, List.mem_of_getElem? (i := 532) (by decide +kernel), List.mem_of_getElem? (i := 1106) (by decide +kernel), List.mem_of_getElem? (i := 1107) (by decide +kernel)⟩
theorem lw_p45 : lw_okq (⟨"SlopeChecker$Way", "shift", "(LSlopeChecker$Ratio;J)V"⟩, 6) := ⟨⟨by decide +kernel, by decide +kernel⟩, List.mem_of_getElem? (i := 532) (by decide +kernel), List.mem_of_getElem? (i := 1110) (by decide +kernel), List.mem_of_getElem? (i := 1111) (by decide +kernel)⟩
theorem lw_p46 : lw_okq (⟨"SlopeChecker$Way", "jumpBack", "(LSlopeChecker$Model;ILSlopeChecker$Region;)V"⟩, 6) := ⟨⟨by decide +kernel, by decide +kernel⟩, List.mem_of_getElem? (i := 532) (by decide +kernel), List.mem_of_getElem? (i := 1114) (by decide +kernel), List.mem_of_getElem? (i := 1115) (by decide +kernel)⟩
theorem lw_p47 : lw_okq (⟨"SlopeChecker$Cutter", "leastOf", "([ILSlopeChecker$Ratio;[ILSlopeChecker$Ratio;)V"⟩, 9) := ⟨⟨by decide +kernel, by decide +kernel⟩, List.mem_of_getElem? (i := 339) (by decide +kernel), List.mem_of_getElem? (i := 1122) (by decide +kernel), List.mem_of_getElem? (i := 1123) (by decide +kernel)⟩
def lw_privs_3 : List (MethodName × Nat) := [(⟨"SlopeChecker", "isNormal", "(I)Z"⟩, 12), (⟨"SlopeChecker", "isPart", "(I)Z"⟩, 12), (⟨"SlopeChecker$Cutter", "meet", "(IILSlopeChecker$Ratio;LSlopeChecker$Ratio;)V"⟩, 9), (⟨"SlopeChecker$Cutter", "isNewCorner", "(I)Z"⟩, 9), (⟨"SlopeChecker$Cutter", "orderOfCorners", "(II)I"⟩, 9), (⟨"SlopeChecker$Cutter", "sinkCorner", "(I)V"⟩, 9), (⟨"SlopeChecker", "regionOf", "(II)LSlopeChecker$Region;"⟩, 12), (⟨"SlopeChecker", "isMode", "(I)Z"⟩, 12), (⟨"SlopeChecker", "noWay", "(I)I"⟩, 12), (⟨"SlopeChecker$Way", "beginLast", "(LSlopeChecker$Model;LSlopeChecker$Part;)V"⟩, 6), (⟨"SlopeChecker$Way", "note", "(II)Z"⟩, 6), (⟨"SlopeChecker$Way", "goBack", "(LSlopeChecker$Model;LSlopeChecker$Part;)V"⟩, 6), (⟨"SlopeChecker$Way", "noteTime", "(I)Z"⟩, 6), (⟨"SlopeChecker$Way", "shift", "(LSlopeChecker$Ratio;J)V"⟩, 6), (⟨"SlopeChecker$Way", "jumpBack", "(LSlopeChecker$Model;ILSlopeChecker$Region;)V"⟩, 6), (⟨"SlopeChecker$Cutter", "leastOf", "([ILSlopeChecker$Ratio;[ILSlopeChecker$Ratio;)V"⟩, 9)]
theorem lw_r3 : ∀ q ∈ lw_privs_3, lw_okq q := List.forall_mem_cons.mpr ⟨lw_p32, List.forall_mem_cons.mpr ⟨lw_p33, List.forall_mem_cons.mpr ⟨lw_p34, List.forall_mem_cons.mpr ⟨lw_p35, List.forall_mem_cons.mpr ⟨lw_p36, List.forall_mem_cons.mpr ⟨lw_p37, List.forall_mem_cons.mpr ⟨lw_p38, List.forall_mem_cons.mpr ⟨lw_p39, List.forall_mem_cons.mpr ⟨lw_p40, List.forall_mem_cons.mpr ⟨lw_p41, List.forall_mem_cons.mpr ⟨lw_p42, List.forall_mem_cons.mpr ⟨lw_p43, List.forall_mem_cons.mpr ⟨lw_p44, List.forall_mem_cons.mpr ⟨lw_p45, List.forall_mem_cons.mpr ⟨lw_p46, List.forall_mem_cons.mpr ⟨lw_p47, fun _ h => absurd h List.not_mem_nil⟩⟩⟩⟩⟩⟩⟩⟩⟩⟩⟩⟩⟩⟩⟩⟩
theorem lw_p48 : lw_okq (⟨"SlopeChecker$Ride", "note", "(II)V"⟩, 17) := ⟨⟨by decide +kernel, by decide +kernel⟩, List.mem_of_getElem? (i := 562) (by decide +kernel), List.mem_of_getElem? (i := 1161) (by decide +kernel), List.mem_of_getElem? (i := 1162) (by decide +kernel)⟩
theorem lw_p49 : lw_okq (⟨"SlopeChecker$Ride", "firstEdge", "(LSlopeChecker$Model;I)I"⟩, 17) := ⟨⟨by decide +kernel, by decide +kernel⟩, List.mem_of_getElem? (i := 562) (by decide +kernel), List.mem_of_getElem? (i := 1165) (by decide +kernel), List.mem_of_getElem? (i := 1166) (by decide +kernel)⟩
theorem lw_p50 : lw_okq (⟨"SlopeChecker$Ride", "canTake", "(LSlopeChecker$Model;I)Z"⟩, 17) := ⟨⟨by decide +kernel, by decide +kernel⟩, List.mem_of_getElem? (i := 562) (by decide +kernel), List.mem_of_getElem? (i := 1169) (by decide +kernel), List.mem_of_getElem? (i := 1170) (by decide +kernel)⟩
theorem lw_p51 : lw_okq (⟨"SlopeChecker$Ride", "narrow", "(LSlopeChecker$Bounds;)V"⟩, 17) := ⟨⟨by decide +kernel, by decide +kernel⟩, List.mem_of_getElem? (i := 562) (by decide +kernel), List.mem_of_getElem? (i := 1173) (by decide +kernel), List.mem_of_getElem? (i := 1174) (by decide +kernel)⟩
theorem lw_p52 : lw_okq (⟨"SlopeChecker$Ride", "narrowBy", "(JJJ)V"⟩, 17) := ⟨⟨by decide +kernel, by decide +kernel⟩, List.mem_of_getElem? (i := 562) (by decide +kernel), List.mem_of_getElem? (i := 1177) (by decide +kernel), List.mem_of_getElem? (i := 1178) (by decide +kernel)⟩
theorem lw_p53 : lw_okq (⟨"SlopeChecker$Ride", "narrowToMode", "(LSlopeChecker$Bounds;)V"⟩, 17) := ⟨⟨by decide +kernel, by decide +kernel⟩, List.mem_of_getElem? (i := 562) (by decide +kernel), List.mem_of_getElem? (i := 1181) (by decide +kernel), List.mem_of_getElem? (i := 1182) (by decide +kernel)⟩
theorem lw_p54 : lw_okq (⟨"SlopeChecker$Ride", "jump", "(LSlopeChecker$Model;II)Z"⟩, 17) := ⟨⟨by decide +kernel, by decide +kernel⟩, List.mem_of_getElem? (i := 562) (by decide +kernel), List.mem_of_getElem? (i := 1187) (by decide +kernel), List.mem_of_getElem? (i := 1188) (by decide +kernel)⟩
theorem lw_p55 : lw_okq (⟨"SlopeChecker$Ride", "moveSize", "(LSlopeChecker$Ratio;JIJ)V"⟩, 17) := ⟨⟨by decide +kernel, by decide +kernel⟩, List.mem_of_getElem? (i := 562) (by decide +kernel), List.mem_of_getElem? (i := 1192) (by decide +kernel), List.mem_of_getElem? (i := 1193) (by decide +kernel)⟩
theorem lw_p56 : lw_okq (⟨"SlopeChecker", "foresee", "(II)I"⟩, 12) := ⟨⟨by decide +kernel, by decide +kernel⟩, List.mem_of_getElem? (i := 26) (by decide +kernel), List.mem_of_getElem? (i := 1218) (by decide +kernel), List.mem_of_getElem? (i := 1219) (by decide +kernel)⟩
theorem lw_p57 : lw_okq (⟨"java/lang/Throwable", "fillInStackTrace", "(I)Ljava/lang/Throwable;"⟩, 6) := ⟨⟨by decide +kernel, by decide +kernel⟩, List.mem_of_getElem? (i := 1284) (by decide +kernel), List.mem_of_getElem? (i := 1282) (by decide +kernel), List.mem_of_getElem? (i := 1283) (by decide +kernel)⟩
theorem lw_p58 : lw_okq (⟨"SlopeCheckerModel", "readText", "(I)V"⟩, 55) := ⟨⟨by decide +kernel, by decide +kernel⟩, List.mem_of_getElem? (i := 1334) (by decide +kernel), List.mem_of_getElem? (i := 1340) (by decide +kernel), List.mem_of_getElem? (i := 1341) (by decide +kernel)⟩
theorem lw_p59 : lw_okq (⟨"SlopeCheckerModel", "normalFor", "(III)I"⟩, 55) := ⟨⟨by decide +kernel, by decide +kernel⟩, List.mem_of_getElem? (i := 1334) (by decide +kernel), List.mem_of_getElem? (i := 1344) (by decide +kernel), List.mem_of_getElem? (i := 1345) (by decide +kernel)⟩
theorem lw_p60 : lw_okq (⟨"SlopeCheckerModel", "wrongAt", "(II)V"⟩, 55) := ⟨⟨by decide +kernel, by decide +kernel⟩, List.mem_of_getElem? (i := 1334) (by decide +kernel), List.mem_of_getElem? (i := 1354) (by decide +kernel), List.mem_of_getElem? (i := 1355) (by decide +kernel)⟩
theorem lw_p61 : lw_okq (⟨"SlopeCheckerModel", "token", "()V"⟩, 55) := ⟨⟨by decide +kernel, by decide +kernel⟩, List.mem_of_getElem? (i := 1334) (by decide +kernel), List.mem_of_getElem? (i := 1358) (by decide +kernel), List.mem_of_getElem? (i := 1359) (by decide +kernel)⟩
theorem lw_p62 : lw_okq (⟨"SlopeCheckerModel", "here", "()I"⟩, 55) := ⟨⟨by decide +kernel, by decide +kernel⟩, List.mem_of_getElem? (i := 1334) (by decide +kernel), List.mem_of_getElem? (i := 1362) (by decide +kernel), List.mem_of_getElem? (i := 1363) (by decide +kernel)⟩
theorem lw_p63 : lw_okq (⟨"SlopeCheckerModel", "wordHere", "()I"⟩, 55) := ⟨⟨by decide +kernel, by decide +kernel⟩, List.mem_of_getElem? (i := 1334) (by decide +kernel), List.mem_of_getElem? (i := 1369) (by decide +kernel), List.mem_of_getElem? (i := 1370) (by decide +kernel)⟩
def lw_privs_4 : List (MethodName × Nat) := [(⟨"SlopeChecker$Ride", "note", "(II)V"⟩, 17), (⟨"SlopeChecker$Ride", "firstEdge", "(LSlopeChecker$Model;I)I"⟩, 17), (⟨"SlopeChecker$Ride", "canTake", "(LSlopeChecker$Model;I)Z"⟩, 17), (⟨"SlopeChecker$Ride", "narrow", "(LSlopeChecker$Bounds;)V"⟩, 17), (⟨"SlopeChecker$Ride", "narrowBy", "(JJJ)V"⟩, 17), (⟨"SlopeChecker$Ride", "narrowToMode", "(LSlopeChecker$Bounds;)V"⟩, 17), (⟨"SlopeChecker$Ride", "jump", "(LSlopeChecker$Model;II)Z"⟩, 17), (⟨"SlopeChecker$Ride", "moveSize", "(LSlopeChecker$Ratio;JIJ)V"⟩, 17), (⟨"SlopeChecker", "foresee", "(II)I"⟩, 12), (⟨"java/lang/Throwable", "fillInStackTrace", "(I)Ljava/lang/Throwable;"⟩, 6), (⟨"SlopeCheckerModel", "readText", "(I)V"⟩, 55), (⟨"SlopeCheckerModel", "normalFor", "(III)I"⟩, 55), (⟨"SlopeCheckerModel", "wrongAt", "(II)V"⟩, 55), (⟨"SlopeCheckerModel", "token", "()V"⟩, 55), (⟨"SlopeCheckerModel", "here", "()I"⟩, 55), (⟨"SlopeCheckerModel", "wordHere", "()I"⟩, 55)]
theorem lw_r4 : ∀ q ∈ lw_privs_4, lw_okq q := List.forall_mem_cons.mpr ⟨lw_p48, List.forall_mem_cons.mpr ⟨lw_p49, List.forall_mem_cons.mpr ⟨lw_p50, List.forall_mem_cons.mpr ⟨lw_p51, List.forall_mem_cons.mpr ⟨lw_p52, List.forall_mem_cons.mpr ⟨lw_p53, List.forall_mem_cons.mpr ⟨lw_p54, List.forall_mem_cons.mpr ⟨lw_p55, List.forall_mem_cons.mpr ⟨lw_p56, List.forall_mem_cons.mpr ⟨lw_p57, List.forall_mem_cons.mpr ⟨lw_p58, List.forall_mem_cons.mpr ⟨lw_p59, List.forall_mem_cons.mpr ⟨lw_p60, List.forall_mem_cons.mpr ⟨lw_p61, List.forall_mem_cons.mpr ⟨lw_p62, List.forall_mem_cons.mpr ⟨lw_p63, fun _ h => absurd h List.not_mem_nil⟩⟩⟩⟩⟩⟩⟩⟩⟩⟩⟩⟩⟩⟩⟩⟩
theorem lw_p64 : lw_okq (⟨"SlopeCheckerModel", "readLine", "()V"⟩, 55) := ⟨⟨by decide +kernel, by decide +kernel⟩, List.mem_of_getElem? (i := 1334) (by decide +kernel), List.mem_of_getElem? (i := 1380) (by decide +kernel), List.mem_of_getElem? (i := 1381) (by decide +kernel)⟩
theorem lw_p65 : lw_okq (⟨"SlopeCheckerModel", "readOwn", "(I)V"⟩, 55) := ⟨⟨by decide +kernel, by decide +kernel⟩, List.mem_of_getElem? (i := 1334) (by decide +kernel), List.mem_of_getElem? (i := 1384) (by decide +kernel), List.mem_of_getElem? (i := 1385) (by decide +kernel)⟩
theorem lw_p66 : lw_okq (⟨"SlopeCheckerModel", "wrong", "(I)V"⟩, 55) := ⟨⟨by decide +kernel, by decide +kernel⟩, List.mem_of_getElem? (i := 1334) (by decide +kernel), List.mem_of_getElem? (i := 1388) (by decide +kernel), List.mem_of_getElem? (i := 1389) (by decide +kernel)⟩
theorem lw_p67 : lw_okq (⟨"SlopeCheckerModel", "goOn", "()V"⟩, 55) := ⟨⟨by decide +kernel, by decide +kernel⟩, List.mem_of_getElem? (i := 1334) (by decide +kernel), List.mem_of_getElem? (i := 1392) (by decide +kernel), List.mem_of_getElem? (i := 1393) (by decide +kernel)⟩
theorem lw_p68 : lw_okq (⟨"SlopeCheckerModel", "isName", "()Z"⟩, 55) := ⟨⟨by decide +kernel, by decide +kernel⟩, List.mem_of_getElem? (i := 1334) (by decide +kernel), List.mem_of_getElem? (i := 1396) (by decide +kernel), List.mem_of_getElem? (i := 1397) (by decide +kernel)⟩
theorem lw_p69 : lw_okq (⟨"SlopeCheckerModel", "modeOf", "()I"⟩, 55) := ⟨⟨by decide +kernel, by decide +kernel⟩, List.mem_of_getElem? (i := 1334) (by decide +kernel), List.mem_of_getElem? (i := 1400) (by decide +kernel), List.mem_of_getElem? (i := 1401) (by decide +kernel)⟩
theorem lw_p70 : lw_okq (⟨"SlopeCheckerModel", "number", "(II)I"⟩, 55) := ⟨⟨by decide +kernel, by decide +kernel⟩, List.mem_of_getElem? (i := 1334) (by decide +kernel), List.mem_of_getElem? (i := 1404) (by decide +kernel), List.mem_of_getElem? (i := 1405) (by decide +kernel)⟩
theorem lw_p71 : lw_okq (⟨"SlopeCheckerModel", "numeral", "(IIZ)I"⟩, 55) := ⟨⟨by decide +kernel, by decide +kernel⟩, List.mem_of_getElem? (i := 1334) (by decide +kernel), List.mem_of_getElem? (i := 1408) (by decide +kernel), List.mem_of_getElem? (i := 1409) (by decide +kernel)⟩
theorem lw_p72 : lw_okq (⟨"SlopeCheckerModel", "isSign", "(I)Z"⟩, 55) := ⟨⟨by decide +kernel, by decide +kernel⟩, List.mem_of_getElem? (i := 1334) (by decide +kernel), List.mem_of_getElem? (i := 1412) (by decide +kernel), List.mem_of_getElem? (i := 1413) (by decide +kernel)⟩
theorem lw_p73 : lw_okq (⟨"SlopeCheckerModel", "readKept", "(II)V"⟩, 55) := ⟨⟨by decide +kernel, by decide +kernel⟩, List.mem_of_getElem? (i := 1334) (by decide +kernel), List.mem_of_getElem? (i := 1416) (by decide +kernel), List.mem_of_getElem? (i := 1417) (by decide +kernel)⟩
theorem lw_p74 : lw_okq (⟨"SlopeCheckerModel", "readMode", "()I"⟩, 55) := ⟨⟨by decide +kernel, by decide +kernel⟩, List.mem_of_getElem? (i := 1334) (by decide +kernel), List.mem_of_getElem? (i := 1420) (by decide +kernel), List.mem_of_getElem? (i := 1421) (by decide +kernel)⟩
theorem lw_p75 : lw_okq (⟨"SlopeCheckerModel", "readBound", "(II)V"⟩, 55) := ⟨⟨by decide +kernel, by decide +kernel⟩, List.mem_of_getElem? (i := 1334) (by decide +kernel), List.mem_of_getElem? (i := 1424) (by decide +kernel), List.mem_of_getElem? (i := 1425) (by decide +kernel)⟩
theorem lw_p76 : lw_okq (⟨"SlopeCheckerModel", "readEdge", "()V"⟩, 55) := ⟨⟨by decide +kernel, by decide +kernel⟩, List.mem_of_getElem? (i := 1334) (by decide +kernel), List.mem_of_getElem? (i := 1428) (by decide +kernel), List.mem_of_getElem? (i := 1429) (by decide +kernel)⟩
theorem lw_p77 : lw_okq (⟨"SlopeCheckerModel", "readWhen", "(I)V"⟩, 55) := ⟨⟨by decide +kernel, by decide +kernel⟩, List.mem_of_getElem? (i := 1334) (by decide +kernel), List.mem_of_getElem? (i := 1432) (by decide +kernel), List.mem_of_getElem? (i := 1433) (by decide +kernel)⟩
theorem lw_p78 : lw_okq (⟨"SlopeCheckerModel", "latest", "()I"⟩, 55) := ⟨⟨by decide +kernel, by decide +kernel⟩, List.mem_of_getElem? (i := 1334) (by decide +kernel), List.mem_of_getElem? (i := 1436) (by decide +kernel), List.mem_of_getElem? (i := 1437) (by decide +kernel)⟩
theorem lw_p79 : lw_okq (⟨"SlopeCheckerModel", "readDeed", "(II)V"⟩, 55) := ⟨⟨by decide +kernel, by decide +kernel⟩, List.mem_of_getElem? (i := 1334) (by decide +kernel), List.mem_of_getElem? (i := 1440) (by decide +kernel), List.mem_of_getElem? (i := 1441) (by decide +kernel)⟩
def lw_privs_5 : List (MethodName × Nat) := [(⟨"SlopeCheckerModel", "readLine", "()V"⟩, 55), (⟨"SlopeCheckerModel", "readOwn", "(I)V"⟩, 55), (⟨"SlopeCheckerModel", "wrong", "(I)V"⟩, 55), (⟨"SlopeCheckerModel", "goOn", "()V"⟩, 55), (⟨"SlopeCheckerModel", "isName", "()Z"⟩, 55), (⟨"SlopeCheckerModel", "modeOf", "()I"⟩, 55), (⟨"SlopeCheckerModel", "number", "(II)I"⟩, 55), (⟨"SlopeCheckerModel", "numeral", "(IIZ)I"⟩, 55), (⟨"SlopeCheckerModel", "isSign", "(I)Z"⟩, 55), (⟨"SlopeCheckerModel", "readKept", "(II)V"⟩, 55), (⟨"SlopeCheckerModel", "readMode", "()I"⟩, 55), (⟨"SlopeCheckerModel", "readBound", "(II)V"⟩, 55), (⟨"SlopeCheckerModel", "readEdge", "()V"⟩, 55), (⟨"SlopeCheckerModel", "readWhen", "(I)V"⟩, 55), (⟨"SlopeCheckerModel", "latest", "()I"⟩, 55), (⟨"SlopeCheckerModel", "readDeed", "(II)V"⟩, 55)]
theorem lw_r5 : ∀ q ∈ lw_privs_5, lw_okq q := List.forall_mem_cons.mpr ⟨lw_p64, List.forall_mem_cons.mpr ⟨lw_p65, List.forall_mem_cons.mpr ⟨lw_p66, List.forall_mem_cons.mpr ⟨lw_p67, List.forall_mem_cons.mpr ⟨lw_p68, List.forall_mem_cons.mpr ⟨lw_p69, List.forall_mem_cons.mpr ⟨lw_p70, List.forall_mem_cons.mpr ⟨lw_p71, List.forall_mem_cons.mpr ⟨lw_p72, List.forall_mem_cons.mpr ⟨lw_p73, List.forall_mem_cons.mpr ⟨lw_p74, List.forall_mem_cons.mpr ⟨lw_p75, List.forall_mem_cons.mpr ⟨lw_p76, List.forall_mem_cons.mpr ⟨lw_p77, List.forall_mem_cons.mpr ⟨lw_p78, List.forall_mem_cons.mpr ⟨lw_p79, fun _ h => absurd h List.not_mem_nil⟩⟩⟩⟩⟩⟩⟩⟩⟩⟩⟩⟩⟩⟩⟩⟩
theorem lw_p80 : lw_okq (⟨"SlopeCheckerModel", "readStart", "()V"⟩, 55) := ⟨⟨by decide +kernel, by decide +kernel⟩, List.mem_of_getElem? (i := 1334) (by decide +kernel), List.mem_of_getElem? (i := 1444) (by decide +kernel), List.mem_of_getElem? (i := 1445) (by decide +kernel)⟩
theorem lw_p81 : lw_okq (⟨"SlopeCheckerModel", "readMost", "()V"⟩, 55) := ⟨⟨by decide +kernel, by decide +kernel⟩, List.mem_of_getElem? (i := 1334) (by decide +kernel), List.mem_of_getElem? (i := 1448) (by decide +kernel), List.mem_of_getElem? (i := 1449) (by decide +kernel)⟩
theorem lw_p82 : lw_okq (⟨"SlopeCheckerModel", "becomes", "()V"⟩, 55) := ⟨⟨by decide +kernel, by decide +kernel⟩, List.mem_of_getElem? (i := 1334) (by decide +kernel), List.mem_of_getElem? (i := 1452) (by decide +kernel), List.mem_of_getElem? (i := 1453) (by decide +kernel)⟩
theorem lw_p83 : lw_okq (⟨"SlopeCheckerModel", "begins", "()V"⟩, 55) := ⟨⟨by decide +kernel, by decide +kernel⟩, List.mem_of_getElem? (i := 1334) (by decide +kernel), List.mem_of_getElem? (i := 1456) (by decide +kernel), List.mem_of_getElem? (i := 1457) (by decide +kernel)⟩
theorem lw_p84 : lw_okq (⟨"SlopeCheckerModel", "clears", "()V"⟩, 55) := ⟨⟨by decide +kernel, by decide +kernel⟩, List.mem_of_getElem? (i := 1334) (by decide +kernel), List.mem_of_getElem? (i := 1460) (by decide +kernel), List.mem_of_getElem? (i := 1461) (by decide +kernel)⟩
theorem lw_p85 : lw_okq (⟨"SlopeCheckerModel", "normals", "()I"⟩, 55) := ⟨⟨by decide +kernel, by decide +kernel⟩, List.mem_of_getElem? (i := 1334) (by decide +kernel), List.mem_of_getElem? (i := 1464) (by decide +kernel), List.mem_of_getElem? (i := 1465) (by decide +kernel)⟩
theorem lw_p86 : lw_okq (⟨"SlopeCheckerModel", "sets", "(IJ)V"⟩, 55) := ⟨⟨by decide +kernel, by decide +kernel⟩, List.mem_of_getElem? (i := 1334) (by decide +kernel), List.mem_of_getElem? (i := 1468) (by decide +kernel), List.mem_of_getElem? (i := 1469) (by decide +kernel)⟩
theorem lw_p87 : lw_okq (⟨"SlopeCheckerModel", "kept", "(I)V"⟩, 55) := ⟨⟨by decide +kernel, by decide +kernel⟩, List.mem_of_getElem? (i := 1334) (by decide +kernel), List.mem_of_getElem? (i := 1472) (by decide +kernel), List.mem_of_getElem? (i := 1473) (by decide +kernel)⟩
theorem lw_p88 : lw_okq (⟨"SlopeCheckerModel", "boxed", "()V"⟩, 55) := ⟨⟨by decide +kernel, by decide +kernel⟩, List.mem_of_getElem? (i := 1334) (by decide +kernel), List.mem_of_getElem? (i := 1476) (by decide +kernel), List.mem_of_getElem? (i := 1477) (by decide +kernel)⟩
theorem lw_p89 : lw_okq (⟨"SlopeCheckerModel", "cuts", "(IJJ)V"⟩, 55) := ⟨⟨by decide +kernel, by decide +kernel⟩, List.mem_of_getElem? (i := 1334) (by decide +kernel), List.mem_of_getElem? (i := 1481) (by decide +kernel), List.mem_of_getElem? (i := 1482) (by decide +kernel)⟩
theorem lw_p90 : lw_okq (⟨"SlopeCheckerModel", "cutsBy", "(II)V"⟩, 55) := ⟨⟨by decide +kernel, by decide +kernel⟩, List.mem_of_getElem? (i := 1334) (by decide +kernel), List.mem_of_getElem? (i := 1494) (by decide +kernel), List.mem_of_getElem? (i := 1495) (by decide +kernel)⟩
theorem lw_p91 : lw_okq (⟨"SlopeCheckerModel", "tightens", "()Z"⟩, 55) := ⟨⟨by decide +kernel, by decide +kernel⟩, List.mem_of_getElem? (i := 1334) (by decide +kernel), List.mem_of_getElem? (i := 1498) (by decide +kernel), List.mem_of_getElem? (i := 1499) (by decide +kernel)⟩
theorem lw_p92 : lw_okq (⟨"SlopeCheckerModel", "isCorner", "(II)Z"⟩, 55) := ⟨⟨by decide +kernel, by decide +kernel⟩, List.mem_of_getElem? (i := 1334) (by decide +kernel), List.mem_of_getElem? (i := 1502) (by decide +kernel), List.mem_of_getElem? (i := 1503) (by decide +kernel)⟩
theorem lw_p93 : lw_okq (⟨"SlopeCheckerModel", "ofNormal", "(II)J"⟩, 55) := ⟨⟨by decide +kernel, by decide +kernel⟩, List.mem_of_getElem? (i := 1334) (by decide +kernel), List.mem_of_getElem? (i := 1506) (by decide +kernel), List.mem_of_getElem? (i := 1507) (by decide +kernel)⟩
theorem lw_p94 : lw_okq (⟨"SlopeCheckerModel", "isTooFar", "()Z"⟩, 55) := ⟨⟨by decide +kernel, by decide +kernel⟩, List.mem_of_getElem? (i := 1334) (by decide +kernel), List.mem_of_getElem? (i := 1513) (by decide +kernel), List.mem_of_getElem? (i := 1514) (by decide +kernel)⟩
theorem lw_p95 : lw_okq (⟨"SlopeCheckerModel", "halts", "(I)V"⟩, 55) := ⟨⟨by decide +kernel, by decide +kernel⟩, List.mem_of_getElem? (i := 1334) (by decide +kernel), List.mem_of_getElem? (i := 1523) (by decide +kernel), List.mem_of_getElem? (i := 1524) (by decide +kernel)⟩
def lw_privs_6 : List (MethodName × Nat) := [(⟨"SlopeCheckerModel", "readStart", "()V"⟩, 55), (⟨"SlopeCheckerModel", "readMost", "()V"⟩, 55), (⟨"SlopeCheckerModel", "becomes", "()V"⟩, 55), (⟨"SlopeCheckerModel", "begins", "()V"⟩, 55), (⟨"SlopeCheckerModel", "clears", "()V"⟩, 55), (⟨"SlopeCheckerModel", "normals", "()I"⟩, 55), (⟨"SlopeCheckerModel", "sets", "(IJ)V"⟩, 55), (⟨"SlopeCheckerModel", "kept", "(I)V"⟩, 55), (⟨"SlopeCheckerModel", "boxed", "()V"⟩, 55), (⟨"SlopeCheckerModel", "cuts", "(IJJ)V"⟩, 55), (⟨"SlopeCheckerModel", "cutsBy", "(II)V"⟩, 55), (⟨"SlopeCheckerModel", "tightens", "()Z"⟩, 55), (⟨"SlopeCheckerModel", "isCorner", "(II)Z"⟩, 55), (⟨"SlopeCheckerModel", "ofNormal", "(II)J"⟩, 55), (⟨"SlopeCheckerModel", "isTooFar", "()Z"⟩, 55), (⟨"SlopeCheckerModel", "halts", "(I)V"⟩, 55)]
theorem lw_r6 : ∀ q ∈ lw_privs_6, lw_okq q := List.forall_mem_cons.mpr ⟨lw_p80, List.forall_mem_cons.mpr ⟨lw_p81, List.forall_mem_cons.mpr ⟨lw_p82, List.forall_mem_cons.mpr ⟨lw_p83, List.forall_mem_cons.mpr ⟨lw_p84, List.forall_mem_cons.mpr ⟨lw_p85, List.forall_mem_cons.mpr ⟨lw_p86, List.forall_mem_cons.mpr ⟨lw_p87, List.forall_mem_cons.mpr ⟨lw_p88, List.forall_mem_cons.mpr ⟨lw_p89, List.forall_mem_cons.mpr ⟨lw_p90, List.forall_mem_cons.mpr ⟨lw_p91, List.forall_mem_cons.mpr ⟨lw_p92, List.forall_mem_cons.mpr ⟨lw_p93, List.forall_mem_cons.mpr ⟨lw_p94, List.forall_mem_cons.mpr ⟨lw_p95, fun _ h => absurd h List.not_mem_nil⟩⟩⟩⟩⟩⟩⟩⟩⟩⟩⟩⟩⟩⟩⟩⟩
theorem lw_p96 : lw_okq (⟨"SlopeCheckerModel", "laysSet", "(II)V"⟩, 55) := ⟨⟨by decide +kernel, by decide +kernel⟩, List.mem_of_getElem? (i := 1334) (by decide +kernel), List.mem_of_getElem? (i := 1527) (by decide +kernel), List.mem_of_getElem? (i := 1528) (by decide +kernel)⟩
theorem lw_p97 : lw_okq (⟨"SlopeCheckerModel", "grows", "(I)Z"⟩, 55) := ⟨⟨by decide +kernel, by decide +kernel⟩, List.mem_of_getElem? (i := 1334) (by decide +kernel), List.mem_of_getElem? (i := 1534) (by decide +kernel), List.mem_of_getElem? (i := 1535) (by decide +kernel)⟩
theorem lw_p98 : lw_okq (⟨"SlopeCheckerModel", "makes", "(IIIIZ)V"⟩, 55) := ⟨⟨by decide +kernel, by decide +kernel⟩, List.mem_of_getElem? (i := 1334) (by decide +kernel), List.mem_of_getElem? (i := 1538) (by decide +kernel), List.mem_of_getElem? (i := 1539) (by decide +kernel)⟩
theorem lw_p99 : lw_okq (⟨"SlopeCheckerModel", "isHarm", "(I)Z"⟩, 55) := ⟨⟨by decide +kernel, by decide +kernel⟩, List.mem_of_getElem? (i := 1334) (by decide +kernel), List.mem_of_getElem? (i := 1542) (by decide +kernel), List.mem_of_getElem? (i := 1543) (by decide +kernel)⟩
theorem lw_p100 : lw_okq (⟨"SlopeCheckerModel", "isSome", "()Z"⟩, 55) := ⟨⟨by decide +kernel, by decide +kernel⟩, List.mem_of_getElem? (i := 1334) (by decide +kernel), List.mem_of_getElem? (i := 1546) (by decide +kernel), List.mem_of_getElem? (i := 1547) (by decide +kernel)⟩
theorem lw_p101 : lw_okq (⟨"SlopeCheckerModel", "runs", "(I)I"⟩, 55) := ⟨⟨by decide +kernel, by decide +kernel⟩, List.mem_of_getElem? (i := 1334) (by decide +kernel), List.mem_of_getElem? (i := 1737) (by decide +kernel), List.mem_of_getElem? (i := 1738) (by decide +kernel)⟩
theorem lw_p102 : lw_okq (⟨"SlopeCheckerModel", "firstOpen", "()I"⟩, 55) := ⟨⟨by decide +kernel, by decide +kernel⟩, List.mem_of_getElem? (i := 1334) (by decide +kernel), List.mem_of_getElem? (i := 1741) (by decide +kernel), List.mem_of_getElem? (i := 1742) (by decide +kernel)⟩
theorem lw_p103 : lw_okq (⟨"SlopeCheckerModel", "its", "(II)I"⟩, 55) := ⟨⟨by decide +kernel, by decide +kernel⟩, List.mem_of_getElem? (i := 1334) (by decide +kernel), List.mem_of_getElem? (i := 1745) (by decide +kernel), List.mem_of_getElem? (i := 1746) (by decide +kernel)⟩
theorem lw_p104 : lw_okq (⟨"SlopeCheckerModel", "goes", "(II)V"⟩, 55) := ⟨⟨by decide +kernel, by decide +kernel⟩, List.mem_of_getElem? (i := 1334) (by decide +kernel), List.mem_of_getElem? (i := 1752) (by decide +kernel), List.mem_of_getElem? (i := 1753) (by decide +kernel)⟩
theorem lw_p105 : lw_okq (⟨"SlopeCheckerModel", "takesSet", "(II)V"⟩, 55) := ⟨⟨by decide +kernel, by decide +kernel⟩, List.mem_of_getElem? (i := 1334) (by decide +kernel), List.mem_of_getElem? (i := 1756) (by decide +kernel), List.mem_of_getElem? (i := 1757) (by decide +kernel)⟩
theorem lw_p106 : lw_okq (⟨"SlopeCheckerModel", "jumps", "(I)V"⟩, 55) := ⟨⟨by decide +kernel, by decide +kernel⟩, List.mem_of_getElem? (i := 1334) (by decide +kernel), List.mem_of_getElem? (i := 1760) (by decide +kernel), List.mem_of_getElem? (i := 1761) (by decide +kernel)⟩
theorem lw_p107 : lw_okq (⟨"SlopeCheckerModel", "comes", "(III)V"⟩, 55) := ⟨⟨by decide +kernel, by decide +kernel⟩, List.mem_of_getElem? (i := 1334) (by decide +kernel), List.mem_of_getElem? (i := 1764) (by decide +kernel), List.mem_of_getElem? (i := 1765) (by decide +kernel)⟩
theorem lw_p108 : lw_okq (⟨"SlopeCheckerModel", "isCovered", "(I)Z"⟩, 55) := ⟨⟨by decide +kernel, by decide +kernel⟩, List.mem_of_getElem? (i := 1334) (by decide +kernel), List.mem_of_getElem? (i := 1768) (by decide +kernel), List.mem_of_getElem? (i := 1769) (by decide +kernel)⟩
theorem lw_p109 : lw_okq (⟨"SlopeCheckerModel", "isWithin", "(I)Z"⟩, 55) := ⟨⟨by decide +kernel, by decide +kernel⟩, List.mem_of_getElem? (i := 1334) (by decide +kernel), List.mem_of_getElem? (i := 1772) (by decide +kernel), List.mem_of_getElem? (i := 1773) (by decide +kernel)⟩
theorem lw_p110 : lw_okq (⟨"SlopeCheckerModel", "livingOf", "(I)I"⟩, 55) := ⟨⟨by decide +kernel, by decide +kernel⟩, List.mem_of_getElem? (i := 1334) (by decide +kernel), List.mem_of_getElem? (i := 1776) (by decide +kernel), List.mem_of_getElem? (i := 1777) (by decide +kernel)⟩
theorem lw_p111 : lw_okq (⟨"SlopeCheckerModel", "joins", "(I)V"⟩, 55) := ⟨⟨by decide +kernel, by decide +kernel⟩, List.mem_of_getElem? (i := 1334) (by decide +kernel), List.mem_of_getElem? (i := 1780) (by decide +kernel), List.mem_of_getElem? (i := 1781) (by decide +kernel)⟩
def lw_privs_7 : List (MethodName × Nat) := [(⟨"SlopeCheckerModel", "laysSet", "(II)V"⟩, 55), (⟨"SlopeCheckerModel", "grows", "(I)Z"⟩, 55), (⟨"SlopeCheckerModel", "makes", "(IIIIZ)V"⟩, 55), (⟨"SlopeCheckerModel", "isHarm", "(I)Z"⟩, 55), (⟨"SlopeCheckerModel", "isSome", "()Z"⟩, 55), (⟨"SlopeCheckerModel", "runs", "(I)I"⟩, 55), (⟨"SlopeCheckerModel", "firstOpen", "()I"⟩, 55), (⟨"SlopeCheckerModel", "its", "(II)I"⟩, 55), (⟨"SlopeCheckerModel", "goes", "(II)V"⟩, 55), (⟨"SlopeCheckerModel", "takesSet", "(II)V"⟩, 55), (⟨"SlopeCheckerModel", "jumps", "(I)V"⟩, 55), (⟨"SlopeCheckerModel", "comes", "(III)V"⟩, 55), (⟨"SlopeCheckerModel", "isCovered", "(I)Z"⟩, 55), (⟨"SlopeCheckerModel", "isWithin", "(I)Z"⟩, 55), (⟨"SlopeCheckerModel", "livingOf", "(I)I"⟩, 55), (⟨"SlopeCheckerModel", "joins", "(I)V"⟩, 55)]
theorem lw_r7 : ∀ q ∈ lw_privs_7, lw_okq q := List.forall_mem_cons.mpr ⟨lw_p96, List.forall_mem_cons.mpr ⟨lw_p97, List.forall_mem_cons.mpr ⟨lw_p98, List.forall_mem_cons.mpr ⟨lw_p99, List.forall_mem_cons.mpr ⟨lw_p100, List.forall_mem_cons.mpr ⟨lw_p101, List.forall_mem_cons.mpr ⟨lw_p102, List.forall_mem_cons.mpr ⟨lw_p103, List.forall_mem_cons.mpr ⟨lw_p104, List.forall_mem_cons.mpr ⟨lw_p105, List.forall_mem_cons.mpr ⟨lw_p106, List.forall_mem_cons.mpr ⟨lw_p107, List.forall_mem_cons.mpr ⟨lw_p108, List.forall_mem_cons.mpr ⟨lw_p109, List.forall_mem_cons.mpr ⟨lw_p110, List.forall_mem_cons.mpr ⟨lw_p111, fun _ h => absurd h List.not_mem_nil⟩⟩⟩⟩⟩⟩⟩⟩⟩⟩⟩⟩⟩⟩⟩⟩
theorem lw_p112 : lw_okq (⟨"SlopeCheckerModel", "safe", "()I"⟩, 55) := ⟨⟨by decide +kernel, by decide +kernel⟩, List.mem_of_getElem? (i := 1334) (by decide +kernel), List.mem_of_getElem? (i := 1788) (by decide +kernel), List.mem_of_getElem? (i := 1789) (by decide +kernel)⟩
theorem lw_p113 : lw_okq (⟨"SlopeCheckerModel", "firstHarmed", "(Z)I"⟩, 55) := ⟨⟨by decide +kernel, by decide +kernel⟩, List.mem_of_getElem? (i := 1334) (by decide +kernel), List.mem_of_getElem? (i := 1792) (by decide +kernel), List.mem_of_getElem? (i := 1793) (by decide +kernel)⟩
theorem lw_p114 : lw_okq (⟨"SlopeCheckerModel", "manyOf", "(I)I"⟩, 55) := ⟨⟨by decide +kernel, by decide +kernel⟩, List.mem_of_getElem? (i := 1334) (by decide +kernel), List.mem_of_getElem? (i := 1796) (by decide +kernel), List.mem_of_getElem? (i := 1797) (by decide +kernel)⟩
theorem lw_p115 : lw_okq (⟨"SlopeCheckerModel", "isMode", "(I)Z"⟩, 55) := ⟨⟨by decide +kernel, by decide +kernel⟩, List.mem_of_getElem? (i := 1334) (by decide +kernel), List.mem_of_getElem? (i := 1804) (by decide +kernel), List.mem_of_getElem? (i := 1805) (by decide +kernel)⟩
theorem lw_p116 : lw_okq (⟨"SlopeCheckerModel", "edgesFrom", "(I)I"⟩, 55) := ⟨⟨by decide +kernel, by decide +kernel⟩, List.mem_of_getElem? (i := 1334) (by decide +kernel), List.mem_of_getElem? (i := 1808) (by decide +kernel), List.mem_of_getElem? (i := 1809) (by decide +kernel)⟩
theorem lw_p117 : lw_okq (⟨"SlopeCheckerModel", "isPart", "(I)Z"⟩, 55) := ⟨⟨by decide +kernel, by decide +kernel⟩, List.mem_of_getElem? (i := 1334) (by decide +kernel), List.mem_of_getElem? (i := 1828) (by decide +kernel), List.mem_of_getElem? (i := 1829) (by decide +kernel)⟩
theorem lw_p118 : lw_okq (⟨"SlopeCheckerModel", "cornersOf", "(II)I"⟩, 55) := ⟨⟨by decide +kernel, by decide +kernel⟩, List.mem_of_getElem? (i := 1334) (by decide +kernel), List.mem_of_getElem? (i := 1832) (by decide +kernel), List.mem_of_getElem? (i := 1833) (by decide +kernel)⟩
theorem lw_p119 : lw_okq (⟨"SlopeCheckerModel", "laysCorner", "()V"⟩, 55) := ⟨⟨by decide +kernel, by decide +kernel⟩, List.mem_of_getElem? (i := 1334) (by decide +kernel), List.mem_of_getElem? (i := 1836) (by decide +kernel), List.mem_of_getElem? (i := 1837) (by decide +kernel)⟩
theorem lw_p120 : lw_okq (⟨"SlopeCheckerModel", "isSet", "(II)Z"⟩, 55) := ⟨⟨by decide +kernel, by decide +kernel⟩, List.mem_of_getElem? (i := 1334) (by decide +kernel), List.mem_of_getElem? (i := 1844) (by decide +kernel), List.mem_of_getElem? (i := 1845) (by decide +kernel)⟩
theorem lw_p121 : lw_okq (⟨"SlopeCheckerModel", "holds", "(JJJ)Z"⟩, 55) := ⟨⟨by decide +kernel, by decide +kernel⟩, List.mem_of_getElem? (i := 1334) (by decide +kernel), List.mem_of_getElem? (i := 1861) (by decide +kernel), List.mem_of_getElem? (i := 1862) (by decide +kernel)⟩
theorem lw_p122 : lw_okq (⟨"SlopeCheckerModel", "partWith", "(IJJJ)I"⟩, 55) := ⟨⟨by decide +kernel, by decide +kernel⟩, List.mem_of_getElem? (i := 1334) (by decide +kernel), List.mem_of_getElem? (i := 1869) (by decide +kernel), List.mem_of_getElem? (i := 1870) (by decide +kernel)⟩
theorem lw_p123 : lw_okq (⟨"SlopeCheckerModel", "laysWay", "(I)Z"⟩, 55) := ⟨⟨by decide +kernel, by decide +kernel⟩, List.mem_of_getElem? (i := 1334) (by decide +kernel), List.mem_of_getElem? (i := 1885) (by decide +kernel), List.mem_of_getElem? (i := 1886) (by decide +kernel)⟩
theorem lw_p124 : lw_okq (⟨"SlopeCheckerModel", "chains", "(I)V"⟩, 55) := ⟨⟨by decide +kernel, by decide +kernel⟩, List.mem_of_getElem? (i := 1334) (by decide +kernel), List.mem_of_getElem? (i := 1889) (by decide +kernel), List.mem_of_getElem? (i := 1890) (by decide +kernel)⟩
theorem lw_p125 : lw_okq (⟨"SlopeCheckerModel", "findsLeast", "()Z"⟩, 55) := ⟨⟨by decide +kernel, by decide +kernel⟩, List.mem_of_getElem? (i := 1334) (by decide +kernel), List.mem_of_getElem? (i := 1893) (by decide +kernel), List.mem_of_getElem? (i := 1894) (by decide +kernel)⟩
theorem lw_p126 : lw_okq (⟨"SlopeCheckerModel", "laysOut", "(I)V"⟩, 55) := ⟨⟨by decide +kernel, by decide +kernel⟩, List.mem_of_getElem? (i := 1334) (by decide +kernel), List.mem_of_getElem? (i := 1897) (by decide +kernel), List.mem_of_getElem? (i := 1898) (by decide +kernel)⟩
theorem lw_p127 : lw_okq (⟨"SlopeCheckerModel", "laysIn", "(I)Z"⟩, 55) := ⟨⟨by decide +kernel, by decide +kernel⟩, List.mem_of_getElem? (i := 1334) (by decide +kernel), List.mem_of_getElem? (i := 1901) (by decide +kernel), List.mem_of_getElem? (i := 1902) (by decide +kernel)⟩
def lw_privs_8 : List (MethodName × Nat) := [(⟨"SlopeCheckerModel", "safe", "()I"⟩, 55), (⟨"SlopeCheckerModel", "firstHarmed", "(Z)I"⟩, 55), (⟨"SlopeCheckerModel", "manyOf", "(I)I"⟩, 55), (⟨"SlopeCheckerModel", "isMode", "(I)Z"⟩, 55), (⟨"SlopeCheckerModel", "edgesFrom", "(I)I"⟩, 55), (⟨"SlopeCheckerModel", "isPart", "(I)Z"⟩, 55), (⟨"SlopeCheckerModel", "cornersOf", "(II)I"⟩, 55), (⟨"SlopeCheckerModel", "laysCorner", "()V"⟩, 55), (⟨"SlopeCheckerModel", "isSet", "(II)Z"⟩, 55), (⟨"SlopeCheckerModel", "holds", "(JJJ)Z"⟩, 55), (⟨"SlopeCheckerModel", "partWith", "(IJJJ)I"⟩, 55), (⟨"SlopeCheckerModel", "laysWay", "(I)Z"⟩, 55), (⟨"SlopeCheckerModel", "chains", "(I)V"⟩, 55), (⟨"SlopeCheckerModel", "findsLeast", "()Z"⟩, 55), (⟨"SlopeCheckerModel", "laysOut", "(I)V"⟩, 55), (⟨"SlopeCheckerModel", "laysIn", "(I)Z"⟩, 55)]
theorem lw_r8 : ∀ q ∈ lw_privs_8, lw_okq q := List.forall_mem_cons.mpr ⟨lw_p112, List.forall_mem_cons.mpr ⟨lw_p113, List.forall_mem_cons.mpr ⟨lw_p114, List.forall_mem_cons.mpr ⟨lw_p115, List.forall_mem_cons.mpr ⟨lw_p116, List.forall_mem_cons.mpr ⟨lw_p117, List.forall_mem_cons.mpr ⟨lw_p118, List.forall_mem_cons.mpr ⟨lw_p119, List.forall_mem_cons.mpr ⟨lw_p120, List.forall_mem_cons.mpr ⟨lw_p121, List.forall_mem_cons.mpr ⟨lw_p122, List.forall_mem_cons.mpr ⟨lw_p123, List.forall_mem_cons.mpr ⟨lw_p124, List.forall_mem_cons.mpr ⟨lw_p125, List.forall_mem_cons.mpr ⟨lw_p126, List.forall_mem_cons.mpr ⟨lw_p127, fun _ h => absurd h List.not_mem_nil⟩⟩⟩⟩⟩⟩⟩⟩⟩⟩⟩⟩⟩⟩⟩⟩
theorem lw_p128 : lw_okq (⟨"SlopeCheckerModel", "isOff", "(II)Z"⟩, 55) := ⟨⟨by decide +kernel, by decide +kernel⟩, List.mem_of_getElem? (i := 1334) (by decide +kernel), List.mem_of_getElem? (i := 1905) (by decide +kernel), List.mem_of_getElem? (i := 1906) (by decide +kernel)⟩
theorem lw_p129 : lw_okq (⟨"SlopeCheckerModel", "goesBack", "(JJ)Z"⟩, 55) := ⟨⟨by decide +kernel, by decide +kernel⟩, List.mem_of_getElem? (i := 1334) (by decide +kernel), List.mem_of_getElem? (i := 1909) (by decide +kernel), List.mem_of_getElem? (i := 1910) (by decide +kernel)⟩
theorem lw_p130 : lw_okq (⟨"SlopeCheckerModel", "anyTime", "()V"⟩, 55) := ⟨⟨by decide +kernel, by decide +kernel⟩, List.mem_of_getElem? (i := 1334) (by decide +kernel), List.mem_of_getElem? (i := 1913) (by decide +kernel), List.mem_of_getElem? (i := 1914) (by decide +kernel)⟩
theorem lw_p131 : lw_okq (⟨"SlopeCheckerModel", "over", "(JJJJ)V"⟩, 55) := ⟨⟨by decide +kernel, by decide +kernel⟩, List.mem_of_getElem? (i := 1334) (by decide +kernel), List.mem_of_getElem? (i := 1917) (by decide +kernel), List.mem_of_getElem? (i := 1918) (by decide +kernel)⟩
theorem lw_p132 : lw_okq (⟨"SlopeCheckerModel", "mustBe", "(JJJ)V"⟩, 55) := ⟨⟨by decide +kernel, by decide +kernel⟩, List.mem_of_getElem? (i := 1334) (by decide +kernel), List.mem_of_getElem? (i := 1921) (by decide +kernel), List.mem_of_getElem? (i := 1922) (by decide +kernel)⟩
theorem lw_p133 : lw_okq (⟨"SlopeCheckerModel", "canBe", "()Z"⟩, 55) := ⟨⟨by decide +kernel, by decide +kernel⟩, List.mem_of_getElem? (i := 1334) (by decide +kernel), List.mem_of_getElem? (i := 1925) (by decide +kernel), List.mem_of_getElem? (i := 1926) (by decide +kernel)⟩
theorem lw_p134 : lw_okq (⟨"SlopeCheckerModel", "laysAhead", "(I)Z"⟩, 55) := ⟨⟨by decide +kernel, by decide +kernel⟩, List.mem_of_getElem? (i := 1334) (by decide +kernel), List.mem_of_getElem? (i := 1932) (by decide +kernel), List.mem_of_getElem? (i := 1933) (by decide +kernel)⟩
theorem lw_p135 : lw_okq (⟨"SlopeCheckerModel", "equals", "(IIJ)V"⟩, 55) := ⟨⟨by decide +kernel, by decide +kernel⟩, List.mem_of_getElem? (i := 1334) (by decide +kernel), List.mem_of_getElem? (i := 1936) (by decide +kernel), List.mem_of_getElem? (i := 1937) (by decide +kernel)⟩
theorem lw_p136 : lw_okq (⟨"SlopeCheckerModel", "canBegin", "(IJJJ)Z"⟩, 55) := ⟨⟨by decide +kernel, by decide +kernel⟩, List.mem_of_getElem? (i := 1334) (by decide +kernel), List.mem_of_getElem? (i := 1957) (by decide +kernel), List.mem_of_getElem? (i := 1958) (by decide +kernel)⟩
theorem lw_p137 : lw_okq (⟨"SlopeCheckerModel", "jumpsOn", "(I)Z"⟩, 55) := ⟨⟨by decide +kernel, by decide +kernel⟩, List.mem_of_getElem? (i := 1334) (by decide +kernel), List.mem_of_getElem? (i := 1961) (by decide +kernel), List.mem_of_getElem? (i := 1962) (by decide +kernel)⟩
theorem lw_p138 : lw_okq (⟨"SlopeCheckerModel", "canTake", "(II)Z"⟩, 55) := ⟨⟨by decide +kernel, by decide +kernel⟩, List.mem_of_getElem? (i := 1334) (by decide +kernel), List.mem_of_getElem? (i := 1965) (by decide +kernel), List.mem_of_getElem? (i := 1966) (by decide +kernel)⟩
theorem lw_p139 : lw_okq (⟨"SlopeCheckerModel", "takesPoint", "(I)V"⟩, 55) := ⟨⟨by decide +kernel, by decide +kernel⟩, List.mem_of_getElem? (i := 1334) (by decide +kernel), List.mem_of_getElem? (i := 1969) (by decide +kernel), List.mem_of_getElem? (i := 1970) (by decide +kernel)⟩
theorem lw_p140 : lw_okq (⟨"SlopeCheckerModel", "asks", "(IIJJ)V"⟩, 55) := ⟨⟨by decide +kernel, by decide +kernel⟩, List.mem_of_getElem? (i := 1334) (by decide +kernel), List.mem_of_getElem? (i := 1973) (by decide +kernel), List.mem_of_getElem? (i := 1974) (by decide +kernel)⟩
theorem lw_p141 : lw_okq (⟨"SlopeCheckerModel", "asksMode", "(IJJ)V"⟩, 55) := ⟨⟨by decide +kernel, by decide +kernel⟩, List.mem_of_getElem? (i := 1334) (by decide +kernel), List.mem_of_getElem? (i := 1977) (by decide +kernel), List.mem_of_getElem? (i := 1978) (by decide +kernel)⟩
theorem lw_p142 : lw_okq (⟨"SlopeCheckerModel", "changes", "(I)V"⟩, 55) := ⟨⟨by decide +kernel, by decide +kernel⟩, List.mem_of_getElem? (i := 1334) (by decide +kernel), List.mem_of_getElem? (i := 1981) (by decide +kernel), List.mem_of_getElem? (i := 1982) (by decide +kernel)⟩
theorem lw_p143 : lw_okq (⟨"SlopeCheckerModel", "startsAt", "(IIII)V"⟩, 55) := ⟨⟨by decide +kernel, by decide +kernel⟩, List.mem_of_getElem? (i := 1334) (by decide +kernel), List.mem_of_getElem? (i := 2007) (by decide +kernel), List.mem_of_getElem? (i := 2008) (by decide +kernel)⟩
def lw_privs_9 : List (MethodName × Nat) := [(⟨"SlopeCheckerModel", "isOff", "(II)Z"⟩, 55), (⟨"SlopeCheckerModel", "goesBack", "(JJ)Z"⟩, 55), (⟨"SlopeCheckerModel", "anyTime", "()V"⟩, 55), (⟨"SlopeCheckerModel", "over", "(JJJJ)V"⟩, 55), (⟨"SlopeCheckerModel", "mustBe", "(JJJ)V"⟩, 55), (⟨"SlopeCheckerModel", "canBe", "()Z"⟩, 55), (⟨"SlopeCheckerModel", "laysAhead", "(I)Z"⟩, 55), (⟨"SlopeCheckerModel", "equals", "(IIJ)V"⟩, 55), (⟨"SlopeCheckerModel", "canBegin", "(IJJJ)Z"⟩, 55), (⟨"SlopeCheckerModel", "jumpsOn", "(I)Z"⟩, 55), (⟨"SlopeCheckerModel", "canTake", "(II)Z"⟩, 55), (⟨"SlopeCheckerModel", "takesPoint", "(I)V"⟩, 55), (⟨"SlopeCheckerModel", "asks", "(IIJJ)V"⟩, 55), (⟨"SlopeCheckerModel", "asksMode", "(IJJ)V"⟩, 55), (⟨"SlopeCheckerModel", "changes", "(I)V"⟩, 55), (⟨"SlopeCheckerModel", "startsAt", "(IIII)V"⟩, 55)]
theorem lw_r9 : ∀ q ∈ lw_privs_9, lw_okq q := List.forall_mem_cons.mpr ⟨lw_p128, List.forall_mem_cons.mpr ⟨lw_p129, List.forall_mem_cons.mpr ⟨lw_p130, List.forall_mem_cons.mpr ⟨lw_p131, List.forall_mem_cons.mpr ⟨lw_p132, List.forall_mem_cons.mpr ⟨lw_p133, List.forall_mem_cons.mpr ⟨lw_p134, List.forall_mem_cons.mpr ⟨lw_p135, List.forall_mem_cons.mpr ⟨lw_p136, List.forall_mem_cons.mpr ⟨lw_p137, List.forall_mem_cons.mpr ⟨lw_p138, List.forall_mem_cons.mpr ⟨lw_p139, List.forall_mem_cons.mpr ⟨lw_p140, List.forall_mem_cons.mpr ⟨lw_p141, List.forall_mem_cons.mpr ⟨lw_p142, List.forall_mem_cons.mpr ⟨lw_p143, fun _ h => absurd h List.not_mem_nil⟩⟩⟩⟩⟩⟩⟩⟩⟩⟩⟩⟩⟩⟩⟩⟩
theorem lw_p144 : lw_okq (⟨"SlopeCheckerModel", "tries", "(II)I"⟩, 55) := ⟨⟨by decide +kernel, by decide +kernel⟩, List.mem_of_getElem? (i := 1334) (by decide +kernel), List.mem_of_getElem? (i := 2011) (by decide +kernel), List.mem_of_getElem? (i := 2012) (by decide +kernel)⟩
theorem lw_p145 : lw_okq (⟨"SlopeCheckerModel", "goesAside", "()V"⟩, 55) := ⟨⟨by decide +kernel, by decide +kernel⟩, List.mem_of_getElem? (i := 1334) (by decide +kernel), List.mem_of_getElem? (i := 2015) (by decide +kernel), List.mem_of_getElem? (i := 2016) (by decide +kernel)⟩
theorem lw_p146 : lw_okq (⟨"SlopeCheckerModel", "comesBack", "()V"⟩, 55) := ⟨⟨by decide +kernel, by decide +kernel⟩, List.mem_of_getElem? (i := 1334) (by decide +kernel), List.mem_of_getElem? (i := 2019) (by decide +kernel), List.mem_of_getElem? (i := 2020) (by decide +kernel)⟩
theorem lw_p147 : lw_okq (⟨"SlopeCheckerModel", "triesWithout", "(III)I"⟩, 55) := ⟨⟨by decide +kernel, by decide +kernel⟩, List.mem_of_getElem? (i := 1334) (by decide +kernel), List.mem_of_getElem? (i := 2031) (by decide +kernel), List.mem_of_getElem? (i := 2032) (by decide +kernel)⟩
def lw_privs_10 : List (MethodName × Nat) := [(⟨"SlopeCheckerModel", "tries", "(II)I"⟩, 55), (⟨"SlopeCheckerModel", "goesAside", "()V"⟩, 55), (⟨"SlopeCheckerModel", "comesBack", "()V"⟩, 55), (⟨"SlopeCheckerModel", "triesWithout", "(III)I"⟩, 55)]
theorem lw_r10 : ∀ q ∈ lw_privs_10, lw_okq q := List.forall_mem_cons.mpr ⟨lw_p144, List.forall_mem_cons.mpr ⟨lw_p145, List.forall_mem_cons.mpr ⟨lw_p146, List.forall_mem_cons.mpr ⟨lw_p147, fun _ h => absurd h List.not_mem_nil⟩⟩⟩⟩
def lw_privs : List (MethodName × Nat) := lw_privs_1 ++ (lw_privs_2 ++ (lw_privs_3 ++ (lw_privs_4 ++ (lw_privs_5 ++ (lw_privs_6 ++ (lw_privs_7 ++ (lw_privs_8 ++ (lw_privs_9 ++ (lw_privs_10)))))))))
def lw_tbl : List Cond := k2_sels lw_privs ++ tables_1
theorem lw_privs_ok : ∀ q ∈ lw_privs, lw_okq q := by
  show ∀ q ∈ lw_privs_1 ++ (lw_privs_2 ++ (lw_privs_3 ++ (lw_privs_4 ++ (lw_privs_5 ++ (lw_privs_6 ++ (lw_privs_7 ++ (lw_privs_8 ++ (lw_privs_9 ++ (lw_privs_10))))))))), lw_okq q
  exact List.forall_mem_append.mpr ⟨lw_r1, List.forall_mem_append.mpr ⟨lw_r2, List.forall_mem_append.mpr ⟨lw_r3, List.forall_mem_append.mpr ⟨lw_r4, List.forall_mem_append.mpr ⟨lw_r5, List.forall_mem_append.mpr ⟨lw_r6, List.forall_mem_append.mpr ⟨lw_r7, List.forall_mem_append.mpr ⟨lw_r8, List.forall_mem_append.mpr ⟨lw_r9, lw_r10⟩⟩⟩⟩⟩⟩⟩⟩⟩
-- ===== end of PART A; then your names; then what follows =====
/-! ===== BEGIN words of one list among another's, by their places ===== -/
theorem goodIn_r {big : List Cond} (ws : List Cond) (ps : List Nat) (hp : ws = ps.filterMap (fun i => big[i]?)) (h : ws.all goodWord = true) : GoodIn big ws := by
  intro w hw
  have h1 := List.all_eq_true.mp h w hw
  rw [hp] at hw
  obtain ⟨i, -, hi⟩ := List.mem_filterMap.mp hw
  have hm : w ∈ big := by first | exact List.mem_of_getElem? hi | exact List.getElem?_mem hi
  exact ⟨hm, good_of_word h1⟩
theorem goodIn_app {big a b : List Cond} (ha : GoodIn big a) (hb : GoodIn big b) : GoodIn big (a ++ b) := fun w h => (List.mem_append.mp h).elim (ha w) (hb w)
theorem goodIn_ca {big a b : List Cond} {c : Cond} (ha : GoodIn big (c :: a)) (hb : GoodIn big b) : GoodIn big (c :: (a ++ b)) := fun w h => (List.mem_cons.mp h).elim (fun e => ha w (List.mem_cons.mpr (Or.inl e))) (fun h => (List.mem_append.mp h).elim (fun h => ha w (List.mem_cons.mpr (Or.inr h))) (hb w))
theorem goodIn_sub {big ws : List Cond} (hm : ∀ w ∈ ws, w ∈ big) (h : ws.all goodWord = true) : GoodIn big ws := fun w hw => ⟨hm w hw, good_of_word (List.all_eq_true.mp h w hw)⟩
/-! ===== END ===== -/
def RX0 : String := "SlopeChecker$Bounds"
def TX0 : u_T := fun k => match k with
  | 0 => ("SlopeChecker$Bounds", "a", "[I", true)
  | 1 => ("SlopeChecker$Bounds", "b", "[I", true)
  | 2 => ("SlopeChecker$Bounds", "c", "[I", true)
  | 3 => ("SlopeChecker$Bounds", "normal", "[I", true)
  | 4 => ("SlopeChecker$Bounds", "shared", "[I", true)
  | _ => ("SlopeChecker$Bounds", "size", "I", false)
def tyX0 : Nat → FieldType := fun k => match k with
  | 0 => .array .int
  | 1 => .array .int
  | 2 => .array .int
  | 3 => .array .int
  | 4 => .array .int
  | _ => .int
abbrev wsX00 : List Cond := u_ws RX0 TX0 6
theorem nmX0 : ∀ a, a < 6 → ∀ b, b < 6 → a ≠ b → (TX0 a).2.1 ≠ (TX0 b).2.1 := by decide +kernel
theorem tyX0_ok : ∀ k, k < 6 → parseFieldDescriptor (TX0 k).2.2.1 = some (tyX0 k) := by decide +kernel
abbrev cX0_init : ByteArray := prog_2_method_1_code
def yX0_init : MethodName := ⟨RX0, "<init>", "()V"⟩
def RX1 : String := "SlopeChecker$Check"
def TX1 : u_T := fun k => match k with
  | 0 => ("SlopeChecker$Check", "parts", "[LSlopeChecker$Part;", true)
  | 1 => ("SlopeChecker$Check", "start", "[I", true)
  | 2 => ("SlopeChecker$Check", "most", "I", false)
  | 3 => ("SlopeChecker$Check", "without", "I", false)
  | 4 => ("SlopeChecker$Check", "size", "I", false)
  | 5 => ("SlopeChecker$Check", "steps", "I", false)
  | 6 => ("SlopeChecker$Check", "why", "I", false)
  | 7 => ("SlopeChecker$Check", "covered", "I", false)
  | 8 => ("SlopeChecker$Check", "joined", "I", false)
  | 9 => ("SlopeChecker$Check", "model", "LSlopeChecker$Model;", false)
  | 10 => ("SlopeChecker$Check", "cutter", "LSlopeChecker$Cutter;", true)
  | _ => ("SlopeChecker$Check", "guarded", "LSlopeChecker$Region;", true)
def tyX1 : Nat → FieldType := fun k => match k with
  | 0 => .array (.object "SlopeChecker$Part")
  | 1 => .array .int
  | 2 => .int
  | 3 => .int
  | 4 => .int
  | 5 => .int
  | 6 => .int
  | 7 => .int
  | 8 => .int
  | 9 => .object "SlopeChecker$Model"
  | 10 => .object "SlopeChecker$Cutter"
  | _ => .object "SlopeChecker$Region"
abbrev wsX10 : List Cond := u_ws RX1 TX1 12
theorem nmX1 : ∀ a, a < 12 → ∀ b, b < 12 → a ≠ b → (TX1 a).2.1 ≠ (TX1 b).2.1 := by decide +kernel
theorem tyX1_ok : ∀ k, k < 12 → parseFieldDescriptor (TX1 k).2.2.1 = some (tyX1 k) := by decide +kernel
abbrev cX1_init : ByteArray := prog_3_method_1_code
def yX1_init : MethodName := ⟨RX1, "<init>", "(LSlopeChecker$Model;LSlopeChecker$Cutter;)V"⟩
abbrev cX1_take : ByteArray := prog_3_method_2_code
def yX1_take : MethodName := ⟨RX1, "take", "(LSlopeChecker$Model;)V"⟩
abbrev cX1_restart : ByteArray := prog_3_method_3_code
def yX1_restart : MethodName := ⟨RX1, "restart", "()V"⟩
abbrev cX1_run : ByteArray := prog_3_method_4_code
def yX1_run : MethodName := ⟨RX1, "run", "(IZ)I"⟩
abbrev cX1_follow : ByteArray := prog_3_method_5_code
def yX1_follow : MethodName := ⟨RX1, "follow", "(II)V"⟩
abbrev cX1_joinLast : ByteArray := prog_3_method_6_code
def yX1_joinLast : MethodName := ⟨RX1, "joinLast", "(I)Z"⟩
abbrev cX1_addPart : ByteArray := prog_3_method_7_code
def yX1_addPart : MethodName := ⟨RX1, "addPart", "(I)V"⟩
abbrev cX1_grow : ByteArray := prog_3_method_8_code
def yX1_grow : MethodName := ⟨RX1, "grow", "(I)V"⟩
abbrev cX1_tighten : ByteArray := prog_3_method_9_code
def yX1_tighten : MethodName := ⟨RX1, "tighten", "(LSlopeChecker$Region;)Z"⟩
abbrev cX1_isCovered : ByteArray := prog_3_method_10_code
def yX1_isCovered : MethodName := ⟨RX1, "isCovered", "(ILSlopeChecker$Region;)Z"⟩
abbrev cX1_isOf : ByteArray := prog_3_method_11_code
def yX1_isOf : MethodName := ⟨RX1, "isOf", "(II)Z"⟩
abbrev cX1_partsOf : ByteArray := prog_3_method_12_code
def yX1_partsOf : MethodName := ⟨RX1, "partsOf", "(I)I"⟩
abbrev cX1_lastOf : ByteArray := prog_3_method_13_code
def yX1_lastOf : MethodName := ⟨RX1, "lastOf", "(I)I"⟩
abbrev cX1_firstWith : ByteArray := prog_3_method_14_code
def yX1_firstWith : MethodName := ⟨RX1, "firstWith", "(IJJJJ)I"⟩
abbrev cX1_firstOpen : ByteArray := prog_3_method_15_code
def yX1_firstOpen : MethodName := ⟨RX1, "firstOpen", "()I"⟩
abbrev cX1_firstHarmed : ByteArray := prog_3_method_16_code
def yX1_firstHarmed : MethodName := ⟨RX1, "firstHarmed", "(Z)I"⟩
abbrev cX1_isSafe : ByteArray := prog_3_method_17_code
def yX1_isSafe : MethodName := ⟨RX1, "isSafe", "()Z"⟩
abbrev cX1_openParts : ByteArray := prog_3_method_18_code
def yX1_openParts : MethodName := ⟨RX1, "openParts", "()I"⟩
abbrev cX1_goneParts : ByteArray := prog_3_method_19_code
def yX1_goneParts : MethodName := ⟨RX1, "goneParts", "()I"⟩
abbrev cX1_harmedParts : ByteArray := prog_3_method_20_code
def yX1_harmedParts : MethodName := ⟨RX1, "harmedParts", "()I"⟩
def RX2 : String := "SlopeChecker$Cutter"
def TX2 : u_T := fun k => match k with
  | 0 => ("SlopeChecker$Cutter", "cornerX", "[LSlopeChecker$Ratio;", true)
  | 1 => ("SlopeChecker$Cutter", "cornerY", "[LSlopeChecker$Ratio;", true)
  | 2 => ("SlopeChecker$Cutter", "above", "[J", true)
  | 3 => ("SlopeChecker$Cutter", "below", "[J", true)
  | 4 => ("SlopeChecker$Cutter", "next", "[I", true)
  | 5 => ("SlopeChecker$Cutter", "back", "[I", true)
  | 6 => ("SlopeChecker$Cutter", "normals", "LSlopeChecker$Normals;", false)
  | 7 => ("SlopeChecker$Cutter", "first", "I", false)
  | _ => ("SlopeChecker$Cutter", "live", "I", false)
def tyX2 : Nat → FieldType := fun k => match k with
  | 0 => .array (.object "SlopeChecker$Ratio")
  | 1 => .array (.object "SlopeChecker$Ratio")
  | 2 => .array .long
  | 3 => .array .long
  | 4 => .array .int
  | 5 => .array .int
  | 6 => .object "SlopeChecker$Normals"
  | 7 => .int
  | _ => .int
abbrev wsX20 : List Cond := u_ws RX2 TX2 9
theorem nmX2 : ∀ a, a < 9 → ∀ b, b < 9 → a ≠ b → (TX2 a).2.1 ≠ (TX2 b).2.1 := by decide +kernel
theorem tyX2_ok : ∀ k, k < 9 → parseFieldDescriptor (TX2 k).2.2.1 = some (tyX2 k) := by decide +kernel
abbrev cX2_init : ByteArray := prog_4_method_1_code
def yX2_init : MethodName := ⟨RX2, "<init>", "()V"⟩
abbrev cX2_load : ByteArray := prog_4_method_2_code
def yX2_load : MethodName := ⟨RX2, "load", "(LSlopeChecker$Normals;LSlopeChecker$Region;)V"⟩
abbrev cX2_loadBox : ByteArray := prog_4_method_3_code
def yX2_loadBox : MethodName := ⟨RX2, "loadBox", "(LSlopeChecker$Normals;[I)V"⟩
abbrev cX2_loadMoved : ByteArray := prog_4_method_4_code
def yX2_loadMoved : MethodName := ⟨RX2, "loadMoved", "(LSlopeChecker$Model;ILSlopeChecker$Region;)V"⟩
abbrev cX2_join : ByteArray := prog_4_method_5_code
def yX2_join : MethodName := ⟨RX2, "join", "(LSlopeChecker$Region;)V"⟩
abbrev cX2_cutAt : ByteArray := prog_4_method_6_code
def yX2_cutAt : MethodName := ⟨RX2, "cutAt", "(IJJ)V"⟩
abbrev cX2_cut : ByteArray := prog_4_method_7_code
def yX2_cut : MethodName := ⟨RX2, "cut", "(LSlopeChecker$Bounds;)V"⟩
abbrev cX2_cutToBox : ByteArray := prog_4_method_8_code
def yX2_cutToBox : MethodName := ⟨RX2, "cutToBox", "()V"⟩
abbrev cX2_growAlong : ByteArray := prog_4_method_9_code
def yX2_growAlong : MethodName := ⟨RX2, "growAlong", "(JJ)V"⟩
abbrev cX2_shrink : ByteArray := prog_4_method_10_code
def yX2_shrink : MethodName := ⟨RX2, "shrink", "()Z"⟩
abbrev cX2_linkRing : ByteArray := prog_4_method_11_code
def yX2_linkRing : MethodName := ⟨RX2, "linkRing", "()V"⟩
abbrev cX2_settle : ByteArray := prog_4_method_12_code
def yX2_settle : MethodName := ⟨RX2, "settle", "(LSlopeChecker$Region;)Z"⟩
abbrev cX2_meet : ByteArray := prog_4_method_13_code
def yX2_meet : MethodName := ⟨RX2, "meet", "(IILSlopeChecker$Ratio;LSlopeChecker$Ratio;)V"⟩
abbrev cX2_least : ByteArray := prog_4_method_14_code
def yX2_least : MethodName := ⟨RX2, "least", "(LSlopeChecker$Ratio;LSlopeChecker$Ratio;)V"⟩
abbrev cX2_leastX : ByteArray := prog_4_method_15_code
def yX2_leastX : MethodName := ⟨RX2, "leastX", "(LSlopeChecker$Ratio;LSlopeChecker$Ratio;)V"⟩
abbrev cX2_leastY : ByteArray := prog_4_method_16_code
def yX2_leastY : MethodName := ⟨RX2, "leastY", "(LSlopeChecker$Ratio;LSlopeChecker$Ratio;)V"⟩
abbrev cX2_leastOf : ByteArray := prog_4_method_17_code
def yX2_leastOf : MethodName := ⟨RX2, "leastOf", "([ILSlopeChecker$Ratio;[ILSlopeChecker$Ratio;)V"⟩
abbrev cX2_listCorners : ByteArray := prog_4_method_18_code
def yX2_listCorners : MethodName := ⟨RX2, "listCorners", "(LSlopeChecker$Normals;LSlopeChecker$Region;)I"⟩
abbrev cX2_isNewCorner : ByteArray := prog_4_method_19_code
def yX2_isNewCorner : MethodName := ⟨RX2, "isNewCorner", "(I)Z"⟩
abbrev cX2_sinkCorner : ByteArray := prog_4_method_20_code
def yX2_sinkCorner : MethodName := ⟨RX2, "sinkCorner", "(I)V"⟩
abbrev cX2_orderOfCorners : ByteArray := prog_4_method_21_code
def yX2_orderOfCorners : MethodName := ⟨RX2, "orderOfCorners", "(II)I"⟩
def RX3 : String := "SlopeChecker$Model"
def TX3 : u_T := fun k => match k with
  | 0 => ("SlopeChecker$Model", "normals", "LSlopeChecker$Normals;", true)
  | 1 => ("SlopeChecker$Model", "names", "[I", true)
  | 2 => ("SlopeChecker$Model", "slopeX", "[I", true)
  | 3 => ("SlopeChecker$Model", "slopeY", "[I", true)
  | 4 => ("SlopeChecker$Model", "keeps", "[LSlopeChecker$Bounds;", true)
  | 5 => ("SlopeChecker$Model", "harms", "[LSlopeChecker$Bounds;", true)
  | 6 => ("SlopeChecker$Model", "from", "[I", true)
  | 7 => ("SlopeChecker$Model", "to", "[I", true)
  | 8 => ("SlopeChecker$Model", "guards", "[LSlopeChecker$Bounds;", true)
  | 9 => ("SlopeChecker$Model", "done", "[I", true)
  | 10 => ("SlopeChecker$Model", "by", "[I", true)
  | 11 => ("SlopeChecker$Model", "start", "[I", true)
  | 12 => ("SlopeChecker$Model", "modes", "I", false)
  | 13 => ("SlopeChecker$Model", "edges", "I", false)
  | 14 => ("SlopeChecker$Model", "startMode", "I", false)
  | _ => ("SlopeChecker$Model", "most", "I", false)
def tyX3 : Nat → FieldType := fun k => match k with
  | 0 => .object "SlopeChecker$Normals"
  | 1 => .array .int
  | 2 => .array .int
  | 3 => .array .int
  | 4 => .array (.object "SlopeChecker$Bounds")
  | 5 => .array (.object "SlopeChecker$Bounds")
  | 6 => .array .int
  | 7 => .array .int
  | 8 => .array (.object "SlopeChecker$Bounds")
  | 9 => .array .int
  | 10 => .array .int
  | 11 => .array .int
  | 12 => .int
  | 13 => .int
  | 14 => .int
  | _ => .int
abbrev wsX30 : List Cond := u_ws RX3 TX3 16
theorem nmX3 : ∀ a, a < 16 → ∀ b, b < 16 → a ≠ b → (TX3 a).2.1 ≠ (TX3 b).2.1 := by decide +kernel
theorem tyX3_ok : ∀ k, k < 16 → parseFieldDescriptor (TX3 k).2.2.1 = some (tyX3 k) := by decide +kernel
abbrev cX3_init : ByteArray := prog_5_method_1_code
def yX3_init : MethodName := ⟨RX3, "<init>", "()V"⟩
abbrev cX3_clear : ByteArray := prog_5_method_2_code
def yX3_clear : MethodName := ⟨RX3, "clear", "()V"⟩
abbrev cX3_modeOf : ByteArray := prog_5_method_3_code
def yX3_modeOf : MethodName := ⟨RX3, "modeOf", "(I)I"⟩
abbrev cX3_edgesFrom : ByteArray := prog_5_method_4_code
def yX3_edgesFrom : MethodName := ⟨RX3, "edgesFrom", "(I)I"⟩
abbrev cX3_addMode : ByteArray := prog_5_method_5_code
def yX3_addMode : MethodName := ⟨RX3, "addMode", "(III)V"⟩
abbrev cX3_addEdge : ByteArray := prog_5_method_6_code
def yX3_addEdge : MethodName := ⟨RX3, "addEdge", "(II)V"⟩
def RX4 : String := "SlopeChecker$Normals"
def TX4 : u_T := fun k => match k with
  | 0 => ("SlopeChecker$Normals", "a", "[I", true)
  | 1 => ("SlopeChecker$Normals", "b", "[I", true)
  | 2 => ("SlopeChecker$Normals", "after", "[I", true)
  | _ => ("SlopeChecker$Normals", "size", "I", false)
def tyX4 : Nat → FieldType := fun k => match k with
  | 0 => .array .int
  | 1 => .array .int
  | 2 => .array .int
  | _ => .int
abbrev wsX40 : List Cond := u_ws RX4 TX4 4
theorem nmX4 : ∀ a, a < 4 → ∀ b, b < 4 → a ≠ b → (TX4 a).2.1 ≠ (TX4 b).2.1 := by decide +kernel
theorem tyX4_ok : ∀ k, k < 4 → parseFieldDescriptor (TX4 k).2.2.1 = some (tyX4 k) := by decide +kernel
abbrev cX4_init : ByteArray := prog_6_method_1_code
def yX4_init : MethodName := ⟨RX4, "<init>", "()V"⟩
abbrev cX4_clear : ByteArray := prog_6_method_2_code
def yX4_clear : MethodName := ⟨RX4, "clear", "()V"⟩
abbrev cX4_set : ByteArray := prog_6_method_3_code
def yX4_set : MethodName := ⟨RX4, "set", "(IIII)V"⟩
abbrev cX4_find : ByteArray := prog_6_method_4_code
def yX4_find : MethodName := ⟨RX4, "find", "(II)I"⟩
abbrev cX4_number : ByteArray := prog_6_method_5_code
def yX4_number : MethodName := ⟨RX4, "number", "(II)I"⟩
abbrev cX4_turn : ByteArray := prog_6_method_6_code
def yX4_turn : MethodName := ⟨RX4, "turn", "(II)J"⟩
def RX5 : String := "SlopeChecker$Part"
def TX5 : u_T := fun k => match k with
  | 0 => ("SlopeChecker$Part", "entry", "LSlopeChecker$Region;", true)
  | 1 => ("SlopeChecker$Part", "set", "LSlopeChecker$Region;", true)
  | 2 => ("SlopeChecker$Part", "mode", "I", false)
  | 3 => ("SlopeChecker$Part", "from", "I", false)
  | 4 => ("SlopeChecker$Part", "edge", "I", false)
  | 5 => ("SlopeChecker$Part", "depth", "I", false)
  | 6 => ("SlopeChecker$Part", "exact", "Z", false)
  | 7 => ("SlopeChecker$Part", "open", "Z", false)
  | 8 => ("SlopeChecker$Part", "gone", "Z", false)
  | _ => ("SlopeChecker$Part", "harmed", "Z", false)
def tyX5 : Nat → FieldType := fun k => match k with
  | 0 => .object "SlopeChecker$Region"
  | 1 => .object "SlopeChecker$Region"
  | 2 => .int
  | 3 => .int
  | 4 => .int
  | 5 => .int
  | 6 => .boolean
  | 7 => .boolean
  | 8 => .boolean
  | _ => .boolean
abbrev wsX50 : List Cond := u_ws RX5 TX5 10
theorem nmX5 : ∀ a, a < 10 → ∀ b, b < 10 → a ≠ b → (TX5 a).2.1 ≠ (TX5 b).2.1 := by decide +kernel
theorem tyX5_ok : ∀ k, k < 10 → parseFieldDescriptor (TX5 k).2.2.1 = some (tyX5 k) := by decide +kernel
abbrev cX5_init : ByteArray := prog_7_method_1_code
def yX5_init : MethodName := ⟨RX5, "<init>", "()V"⟩
def RX6 : String := "SlopeChecker$Ratio"
def TX6 : u_T := fun k => match k with
  | 0 => ("SlopeChecker$Ratio", "above", "J", false)
  | _ => ("SlopeChecker$Ratio", "below", "J", false)
def tyX6 : Nat → FieldType := fun k => match k with
  | 0 => .long
  | _ => .long
abbrev wsX60 : List Cond := u_ws RX6 TX6 2
theorem nmX6 : ∀ a, a < 2 → ∀ b, b < 2 → a ≠ b → (TX6 a).2.1 ≠ (TX6 b).2.1 := by decide +kernel
theorem tyX6_ok : ∀ k, k < 2 → parseFieldDescriptor (TX6 k).2.2.1 = some (tyX6 k) := by decide +kernel
abbrev cX6_init : ByteArray := prog_8_method_1_code
def yX6_init : MethodName := ⟨RX6, "<init>", "()V"⟩
abbrev cX6_let : ByteArray := prog_8_method_2_code
def yX6_let : MethodName := ⟨RX6, "let", "(JJ)V"⟩
abbrev cX6_isBeyond : ByteArray := prog_8_method_3_code
def yX6_isBeyond : MethodName := ⟨RX6, "isBeyond", "()Z"⟩
abbrev cX6_isTooFine : ByteArray := prog_8_method_4_code
def yX6_isTooFine : MethodName := ⟨RX6, "isTooFine", "(JJ)Z"⟩
abbrev cX6_divisor : ByteArray := prog_8_method_5_code
def yX6_divisor : MethodName := ⟨RX6, "divisor", "(JJ)J"⟩
abbrev cX6_order : ByteArray := prog_8_method_6_code
def yX6_order : MethodName := ⟨RX6, "order", "(JJJJ)I"⟩
def RX7 : String := "SlopeChecker$Reader"
def TX7 : u_T := fun k => match k with
  | 0 => ("SlopeChecker$Reader", "language", "[I", true)
  | 1 => ("SlopeChecker$Reader", "bytes", "[B", false)
  | 2 => ("SlopeChecker$Reader", "length", "I", false)
  | 3 => ("SlopeChecker$Reader", "at", "I", false)
  | 4 => ("SlopeChecker$Reader", "token", "I", false)
  | 5 => ("SlopeChecker$Reader", "place", "I", false)
  | 6 => ("SlopeChecker$Reader", "word", "I", false)
  | 7 => ("SlopeChecker$Reader", "digits", "I", false)
  | 8 => ("SlopeChecker$Reader", "linePlace", "I", false)
  | 9 => ("SlopeChecker$Reader", "numberPlace", "I", false)
  | 10 => ("SlopeChecker$Reader", "mostTold", "Z", false)
  | 11 => ("SlopeChecker$Reader", "model", "LSlopeChecker$Model;", false)
  | 12 => ("SlopeChecker$Reader", "lines", "I", false)
  | 13 => ("SlopeChecker$Reader", "fault", "I", false)
  | _ => ("SlopeChecker$Reader", "faultPlace", "I", false)
def tyX7 : Nat → FieldType := fun k => match k with
  | 0 => .array .int
  | 1 => .array .byte
  | 2 => .int
  | 3 => .int
  | 4 => .int
  | 5 => .int
  | 6 => .int
  | 7 => .int
  | 8 => .int
  | 9 => .int
  | 10 => .boolean
  | 11 => .object "SlopeChecker$Model"
  | 12 => .int
  | 13 => .int
  | _ => .int
abbrev wsX70 : List Cond := u_ws RX7 TX7 15
theorem nmX7 : ∀ a, a < 15 → ∀ b, b < 15 → a ≠ b → (TX7 a).2.1 ≠ (TX7 b).2.1 := by decide +kernel
theorem tyX7_ok : ∀ k, k < 15 → parseFieldDescriptor (TX7 k).2.2.1 = some (tyX7 k) := by decide +kernel
abbrev cX7_init : ByteArray := prog_9_method_1_code
def yX7_init : MethodName := ⟨RX7, "<init>", "()V"⟩
abbrev cX7_read : ByteArray := prog_9_method_2_code
def yX7_read : MethodName := ⟨RX7, "read", "([BILSlopeChecker$Model;)V"⟩
abbrev cX7_readLine : ByteArray := prog_9_method_3_code
def yX7_readLine : MethodName := ⟨RX7, "readLine", "()V"⟩
abbrev cX7_readMode : ByteArray := prog_9_method_4_code
def yX7_readMode : MethodName := ⟨RX7, "readMode", "()V"⟩
abbrev cX7_readKeep : ByteArray := prog_9_method_5_code
def yX7_readKeep : MethodName := ⟨RX7, "readKeep", "()V"⟩
abbrev cX7_readHarm : ByteArray := prog_9_method_6_code
def yX7_readHarm : MethodName := ⟨RX7, "readHarm", "()V"⟩
abbrev cX7_readEdge : ByteArray := prog_9_method_7_code
def yX7_readEdge : MethodName := ⟨RX7, "readEdge", "()V"⟩
abbrev cX7_readWhen : ByteArray := prog_9_method_8_code
def yX7_readWhen : MethodName := ⟨RX7, "readWhen", "()V"⟩
abbrev cX7_readDone : ByteArray := prog_9_method_9_code
def yX7_readDone : MethodName := ⟨RX7, "readDone", "(I)V"⟩
abbrev cX7_readStart : ByteArray := prog_9_method_10_code
def yX7_readStart : MethodName := ⟨RX7, "readStart", "()V"⟩
abbrev cX7_readMost : ByteArray := prog_9_method_11_code
def yX7_readMost : MethodName := ⟨RX7, "readMost", "()V"⟩
abbrev cX7_readBound : ByteArray := prog_9_method_12_code
def yX7_readBound : MethodName := ⟨RX7, "readBound", "(LSlopeChecker$Bounds;I)V"⟩
abbrev cX7_readNormal : ByteArray := prog_9_method_13_code
def yX7_readNormal : MethodName := ⟨RX7, "readNormal", "(II)I"⟩
abbrev cX7_readModeName : ByteArray := prog_9_method_14_code
def yX7_readModeName : MethodName := ⟨RX7, "readModeName", "()I"⟩
abbrev cX7_readNumber : ByteArray := prog_9_method_15_code
def yX7_readNumber : MethodName := ⟨RX7, "readNumber", "(II)I"⟩
abbrev cX7_failUnless : ByteArray := prog_9_method_16_code
def yX7_failUnless : MethodName := ⟨RX7, "failUnless", "(ZII)V"⟩
abbrev cX7_fail : ByteArray := prog_9_method_17_code
def yX7_fail : MethodName := ⟨RX7, "fail", "(II)V"⟩
abbrev cX7_wordOfLanguage : ByteArray := prog_9_method_18_code
def yX7_wordOfLanguage : MethodName := ⟨RX7, "wordOfLanguage", "()I"⟩
abbrev cX7_nextToken : ByteArray := prog_9_method_19_code
def yX7_nextToken : MethodName := ⟨RX7, "nextToken", "()V"⟩
abbrev cX7_takeWord : ByteArray := prog_9_method_20_code
def yX7_takeWord : MethodName := ⟨RX7, "takeWord", "()V"⟩
abbrev cX7_takeDigits : ByteArray := prog_9_method_21_code
def yX7_takeDigits : MethodName := ⟨RX7, "takeDigits", "()V"⟩
def RX8 : String := "SlopeChecker$Region"
def TX8 : u_T := fun k => match k with
  | 0 => ("SlopeChecker$Region", "above", "[I", true)
  | _ => ("SlopeChecker$Region", "below", "[I", true)
def tyX8 : Nat → FieldType := fun k => match k with
  | 0 => .array .int
  | _ => .array .int
abbrev wsX80 : List Cond := u_ws RX8 TX8 2
theorem nmX8 : ∀ a, a < 2 → ∀ b, b < 2 → a ≠ b → (TX8 a).2.1 ≠ (TX8 b).2.1 := by decide +kernel
theorem tyX8_ok : ∀ k, k < 2 → parseFieldDescriptor (TX8 k).2.2.1 = some (tyX8 k) := by decide +kernel
abbrev cX8_init : ByteArray := prog_10_method_1_code
def yX8_init : MethodName := ⟨RX8, "<init>", "()V"⟩
abbrev cX8_liesIn : ByteArray := prog_10_method_2_code
def yX8_liesIn : MethodName := ⟨RX8, "liesIn", "(LSlopeChecker$Region;I)Z"⟩
abbrev cX8_holds : ByteArray := prog_10_method_3_code
def yX8_holds : MethodName := ⟨RX8, "holds", "(LSlopeChecker$Normals;JJJJ)Z"⟩
def RX9 : String := "SlopeChecker$Ride"
def TX9 : u_T := fun k => match k with
  | 0 => ("SlopeChecker$Ride", "cells", "[I", true)
  | 1 => ("SlopeChecker$Ride", "x", "LSlopeChecker$Ratio;", true)
  | 2 => ("SlopeChecker$Ride", "y", "LSlopeChecker$Ratio;", true)
  | 3 => ("SlopeChecker$Ride", "told", "Z", false)
  | 4 => ("SlopeChecker$Ride", "jumps", "I", false)
  | 5 => ("SlopeChecker$Ride", "end", "I", false)
  | 6 => ("SlopeChecker$Ride", "time", "LSlopeChecker$Ratio;", true)
  | 7 => ("SlopeChecker$Ride", "scale", "J", false)
  | 8 => ("SlopeChecker$Ride", "rayX", "J", false)
  | 9 => ("SlopeChecker$Ride", "rayY", "J", false)
  | 10 => ("SlopeChecker$Ride", "slopeX", "J", false)
  | 11 => ("SlopeChecker$Ride", "slopeY", "J", false)
  | 12 => ("SlopeChecker$Ride", "fromAbove", "J", false)
  | 13 => ("SlopeChecker$Ride", "fromBelow", "J", false)
  | 14 => ("SlopeChecker$Ride", "toAbove", "J", false)
  | 15 => ("SlopeChecker$Ride", "toBelow", "J", false)
  | _ => ("SlopeChecker$Ride", "possible", "Z", false)
def tyX9 : Nat → FieldType := fun k => match k with
  | 0 => .array .int
  | 1 => .object "SlopeChecker$Ratio"
  | 2 => .object "SlopeChecker$Ratio"
  | 3 => .boolean
  | 4 => .int
  | 5 => .int
  | 6 => .object "SlopeChecker$Ratio"
  | 7 => .long
  | 8 => .long
  | 9 => .long
  | 10 => .long
  | 11 => .long
  | 12 => .long
  | 13 => .long
  | 14 => .long
  | 15 => .long
  | _ => .boolean
abbrev wsX90 : List Cond := u_ws RX9 TX9 17
theorem nmX9 : ∀ a, a < 17 → ∀ b, b < 17 → a ≠ b → (TX9 a).2.1 ≠ (TX9 b).2.1 := by decide +kernel
theorem tyX9_ok : ∀ k, k < 17 → parseFieldDescriptor (TX9 k).2.2.1 = some (tyX9 k) := by decide +kernel
abbrev cX9_init : ByteArray := prog_11_method_1_code
def yX9_init : MethodName := ⟨RX9, "<init>", "()V"⟩
abbrev cX9_canBegin : ByteArray := prog_11_method_2_code
def yX9_canBegin : MethodName := ⟨RX9, "canBegin", "(LSlopeChecker$Bounds;III)Z"⟩
abbrev cX9_go : ByteArray := prog_11_method_3_code
def yX9_go : MethodName := ⟨RX9, "go", "(LSlopeChecker$Model;II)V"⟩
abbrev cX9_firstEdge : ByteArray := prog_11_method_4_code
def yX9_firstEdge : MethodName := ⟨RX9, "firstEdge", "(LSlopeChecker$Model;I)I"⟩
abbrev cX9_canTake : ByteArray := prog_11_method_5_code
def yX9_canTake : MethodName := ⟨RX9, "canTake", "(LSlopeChecker$Model;I)Z"⟩
abbrev cX9_narrowToMode : ByteArray := prog_11_method_6_code
def yX9_narrowToMode : MethodName := ⟨RX9, "narrowToMode", "(LSlopeChecker$Bounds;)V"⟩
abbrev cX9_narrow : ByteArray := prog_11_method_7_code
def yX9_narrow : MethodName := ⟨RX9, "narrow", "(LSlopeChecker$Bounds;)V"⟩
abbrev cX9_narrowBy : ByteArray := prog_11_method_8_code
def yX9_narrowBy : MethodName := ⟨RX9, "narrowBy", "(JJJ)V"⟩
abbrev cX9_jump : ByteArray := prog_11_method_9_code
def yX9_jump : MethodName := ⟨RX9, "jump", "(LSlopeChecker$Model;II)Z"⟩
abbrev cX9_moveSize : ByteArray := prog_11_method_10_code
def yX9_moveSize : MethodName := ⟨RX9, "moveSize", "(LSlopeChecker$Ratio;JIJ)V"⟩
abbrev cX9_note : ByteArray := prog_11_method_11_code
def yX9_note : MethodName := ⟨RX9, "note", "(II)V"⟩
def RX10 : String := "SlopeChecker$Way"
def TX10 : u_T := fun k => match k with
  | 0 => ("SlopeChecker$Way", "cells", "[I", true)
  | 1 => ("SlopeChecker$Way", "time", "LSlopeChecker$Ratio;", true)
  | 2 => ("SlopeChecker$Way", "places", "I", false)
  | 3 => ("SlopeChecker$Way", "x", "LSlopeChecker$Ratio;", true)
  | 4 => ("SlopeChecker$Way", "y", "LSlopeChecker$Ratio;", true)
  | _ => ("SlopeChecker$Way", "cutter", "LSlopeChecker$Cutter;", true)
def tyX10 : Nat → FieldType := fun k => match k with
  | 0 => .array .int
  | 1 => .object "SlopeChecker$Ratio"
  | 2 => .int
  | 3 => .object "SlopeChecker$Ratio"
  | 4 => .object "SlopeChecker$Ratio"
  | _ => .object "SlopeChecker$Cutter"
abbrev wsX100 : List Cond := u_ws RX10 TX10 6
theorem nmX10 : ∀ a, a < 6 → ∀ b, b < 6 → a ≠ b → (TX10 a).2.1 ≠ (TX10 b).2.1 := by decide +kernel
theorem tyX10_ok : ∀ k, k < 6 → parseFieldDescriptor (TX10 k).2.2.1 = some (tyX10 k) := by decide +kernel
abbrev cX10_init : ByteArray := prog_12_method_1_code
def yX10_init : MethodName := ⟨RX10, "<init>", "(LSlopeChecker$Cutter;)V"⟩
abbrev cX10_find : ByteArray := prog_12_method_2_code
def yX10_find : MethodName := ⟨RX10, "find", "(LSlopeChecker$Check;I)Z"⟩
abbrev cX10_beginLast : ByteArray := prog_12_method_3_code
def yX10_beginLast : MethodName := ⟨RX10, "beginLast", "(LSlopeChecker$Model;LSlopeChecker$Part;)V"⟩
abbrev cX10_goBack : ByteArray := prog_12_method_4_code
def yX10_goBack : MethodName := ⟨RX10, "goBack", "(LSlopeChecker$Model;LSlopeChecker$Part;)V"⟩
abbrev cX10_shift : ByteArray := prog_12_method_5_code
def yX10_shift : MethodName := ⟨RX10, "shift", "(LSlopeChecker$Ratio;J)V"⟩
abbrev cX10_jumpBack : ByteArray := prog_12_method_6_code
def yX10_jumpBack : MethodName := ⟨RX10, "jumpBack", "(LSlopeChecker$Model;ILSlopeChecker$Region;)V"⟩
abbrev cX10_note : ByteArray := prog_12_method_7_code
def yX10_note : MethodName := ⟨RX10, "note", "(II)Z"⟩
abbrev cX10_noteTime : ByteArray := prog_12_method_8_code
def yX10_noteTime : MethodName := ⟨RX10, "noteTime", "(I)Z"⟩
abbrev cX10_addTimes : ByteArray := prog_12_method_9_code
def yX10_addTimes : MethodName := ⟨RX10, "addTimes", "()Z"⟩
def RX11 : String := "SlopeChecker"
def TX11 : u_T := fun k => match k with
  | 0 => ("SlopeChecker", "tape", "[B", true)
  | 1 => ("SlopeChecker", "taped", "I", false)
  | 2 => ("SlopeChecker", "fault", "I", false)
  | 3 => ("SlopeChecker", "faultPlace", "I", false)
  | 4 => ("SlopeChecker", "model", "LSlopeChecker$Model;", false)
  | 5 => ("SlopeChecker", "spare", "LSlopeChecker$Model;", false)
  | 6 => ("SlopeChecker", "reader", "LSlopeChecker$Reader;", true)
  | 7 => ("SlopeChecker", "cutter", "LSlopeChecker$Cutter;", true)
  | 8 => ("SlopeChecker", "check", "LSlopeChecker$Check;", true)
  | 9 => ("SlopeChecker", "other", "LSlopeChecker$Check;", true)
  | 10 => ("SlopeChecker", "way", "LSlopeChecker$Way;", true)
  | _ => ("SlopeChecker", "ride", "LSlopeChecker$Ride;", true)
def tyX11 : Nat → FieldType := fun k => match k with
  | 0 => .array .byte
  | 1 => .int
  | 2 => .int
  | 3 => .int
  | 4 => .object "SlopeChecker$Model"
  | 5 => .object "SlopeChecker$Model"
  | 6 => .object "SlopeChecker$Reader"
  | 7 => .object "SlopeChecker$Cutter"
  | 8 => .object "SlopeChecker$Check"
  | 9 => .object "SlopeChecker$Check"
  | 10 => .object "SlopeChecker$Way"
  | _ => .object "SlopeChecker$Ride"
abbrev wsX110 : List Cond := u_ws RX11 TX11 12
theorem nmX11 : ∀ a, a < 12 → ∀ b, b < 12 → a ≠ b → (TX11 a).2.1 ≠ (TX11 b).2.1 := by decide +kernel
theorem tyX11_ok : ∀ k, k < 12 → parseFieldDescriptor (TX11 k).2.2.1 = some (tyX11 k) := by decide +kernel
abbrev cX11_init : ByteArray := prog_1_method_1_code
def yX11_init : MethodName := ⟨RX11, "<init>", "()V"⟩
abbrev cX11_feed : ByteArray := prog_1_method_2_code
def yX11_feed : MethodName := ⟨RX11, "feed", "(IIIII)I"⟩
abbrev cX11_text : ByteArray := prog_1_method_3_code
def yX11_text : MethodName := ⟨RX11, "text", "(I)I"⟩
abbrev cX11_fault : ByteArray := prog_1_method_4_code
def yX11_fault : MethodName := ⟨RX11, "fault", "(I)I"⟩
abbrev cX11_step : ByteArray := prog_1_method_5_code
def yX11_step : MethodName := ⟨RX11, "step", "(I)I"⟩
abbrev cX11_check : ByteArray := prog_1_method_6_code
def yX11_check : MethodName := ⟨RX11, "check", "(I)I"⟩
abbrev cX11_mode : ByteArray := prog_1_method_7_code
def yX11_mode : MethodName := ⟨RX11, "mode", "(II)I"⟩
abbrev cX11_edge : ByteArray := prog_1_method_8_code
def yX11_edge : MethodName := ⟨RX11, "edge", "(II)I"⟩
abbrev cX11_normal : ByteArray := prog_1_method_9_code
def yX11_normal : MethodName := ⟨RX11, "normal", "(II)I"⟩
abbrev cX11_normalOf : ByteArray := prog_1_method_10_code
def yX11_normalOf : MethodName := ⟨RX11, "normalOf", "(II)I"⟩
abbrev cX11_part : ByteArray := prog_1_method_11_code
def yX11_part : MethodName := ⟨RX11, "part", "(II)I"⟩
abbrev cX11_limit : ByteArray := prog_1_method_12_code
def yX11_limit : MethodName := ⟨RX11, "limit", "(IIII)I"⟩
abbrev cX11_corner : ByteArray := prog_1_method_13_code
def yX11_corner : MethodName := ⟨RX11, "corner", "(IIII)J"⟩
abbrev cX11_has : ByteArray := prog_1_method_14_code
def yX11_has : MethodName := ⟨RX11, "has", "(IIIII)I"⟩
abbrev cX11_where : ByteArray := prog_1_method_15_code
def yX11_where : MethodName := ⟨RX11, "where", "(IIII)I"⟩
abbrev cX11_within : ByteArray := prog_1_method_16_code
def yX11_within : MethodName := ⟨RX11, "within", "(II)I"⟩
abbrev cX11_meets : ByteArray := prog_1_method_17_code
def yX11_meets : MethodName := ⟨RX11, "meets", "(IIII)I"⟩
abbrev cX11_way : ByteArray := prog_1_method_18_code
def yX11_way : MethodName := ⟨RX11, "way", "(I)I"⟩
abbrev cX11_onWay : ByteArray := prog_1_method_19_code
def yX11_onWay : MethodName := ⟨RX11, "onWay", "(III)I"⟩
abbrev cX11_wayTime : ByteArray := prog_1_method_20_code
def yX11_wayTime : MethodName := ⟨RX11, "wayTime", "(II)J"⟩
abbrev cX11_ride : ByteArray := prog_1_method_21_code
def yX11_ride : MethodName := ⟨RX11, "ride", "(IIIII)I"⟩
abbrev cX11_ridden : ByteArray := prog_1_method_22_code
def yX11_ridden : MethodName := ⟨RX11, "ridden", "(II)I"⟩
abbrev cX11_ended : ByteArray := prog_1_method_23_code
def yX11_ended : MethodName := ⟨RX11, "ended", "()I"⟩
abbrev cX11_followed : ByteArray := prog_1_method_24_code
def yX11_followed : MethodName := ⟨RX11, "followed", "()I"⟩
abbrev cX11_ifStart : ByteArray := prog_1_method_25_code
def yX11_ifStart : MethodName := ⟨RX11, "ifStart", "(IIIIII)I"⟩
abbrev cX11_ifMost : ByteArray := prog_1_method_26_code
def yX11_ifMost : MethodName := ⟨RX11, "ifMost", "(III)I"⟩
abbrev cX11_ifWithout : ByteArray := prog_1_method_27_code
def yX11_ifWithout : MethodName := ⟨RX11, "ifWithout", "(III)I"⟩
abbrev cX11_blamed : ByteArray := prog_1_method_28_code
def yX11_blamed : MethodName := ⟨RX11, "blamed", "(I)I"⟩
abbrev cX11_count : ByteArray := prog_1_method_29_code
def yX11_count : MethodName := ⟨RX11, "count", "(I)I"⟩
abbrev cX11_tapeFour : ByteArray := prog_1_method_30_code
def yX11_tapeFour : MethodName := ⟨RX11, "tapeFour", "(I)V"⟩
abbrev cX11_bit : ByteArray := prog_1_method_31_code
def yX11_bit : MethodName := ⟨RX11, "bit", "(Z)I"⟩
abbrev cX11_isMode : ByteArray := prog_1_method_32_code
def yX11_isMode : MethodName := ⟨RX11, "isMode", "(I)Z"⟩
abbrev cX11_isEdge : ByteArray := prog_1_method_33_code
def yX11_isEdge : MethodName := ⟨RX11, "isEdge", "(I)Z"⟩
abbrev cX11_isNormal : ByteArray := prog_1_method_34_code
def yX11_isNormal : MethodName := ⟨RX11, "isNormal", "(I)Z"⟩
abbrev cX11_isPart : ByteArray := prog_1_method_35_code
def yX11_isPart : MethodName := ⟨RX11, "isPart", "(I)Z"⟩
abbrev cX11_isChoice : ByteArray := prog_1_method_36_code
def yX11_isChoice : MethodName := ⟨RX11, "isChoice", "(I)Z"⟩
abbrev cX11_isWithin : ByteArray := prog_1_method_37_code
def yX11_isWithin : MethodName := ⟨RX11, "isWithin", "(II)Z"⟩
abbrev cX11_isPoint : ByteArray := prog_1_method_38_code
def yX11_isPoint : MethodName := ⟨RX11, "isPoint", "(III)Z"⟩
abbrev cX11_isBound : ByteArray := prog_1_method_39_code
def yX11_isBound : MethodName := ⟨RX11, "isBound", "(III)Z"⟩
abbrev cX11_isSpan : ByteArray := prog_1_method_40_code
def yX11_isSpan : MethodName := ⟨RX11, "isSpan", "(II)Z"⟩
abbrev cX11_isStepCount : ByteArray := prog_1_method_41_code
def yX11_isStepCount : MethodName := ⟨RX11, "isStepCount", "(I)Z"⟩
abbrev cX11_isForesight : ByteArray := prog_1_method_42_code
def yX11_isForesight : MethodName := ⟨RX11, "isForesight", "(II)Z"⟩
abbrev cX11_regionOf : ByteArray := prog_1_method_43_code
def yX11_regionOf : MethodName := ⟨RX11, "regionOf", "(II)LSlopeChecker$Region;"⟩
abbrev cX11_noWay : ByteArray := prog_1_method_44_code
def yX11_noWay : MethodName := ⟨RX11, "noWay", "(I)I"⟩
abbrev cX11_foresee : ByteArray := prog_1_method_45_code
def yX11_foresee : MethodName := ⟨RX11, "foresee", "(II)I"⟩
def RX12 : String := "SlopeCheckerModel"
def TX12 : u_T := fun k => match k with
  | 0 => ("SlopeCheckerModel", "thrown", "I", false)
  | 1 => ("SlopeCheckerModel", "tape", "[I", true)
  | 2 => ("SlopeCheckerModel", "taped", "I", false)
  | 3 => ("SlopeCheckerModel", "world", "[I", true)
  | 4 => ("SlopeCheckerModel", "fresh", "[I", true)
  | 5 => ("SlopeCheckerModel", "name", "[I", true)
  | 6 => ("SlopeCheckerModel", "size", "I", false)
  | 7 => ("SlopeCheckerModel", "at", "I", false)
  | 8 => ("SlopeCheckerModel", "place", "I", false)
  | 9 => ("SlopeCheckerModel", "sort", "I", false)
  | 10 => ("SlopeCheckerModel", "value", "I", false)
  | 11 => ("SlopeCheckerModel", "word", "I", false)
  | 12 => ("SlopeCheckerModel", "fault", "I", false)
  | 13 => ("SlopeCheckerModel", "faultPlace", "I", false)
  | 14 => ("SlopeCheckerModel", "lastFault", "I", false)
  | 15 => ("SlopeCheckerModel", "lastPlace", "I", false)
  | 16 => ("SlopeCheckerModel", "isMost", "Z", false)
  | 17 => ("SlopeCheckerModel", "is", "[Z", true)
  | 18 => ("SlopeCheckerModel", "up", "[J", true)
  | 19 => ("SlopeCheckerModel", "down", "[J", true)
  | 20 => ("SlopeCheckerModel", "mostUp", "[J", true)
  | 21 => ("SlopeCheckerModel", "mostDown", "[J", true)
  | 22 => ("SlopeCheckerModel", "cornerX", "J", false)
  | 23 => ("SlopeCheckerModel", "cornerY", "J", false)
  | 24 => ("SlopeCheckerModel", "cornerBy", "J", false)
  | 25 => ("SlopeCheckerModel", "told", "[I", true)
  | 26 => ("SlopeCheckerModel", "sets", "[I", true)
  | 27 => ("SlopeCheckerModel", "parts", "I", false)
  | 28 => ("SlopeCheckerModel", "stop", "I", false)
  | 29 => ("SlopeCheckerModel", "covered", "I", false)
  | 30 => ("SlopeCheckerModel", "joined", "I", false)
  | 31 => ("SlopeCheckerModel", "steps", "I", false)
  | 32 => ("SlopeCheckerModel", "dropped", "I", false)
  | 33 => ("SlopeCheckerModel", "greatest", "I", false)
  | 34 => ("SlopeCheckerModel", "corners", "[J", true)
  | 35 => ("SlopeCheckerModel", "cornerMany", "I", false)
  | 36 => ("SlopeCheckerModel", "places", "[J", true)
  | 37 => ("SlopeCheckerModel", "chain", "[I", true)
  | 38 => ("SlopeCheckerModel", "chained", "I", false)
  | 39 => ("SlopeCheckerModel", "least", "[J", true)
  | 40 => ("SlopeCheckerModel", "fromUp", "J", false)
  | 41 => ("SlopeCheckerModel", "fromDown", "J", false)
  | 42 => ("SlopeCheckerModel", "toUp", "J", false)
  | 43 => ("SlopeCheckerModel", "toDown", "J", false)
  | 44 => ("SlopeCheckerModel", "isBound", "Z", false)
  | 45 => ("SlopeCheckerModel", "isNever", "Z", false)
  | 46 => ("SlopeCheckerModel", "point", "[J", true)
  | 47 => ("SlopeCheckerModel", "overUp", "J", false)
  | 48 => ("SlopeCheckerModel", "overDown", "J", false)
  | 49 => ("SlopeCheckerModel", "ridden", "[J", true)
  | 50 => ("SlopeCheckerModel", "rides", "I", false)
  | 51 => ("SlopeCheckerModel", "ends", "I", false)
  | 52 => ("SlopeCheckerModel", "toldAside", "[I", true)
  | 53 => ("SlopeCheckerModel", "setsAside", "[I", true)
  | _ => ("SlopeCheckerModel", "numbersAside", "[I", true)
def tyX12 : Nat → FieldType := fun k => match k with
  | 0 => .int
  | 1 => .array .int
  | 2 => .int
  | 3 => .array .int
  | 4 => .array .int
  | 5 => .array .int
  | 6 => .int
  | 7 => .int
  | 8 => .int
  | 9 => .int
  | 10 => .int
  | 11 => .int
  | 12 => .int
  | 13 => .int
  | 14 => .int
  | 15 => .int
  | 16 => .boolean
  | 17 => .array .boolean
  | 18 => .array .long
  | 19 => .array .long
  | 20 => .array .long
  | 21 => .array .long
  | 22 => .long
  | 23 => .long
  | 24 => .long
  | 25 => .array .int
  | 26 => .array .int
  | 27 => .int
  | 28 => .int
  | 29 => .int
  | 30 => .int
  | 31 => .int
  | 32 => .int
  | 33 => .int
  | 34 => .array .long
  | 35 => .int
  | 36 => .array .long
  | 37 => .array .int
  | 38 => .int
  | 39 => .array .long
  | 40 => .long
  | 41 => .long
  | 42 => .long
  | 43 => .long
  | 44 => .boolean
  | 45 => .boolean
  | 46 => .array .long
  | 47 => .long
  | 48 => .long
  | 49 => .array .long
  | 50 => .int
  | 51 => .int
  | 52 => .array .int
  | 53 => .array .int
  | _ => .array .int
abbrev wsX120 : List Cond := u_ws RX12 TX12 55
theorem nmX12 : ∀ a, a < 55 → ∀ b, b < 55 → a ≠ b → (TX12 a).2.1 ≠ (TX12 b).2.1 := by decide +kernel
theorem tyX12_ok : ∀ k, k < 55 → parseFieldDescriptor (TX12 k).2.2.1 = some (tyX12 k) := by decide +kernel
abbrev cX12_init : ByteArray := prog_14_method_1_code
def yX12_init : MethodName := ⟨RX12, "<init>", "()V"⟩
abbrev cX12_thrown : ByteArray := prog_14_method_2_code
def yX12_thrown : MethodName := ⟨RX12, "thrown", "()I"⟩
abbrev cX12_feed : ByteArray := prog_14_method_3_code
def yX12_feed : MethodName := ⟨RX12, "feed", "(IIIII)I"⟩
abbrev cX12_here : ByteArray := prog_14_method_4_code
def yX12_here : MethodName := ⟨RX12, "here", "()I"⟩
abbrev cX12_isSmall : ByteArray := prog_14_method_5_code
def yX12_isSmall : MethodName := ⟨RX12, "isSmall", "(I)Z"⟩
abbrev cX12_isDigit : ByteArray := prog_14_method_6_code
def yX12_isDigit : MethodName := ⟨RX12, "isDigit", "(I)Z"⟩
abbrev cX12_token : ByteArray := prog_14_method_7_code
def yX12_token : MethodName := ⟨RX12, "token", "()V"⟩
abbrev cX12_wordHere : ByteArray := prog_14_method_8_code
def yX12_wordHere : MethodName := ⟨RX12, "wordHere", "()I"⟩
abbrev cX12_wrongAt : ByteArray := prog_14_method_9_code
def yX12_wrongAt : MethodName := ⟨RX12, "wrongAt", "(II)V"⟩
abbrev cX12_wrong : ByteArray := prog_14_method_10_code
def yX12_wrong : MethodName := ⟨RX12, "wrong", "(I)V"⟩
abbrev cX12_goOn : ByteArray := prog_14_method_11_code
def yX12_goOn : MethodName := ⟨RX12, "goOn", "()V"⟩
abbrev cX12_isSign : ByteArray := prog_14_method_12_code
def yX12_isSign : MethodName := ⟨RX12, "isSign", "(I)Z"⟩
abbrev cX12_numeral : ByteArray := prog_14_method_13_code
def yX12_numeral : MethodName := ⟨RX12, "numeral", "(IIZ)I"⟩
abbrev cX12_number : ByteArray := prog_14_method_14_code
def yX12_number : MethodName := ⟨RX12, "number", "(II)I"⟩
abbrev cX12_isName : ByteArray := prog_14_method_15_code
def yX12_isName : MethodName := ⟨RX12, "isName", "()Z"⟩
abbrev cX12_modeOf : ByteArray := prog_14_method_16_code
def yX12_modeOf : MethodName := ⟨RX12, "modeOf", "()I"⟩
abbrev cX12_readMode : ByteArray := prog_14_method_17_code
def yX12_readMode : MethodName := ⟨RX12, "readMode", "()I"⟩
abbrev cX12_common : ByteArray := prog_14_method_18_code
def yX12_common : MethodName := ⟨RX12, "common", "(II)I"⟩
abbrev cX12_normalIn : ByteArray := prog_14_method_19_code
def yX12_normalIn : MethodName := ⟨RX12, "normalIn", "([III)I"⟩
abbrev cX12_normalFor : ByteArray := prog_14_method_20_code
def yX12_normalFor : MethodName := ⟨RX12, "normalFor", "(III)I"⟩
abbrev cX12_readBound : ByteArray := prog_14_method_21_code
def yX12_readBound : MethodName := ⟨RX12, "readBound", "(II)V"⟩
abbrev cX12_readOwn : ByteArray := prog_14_method_22_code
def yX12_readOwn : MethodName := ⟨RX12, "readOwn", "(I)V"⟩
abbrev cX12_readKept : ByteArray := prog_14_method_23_code
def yX12_readKept : MethodName := ⟨RX12, "readKept", "(II)V"⟩
abbrev cX12_readEdge : ByteArray := prog_14_method_24_code
def yX12_readEdge : MethodName := ⟨RX12, "readEdge", "()V"⟩
abbrev cX12_latest : ByteArray := prog_14_method_25_code
def yX12_latest : MethodName := ⟨RX12, "latest", "()I"⟩
abbrev cX12_readWhen : ByteArray := prog_14_method_26_code
def yX12_readWhen : MethodName := ⟨RX12, "readWhen", "(I)V"⟩
abbrev cX12_readDeed : ByteArray := prog_14_method_27_code
def yX12_readDeed : MethodName := ⟨RX12, "readDeed", "(II)V"⟩
abbrev cX12_readStart : ByteArray := prog_14_method_28_code
def yX12_readStart : MethodName := ⟨RX12, "readStart", "()V"⟩
abbrev cX12_readMost : ByteArray := prog_14_method_29_code
def yX12_readMost : MethodName := ⟨RX12, "readMost", "()V"⟩
abbrev cX12_readLine : ByteArray := prog_14_method_30_code
def yX12_readLine : MethodName := ⟨RX12, "readLine", "()V"⟩
abbrev cX12_readText : ByteArray := prog_14_method_31_code
def yX12_readText : MethodName := ⟨RX12, "readText", "(I)V"⟩
abbrev cX12_becomes : ByteArray := prog_14_method_32_code
def yX12_becomes : MethodName := ⟨RX12, "becomes", "()V"⟩
abbrev cX12_text : ByteArray := prog_14_method_33_code
def yX12_text : MethodName := ⟨RX12, "text", "(I)I"⟩
abbrev cX12_fault : ByteArray := prog_14_method_34_code
def yX12_fault : MethodName := ⟨RX12, "fault", "(I)I"⟩
abbrev cX12_gcd : ByteArray := prog_14_method_35_code
def yX12_gcd : MethodName := ⟨RX12, "gcd", "(JJ)J"⟩
abbrev cX12_floor : ByteArray := prog_14_method_36_code
def yX12_floor : MethodName := ⟨RX12, "floor", "(JJ)J"⟩
abbrev cX12_compares : ByteArray := prog_14_method_37_code
def yX12_compares : MethodName := ⟨RX12, "compares", "(JJJJ)I"⟩
abbrev cX12_isBeyond : ByteArray := prog_14_method_38_code
def yX12_isBeyond : MethodName := ⟨RX12, "isBeyond", "(JJ)Z"⟩
abbrev cX12_normals : ByteArray := prog_14_method_39_code
def yX12_normals : MethodName := ⟨RX12, "normals", "()I"⟩
abbrev cX12_ofNormal : ByteArray := prog_14_method_40_code
def yX12_ofNormal : MethodName := ⟨RX12, "ofNormal", "(II)J"⟩
abbrev cX12_isCorner : ByteArray := prog_14_method_41_code
def yX12_isCorner : MethodName := ⟨RX12, "isCorner", "(II)Z"⟩
abbrev cX12_isSome : ByteArray := prog_14_method_42_code
def yX12_isSome : MethodName := ⟨RX12, "isSome", "()Z"⟩
abbrev cX12_tightens : ByteArray := prog_14_method_43_code
def yX12_tightens : MethodName := ⟨RX12, "tightens", "()Z"⟩
abbrev cX12_isTooFar : ByteArray := prog_14_method_44_code
def yX12_isTooFar : MethodName := ⟨RX12, "isTooFar", "()Z"⟩
abbrev cX12_cuts : ByteArray := prog_14_method_45_code
def yX12_cuts : MethodName := ⟨RX12, "cuts", "(IJJ)V"⟩
abbrev cX12_cutsBy : ByteArray := prog_14_method_46_code
def yX12_cutsBy : MethodName := ⟨RX12, "cutsBy", "(II)V"⟩
abbrev cX12_boxed : ByteArray := prog_14_method_47_code
def yX12_boxed : MethodName := ⟨RX12, "boxed", "()V"⟩
abbrev cX12_modeAt : ByteArray := prog_14_method_48_code
def yX12_modeAt : MethodName := ⟨RX12, "modeAt", "(I)I"⟩
abbrev cX12_edgeAt : ByteArray := prog_14_method_49_code
def yX12_edgeAt : MethodName := ⟨RX12, "edgeAt", "(I)I"⟩
abbrev cX12_kept : ByteArray := prog_14_method_50_code
def yX12_kept : MethodName := ⟨RX12, "kept", "(I)V"⟩
abbrev cX12_grows : ByteArray := prog_14_method_51_code
def yX12_grows : MethodName := ⟨RX12, "grows", "(I)Z"⟩
abbrev cX12_jumps : ByteArray := prog_14_method_52_code
def yX12_jumps : MethodName := ⟨RX12, "jumps", "(I)V"⟩
abbrev cX12_sets : ByteArray := prog_14_method_53_code
def yX12_sets : MethodName := ⟨RX12, "sets", "(IJ)V"⟩
abbrev cX12_setAt : ByteArray := prog_14_method_54_code
def yX12_setAt : MethodName := ⟨RX12, "setAt", "(II)I"⟩
abbrev cX12_takesSet : ByteArray := prog_14_method_55_code
def yX12_takesSet : MethodName := ⟨RX12, "takesSet", "(II)V"⟩
abbrev cX12_laysSet : ByteArray := prog_14_method_56_code
def yX12_laysSet : MethodName := ⟨RX12, "laysSet", "(II)V"⟩
abbrev cX12_its : ByteArray := prog_14_method_57_code
def yX12_its : MethodName := ⟨RX12, "its", "(II)I"⟩
abbrev cX12_halts : ByteArray := prog_14_method_58_code
def yX12_halts : MethodName := ⟨RX12, "halts", "(I)V"⟩
abbrev cX12_clears : ByteArray := prog_14_method_59_code
def yX12_clears : MethodName := ⟨RX12, "clears", "()V"⟩
abbrev cX12_begins : ByteArray := prog_14_method_60_code
def yX12_begins : MethodName := ⟨RX12, "begins", "()V"⟩
abbrev cX12_makes : ByteArray := prog_14_method_61_code
def yX12_makes : MethodName := ⟨RX12, "makes", "(IIIIZ)V"⟩
abbrev cX12_isHarm : ByteArray := prog_14_method_62_code
def yX12_isHarm : MethodName := ⟨RX12, "isHarm", "(I)Z"⟩
abbrev cX12_isWithin : ByteArray := prog_14_method_63_code
def yX12_isWithin : MethodName := ⟨RX12, "isWithin", "(I)Z"⟩
abbrev cX12_isCovered : ByteArray := prog_14_method_64_code
def yX12_isCovered : MethodName := ⟨RX12, "isCovered", "(I)Z"⟩
abbrev cX12_livingOf : ByteArray := prog_14_method_65_code
def yX12_livingOf : MethodName := ⟨RX12, "livingOf", "(I)I"⟩
abbrev cX12_joins : ByteArray := prog_14_method_66_code
def yX12_joins : MethodName := ⟨RX12, "joins", "(I)V"⟩
abbrev cX12_goes : ByteArray := prog_14_method_67_code
def yX12_goes : MethodName := ⟨RX12, "goes", "(II)V"⟩
abbrev cX12_comes : ByteArray := prog_14_method_68_code
def yX12_comes : MethodName := ⟨RX12, "comes", "(III)V"⟩
abbrev cX12_firstOpen : ByteArray := prog_14_method_69_code
def yX12_firstOpen : MethodName := ⟨RX12, "firstOpen", "()I"⟩
abbrev cX12_runs : ByteArray := prog_14_method_70_code
def yX12_runs : MethodName := ⟨RX12, "runs", "(I)I"⟩
abbrev cX12_step : ByteArray := prog_14_method_71_code
def yX12_step : MethodName := ⟨RX12, "step", "(I)I"⟩
abbrev cX12_manyOf : ByteArray := prog_14_method_72_code
def yX12_manyOf : MethodName := ⟨RX12, "manyOf", "(I)I"⟩
abbrev cX12_firstHarmed : ByteArray := prog_14_method_73_code
def yX12_firstHarmed : MethodName := ⟨RX12, "firstHarmed", "(Z)I"⟩
abbrev cX12_safe : ByteArray := prog_14_method_74_code
def yX12_safe : MethodName := ⟨RX12, "safe", "()I"⟩
abbrev cX12_check : ByteArray := prog_14_method_75_code
def yX12_check : MethodName := ⟨RX12, "check", "(I)I"⟩
abbrev cX12_isMode : ByteArray := prog_14_method_76_code
def yX12_isMode : MethodName := ⟨RX12, "isMode", "(I)Z"⟩
abbrev cX12_isPart : ByteArray := prog_14_method_77_code
def yX12_isPart : MethodName := ⟨RX12, "isPart", "(I)Z"⟩
abbrev cX12_edgesFrom : ByteArray := prog_14_method_78_code
def yX12_edgesFrom : MethodName := ⟨RX12, "edgesFrom", "(I)I"⟩
abbrev cX12_mode : ByteArray := prog_14_method_79_code
def yX12_mode : MethodName := ⟨RX12, "mode", "(II)I"⟩
abbrev cX12_edge : ByteArray := prog_14_method_80_code
def yX12_edge : MethodName := ⟨RX12, "edge", "(II)I"⟩
abbrev cX12_normal : ByteArray := prog_14_method_81_code
def yX12_normal : MethodName := ⟨RX12, "normal", "(II)I"⟩
abbrev cX12_normalOf : ByteArray := prog_14_method_82_code
def yX12_normalOf : MethodName := ⟨RX12, "normalOf", "(II)I"⟩
abbrev cX12_part : ByteArray := prog_14_method_83_code
def yX12_part : MethodName := ⟨RX12, "part", "(II)I"⟩
abbrev cX12_isSet : ByteArray := prog_14_method_84_code
def yX12_isSet : MethodName := ⟨RX12, "isSet", "(II)Z"⟩
abbrev cX12_limit : ByteArray := prog_14_method_85_code
def yX12_limit : MethodName := ⟨RX12, "limit", "(IIII)I"⟩
abbrev cX12_cornersOf : ByteArray := prog_14_method_86_code
def yX12_cornersOf : MethodName := ⟨RX12, "cornersOf", "(II)I"⟩
abbrev cX12_laysCorner : ByteArray := prog_14_method_87_code
def yX12_laysCorner : MethodName := ⟨RX12, "laysCorner", "()V"⟩
abbrev cX12_corner : ByteArray := prog_14_method_88_code
def yX12_corner : MethodName := ⟨RX12, "corner", "(IIII)J"⟩
abbrev cX12_isPoint : ByteArray := prog_14_method_89_code
def yX12_isPoint : MethodName := ⟨RX12, "isPoint", "(III)Z"⟩
abbrev cX12_holds : ByteArray := prog_14_method_90_code
def yX12_holds : MethodName := ⟨RX12, "holds", "(JJJ)Z"⟩
abbrev cX12_has : ByteArray := prog_14_method_91_code
def yX12_has : MethodName := ⟨RX12, "has", "(IIIII)I"⟩
abbrev cX12_partWith : ByteArray := prog_14_method_92_code
def yX12_partWith : MethodName := ⟨RX12, "partWith", "(IJJJ)I"⟩
abbrev cX12_where : ByteArray := prog_14_method_93_code
def yX12_where : MethodName := ⟨RX12, "where", "(IIII)I"⟩
abbrev cX12_within : ByteArray := prog_14_method_94_code
def yX12_within : MethodName := ⟨RX12, "within", "(II)I"⟩
abbrev cX12_meets : ByteArray := prog_14_method_95_code
def yX12_meets : MethodName := ⟨RX12, "meets", "(IIII)I"⟩
abbrev cX12_findsLeast : ByteArray := prog_14_method_96_code
def yX12_findsLeast : MethodName := ⟨RX12, "findsLeast", "()Z"⟩
abbrev cX12_laysOut : ByteArray := prog_14_method_97_code
def yX12_laysOut : MethodName := ⟨RX12, "laysOut", "(I)V"⟩
abbrev cX12_isOff : ByteArray := prog_14_method_98_code
def yX12_isOff : MethodName := ⟨RX12, "isOff", "(II)Z"⟩
abbrev cX12_chains : ByteArray := prog_14_method_99_code
def yX12_chains : MethodName := ⟨RX12, "chains", "(I)V"⟩
abbrev cX12_anyTime : ByteArray := prog_14_method_100_code
def yX12_anyTime : MethodName := ⟨RX12, "anyTime", "()V"⟩
abbrev cX12_mustBe : ByteArray := prog_14_method_101_code
def yX12_mustBe : MethodName := ⟨RX12, "mustBe", "(JJJ)V"⟩
abbrev cX12_canBe : ByteArray := prog_14_method_102_code
def yX12_canBe : MethodName := ⟨RX12, "canBe", "()Z"⟩
abbrev cX12_over : ByteArray := prog_14_method_103_code
def yX12_over : MethodName := ⟨RX12, "over", "(JJJJ)V"⟩
abbrev cX12_goesBack : ByteArray := prog_14_method_104_code
def yX12_goesBack : MethodName := ⟨RX12, "goesBack", "(JJ)Z"⟩
abbrev cX12_moved : ByteArray := prog_14_method_105_code
def yX12_moved : MethodName := ⟨RX12, "moved", "([JIJJJJJ)V"⟩
abbrev cX12_laysIn : ByteArray := prog_14_method_106_code
def yX12_laysIn : MethodName := ⟨RX12, "laysIn", "(I)Z"⟩
abbrev cX12_laysAhead : ByteArray := prog_14_method_107_code
def yX12_laysAhead : MethodName := ⟨RX12, "laysAhead", "(I)Z"⟩
abbrev cX12_equals : ByteArray := prog_14_method_108_code
def yX12_equals : MethodName := ⟨RX12, "equals", "(IIJ)V"⟩
abbrev cX12_laysWay : ByteArray := prog_14_method_109_code
def yX12_laysWay : MethodName := ⟨RX12, "laysWay", "(I)Z"⟩
abbrev cX12_way : ByteArray := prog_14_method_110_code
def yX12_way : MethodName := ⟨RX12, "way", "(I)I"⟩
abbrev cX12_onWay : ByteArray := prog_14_method_111_code
def yX12_onWay : MethodName := ⟨RX12, "onWay", "(III)I"⟩
abbrev cX12_wayTime : ByteArray := prog_14_method_112_code
def yX12_wayTime : MethodName := ⟨RX12, "wayTime", "(II)J"⟩
abbrev cX12_asks : ByteArray := prog_14_method_113_code
def yX12_asks : MethodName := ⟨RX12, "asks", "(IIJJ)V"⟩
abbrev cX12_asksMode : ByteArray := prog_14_method_114_code
def yX12_asksMode : MethodName := ⟨RX12, "asksMode", "(IJJ)V"⟩
abbrev cX12_takesPoint : ByteArray := prog_14_method_115_code
def yX12_takesPoint : MethodName := ⟨RX12, "takesPoint", "(I)V"⟩
abbrev cX12_changes : ByteArray := prog_14_method_116_code
def yX12_changes : MethodName := ⟨RX12, "changes", "(I)V"⟩
abbrev cX12_canTake : ByteArray := prog_14_method_117_code
def yX12_canTake : MethodName := ⟨RX12, "canTake", "(II)Z"⟩
abbrev cX12_jumpsOn : ByteArray := prog_14_method_118_code
def yX12_jumpsOn : MethodName := ⟨RX12, "jumpsOn", "(I)Z"⟩
abbrev cX12_canBegin : ByteArray := prog_14_method_119_code
def yX12_canBegin : MethodName := ⟨RX12, "canBegin", "(IJJJ)Z"⟩
abbrev cX12_ride : ByteArray := prog_14_method_120_code
def yX12_ride : MethodName := ⟨RX12, "ride", "(IIIII)I"⟩
abbrev cX12_ridden : ByteArray := prog_14_method_121_code
def yX12_ridden : MethodName := ⟨RX12, "ridden", "(II)I"⟩
abbrev cX12_ended : ByteArray := prog_14_method_122_code
def yX12_ended : MethodName := ⟨RX12, "ended", "()I"⟩
abbrev cX12_followed : ByteArray := prog_14_method_123_code
def yX12_followed : MethodName := ⟨RX12, "followed", "()I"⟩
abbrev cX12_goesAside : ByteArray := prog_14_method_124_code
def yX12_goesAside : MethodName := ⟨RX12, "goesAside", "()V"⟩
abbrev cX12_comesBack : ByteArray := prog_14_method_125_code
def yX12_comesBack : MethodName := ⟨RX12, "comesBack", "()V"⟩
abbrev cX12_tries : ByteArray := prog_14_method_126_code
def yX12_tries : MethodName := ⟨RX12, "tries", "(II)I"⟩
abbrev cX12_canTry : ByteArray := prog_14_method_127_code
def yX12_canTry : MethodName := ⟨RX12, "canTry", "(II)Z"⟩
abbrev cX12_isSize : ByteArray := prog_14_method_128_code
def yX12_isSize : MethodName := ⟨RX12, "isSize", "(I)Z"⟩
abbrev cX12_ifStart : ByteArray := prog_14_method_129_code
def yX12_ifStart : MethodName := ⟨RX12, "ifStart", "(IIIIII)I"⟩
abbrev cX12_startsAt : ByteArray := prog_14_method_130_code
def yX12_startsAt : MethodName := ⟨RX12, "startsAt", "(IIII)V"⟩
abbrev cX12_ifMost : ByteArray := prog_14_method_131_code
def yX12_ifMost : MethodName := ⟨RX12, "ifMost", "(III)I"⟩
abbrev cX12_triesWithout : ByteArray := prog_14_method_132_code
def yX12_triesWithout : MethodName := ⟨RX12, "triesWithout", "(III)I"⟩
abbrev cX12_ifWithout : ByteArray := prog_14_method_133_code
def yX12_ifWithout : MethodName := ⟨RX12, "ifWithout", "(III)I"⟩
abbrev cX12_blamed : ByteArray := prog_14_method_134_code
def yX12_blamed : MethodName := ⟨RX12, "blamed", "(I)I"⟩
abbrev cX12_count : ByteArray := prog_14_method_135_code
def yX12_count : MethodName := ⟨RX12, "count", "(I)I"⟩
def RJx145de : String := "java/io/Serializable"
def TJx145de : u_T := fun k => match k with
  | _ => ("", "", "", false)
def tyJx145de : Nat → FieldType := fun k => match k with
  | _ => .int
abbrev wsJx145de0 : List Cond := u_ws RJx145de TJx145de 0
theorem nmJx145de : ∀ a, a < 0 → ∀ b, b < 0 → a ≠ b → (TJx145de a).2.1 ≠ (TJx145de b).2.1 := by decide +kernel
theorem tyJx145de_ok : ∀ k, k < 0 → parseFieldDescriptor (TJx145de k).2.2.1 = some (tyJx145de k) := by decide +kernel
def RJx9f9b0 : String := "java/lang/CharSequence"
def TJx9f9b0 : u_T := fun k => match k with
  | _ => ("", "", "", false)
def tyJx9f9b0 : Nat → FieldType := fun k => match k with
  | _ => .int
abbrev wsJx9f9b00 : List Cond := u_ws RJx9f9b0 TJx9f9b0 0
theorem nmJx9f9b0 : ∀ a, a < 0 → ∀ b, b < 0 → a ≠ b → (TJx9f9b0 a).2.1 ≠ (TJx9f9b0 b).2.1 := by decide +kernel
theorem tyJx9f9b0_ok : ∀ k, k < 0 → parseFieldDescriptor (TJx9f9b0 k).2.2.1 = some (tyJx9f9b0 k) := by decide +kernel
def RJxb160c : String := "java/lang/Comparable"
def TJxb160c : u_T := fun k => match k with
  | _ => ("", "", "", false)
def tyJxb160c : Nat → FieldType := fun k => match k with
  | _ => .int
abbrev wsJxb160c0 : List Cond := u_ws RJxb160c TJxb160c 0
theorem nmJxb160c : ∀ a, a < 0 → ∀ b, b < 0 → a ≠ b → (TJxb160c a).2.1 ≠ (TJxb160c b).2.1 := by decide +kernel
theorem tyJxb160c_ok : ∀ k, k < 0 → parseFieldDescriptor (TJxb160c k).2.2.1 = some (tyJxb160c k) := by decide +kernel
def RJ13 : String := "java/lang/Long"
def TJ13 : u_T := fun k => match k with
  | _ => ("", "", "", false)
def tyJ13 : Nat → FieldType := fun k => match k with
  | _ => .int
abbrev wsJ130 : List Cond := u_ws RJ13 TJ13 0
theorem nmJ13 : ∀ a, a < 0 → ∀ b, b < 0 → a ≠ b → (TJ13 a).2.1 ≠ (TJ13 b).2.1 := by decide +kernel
theorem tyJ13_ok : ∀ k, k < 0 → parseFieldDescriptor (TJ13 k).2.2.1 = some (tyJ13 k) := by decide +kernel
abbrev cJ13_compare_74951 : ByteArray := prog_20_method_42_code
def yJ13_compare_74951 : MethodName := ⟨RJ13, "compare", "(JJ)I"⟩
def RJ9 : String := "java/lang/Math"
def TJ9 : u_T := fun k => match k with
  | _ => ("", "", "", false)
def tyJ9 : Nat → FieldType := fun k => match k with
  | _ => .int
abbrev wsJ90 : List Cond := u_ws RJ9 TJ9 0
theorem nmJ9 : ∀ a, a < 0 → ∀ b, b < 0 → a ≠ b → (TJ9 a).2.1 ≠ (TJ9 b).2.1 := by decide +kernel
theorem tyJ9_ok : ∀ k, k < 0 → parseFieldDescriptor (TJ9 k).2.2.1 = some (tyJ9 k) := by decide +kernel
abbrev cJ9_floorDiv_f86c9 : ByteArray := prog_21_method_49_code
def yJ9_floorDiv_f86c9 : MethodName := ⟨RJ9, "floorDiv", "(JJ)J"⟩
abbrev cJ9_floorMod_f86c9 : ByteArray := prog_21_method_52_code
def yJ9_floorMod_f86c9 : MethodName := ⟨RJ9, "floorMod", "(JJ)J"⟩
abbrev cJ9_abs_067f4 : ByteArray := prog_21_method_61_code
def yJ9_abs_067f4 : MethodName := ⟨RJ9, "abs", "(J)J"⟩
abbrev cJ9_min_7cf53 : ByteArray := prog_21_method_69_code
def yJ9_min_7cf53 : MethodName := ⟨RJ9, "min", "(II)I"⟩
def RJ0 : String := "java/lang/String"
def TJ0 : u_T := fun k => match k with
  | _ => ("", "", "", false)
def tyJ0 : Nat → FieldType := fun k => match k with
  | _ => .int
abbrev wsJ00 : List Cond := u_ws RJ0 TJ0 0
theorem nmJ0 : ∀ a, a < 0 → ∀ b, b < 0 → a ≠ b → (TJ0 a).2.1 ≠ (TJ0 b).2.1 := by decide +kernel
theorem tyJ0_ok : ∀ k, k < 0 → parseFieldDescriptor (TJ0 k).2.2.1 = some (tyJ0 k) := by decide +kernel
abbrev cJ0_length_8abf5 : ByteArray := prog_23_method_54_code
def yJ0_length_8abf5 : MethodName := ⟨RJ0, "length", "()I"⟩
abbrev cJ0_charAt_5068e : ByteArray := prog_23_method_56_code
def yJ0_charAt_5068e : MethodName := ⟨RJ0, "charAt", "(I)C"⟩
abbrev cJ0_coder_7d493 : ByteArray := prog_23_method_152_code
def yJ0_coder_7d493 : MethodName := ⟨RJ0, "coder", "()B"⟩
abbrev cJ0_isLatin1_aae02 : ByteArray := prog_23_method_154_code
def yJ0_isLatin1_aae02 : MethodName := ⟨RJ0, "isLatin1", "()Z"⟩
abbrev cJ0_checkIndex_df160 : ByteArray := prog_23_method_155_code
def yJ0_checkIndex_df160 : MethodName := ⟨RJ0, "checkIndex", "(II)V"⟩
def RJ1 : String := "java/lang/StringLatin1"
def TJ1 : u_T := fun k => match k with
  | _ => ("", "", "", false)
def tyJ1 : Nat → FieldType := fun k => match k with
  | _ => .int
abbrev wsJ10 : List Cond := u_ws RJ1 TJ1 0
theorem nmJ1 : ∀ a, a < 0 → ∀ b, b < 0 → a ≠ b → (TJ1 a).2.1 ≠ (TJ1 b).2.1 := by decide +kernel
theorem tyJ1_ok : ∀ k, k < 0 → parseFieldDescriptor (TJ1 k).2.2.1 = some (tyJ1 k) := by decide +kernel
abbrev cJ1_charAt_3b067 : ByteArray := prog_24_method_2_code
def yJ1_charAt_3b067 : MethodName := ⟨RJ1, "charAt", "([BI)C"⟩
def RJ2 : String := "java/lang/StringUTF16"
def TJ2 : u_T := fun k => match k with
  | _ => ("", "", "", false)
def tyJ2 : Nat → FieldType := fun k => match k with
  | _ => .int
abbrev wsJ20 : List Cond := u_ws RJ2 TJ2 0
theorem nmJ2 : ∀ a, a < 0 → ∀ b, b < 0 → a ≠ b → (TJ2 a).2.1 ≠ (TJ2 b).2.1 := by decide +kernel
theorem tyJ2_ok : ∀ k, k < 0 → parseFieldDescriptor (TJ2 k).2.2.1 = some (tyJ2 k) := by decide +kernel
abbrev cJ2_getChar_3b067 : ByteArray := prog_25_method_5_code
def yJ2_getChar_3b067 : MethodName := ⟨RJ2, "getChar", "([BI)C"⟩
abbrev cJ2_length_9d52b : ByteArray := prog_25_method_6_code
def yJ2_length_9d52b : MethodName := ⟨RJ2, "length", "([B)I"⟩
abbrev cJ2_charAt_3b067 : ByteArray := prog_25_method_83_code
def yJ2_charAt_3b067 : MethodName := ⟨RJ2, "charAt", "([BI)C"⟩
abbrev cJ2_checkIndex_2214a : ByteArray := prog_25_method_91_code
def yJ2_checkIndex_2214a : MethodName := ⟨RJ2, "checkIndex", "(I[B)V"⟩
def RJxfd54e : String := "java/lang/constant/Constable"
def TJxfd54e : u_T := fun k => match k with
  | _ => ("", "", "", false)
def tyJxfd54e : Nat → FieldType := fun k => match k with
  | _ => .int
abbrev wsJxfd54e0 : List Cond := u_ws RJxfd54e TJxfd54e 0
theorem nmJxfd54e : ∀ a, a < 0 → ∀ b, b < 0 → a ≠ b → (TJxfd54e a).2.1 ≠ (TJxfd54e b).2.1 := by decide +kernel
theorem tyJxfd54e_ok : ∀ k, k < 0 → parseFieldDescriptor (TJxfd54e k).2.2.1 = some (tyJxfd54e k) := by decide +kernel
def RJx3cf43 : String := "java/lang/constant/ConstantDesc"
def TJx3cf43 : u_T := fun k => match k with
  | _ => ("", "", "", false)
def tyJx3cf43 : Nat → FieldType := fun k => match k with
  | _ => .int
abbrev wsJx3cf430 : List Cond := u_ws RJx3cf43 TJx3cf43 0
theorem nmJx3cf43 : ∀ a, a < 0 → ∀ b, b < 0 → a ≠ b → (TJx3cf43 a).2.1 ≠ (TJx3cf43 b).2.1 := by decide +kernel
theorem tyJx3cf43_ok : ∀ k, k < 0 → parseFieldDescriptor (TJx3cf43 k).2.2.1 = some (tyJx3cf43 k) := by decide +kernel
def RJ3 : String := "jdk/internal/util/Preconditions"
def TJ3 : u_T := fun k => match k with
  | _ => ("", "", "", false)
def tyJ3 : Nat → FieldType := fun k => match k with
  | _ => .int
abbrev wsJ30 : List Cond := u_ws RJ3 TJ3 0
theorem nmJ3 : ∀ a, a < 0 → ∀ b, b < 0 → a ≠ b → (TJ3 a).2.1 ≠ (TJ3 b).2.1 := by decide +kernel
theorem tyJ3_ok : ∀ k, k < 0 → parseFieldDescriptor (TJ3 k).2.2.1 = some (tyJ3 k) := by decide +kernel
abbrev cJ3_checkIndex_8e157 : ByteArray := prog_30_method_11_code
def yJ3_checkIndex_8e157 : MethodName := ⟨RJ3, "checkIndex", "(IILjava/util/function/BiFunction;)I"⟩
def RL : String := "SlopeCheckerLaw"
abbrev cL_mode : ByteArray := method_3_code
def yL_mode : MethodName := ⟨RL, "mode", "(LSlopeChecker;II[J)I"⟩
abbrev cL_law : ByteArray := code
def yL_law : MethodName := ⟨RL, "law", "([I)Z"⟩
abbrev vwCl : List vw_C := [(RX0, TX0, 6), (RX1, TX1, 12), (RX2, TX2, 9), (RX3, TX3, 16), (RX4, TX4, 4), (RX5, TX5, 10), (RX6, TX6, 2), (RX7, TX7, 15), (RX8, TX8, 2), (RX9, TX9, 17), (RX10, TX10, 6), (RX11, TX11, 12), (RX12, TX12, 55)]
