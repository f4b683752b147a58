-- ===== PART A: goes FIRST, ahead of the names: the tables' words, and 'selects' of the private methods out of them =====
/-- a private method of a class that the tables say can be made, by its rows of tables_1 -/
def lw_okq (q : MethodName × Nat) : Prop := (q.1.cls ≠ "java/lang/invoke/MethodHandle" ∧ q.1.cls ≠ "java/lang/invoke/VarHandle") ∧ Cond.instantiable q.1.cls q.2 ∈ tables_1 ∧ Cond.privateMethod q.1 ∈ tables_1 ∧ Cond.instanceMethod q.1 ∈ tables_1
theorem lw_p0 : lw_okq (⟨"FairGround", "isDoor", "(II)Z"⟩, 14) := ⟨⟨by decide +kernel, by decide +kernel⟩, List.mem_of_getElem? (i := 21) (by decide +kernel), List.mem_of_getElem? (i := 210) (by decide +kernel), List.mem_of_getElem? (i := 211) (by decide +kernel)⟩
theorem lw_p1 : lw_okq (⟨"FairGround", "areDoorsJoined", "()Z"⟩, 14) := ⟨⟨by decide +kernel, by decide +kernel⟩, List.mem_of_getElem? (i := 21) (by decide +kernel), List.mem_of_getElem? (i := 226) (by decide +kernel), List.mem_of_getElem? (i := 227) (by decide +kernel)⟩
theorem lw_p2 : lw_okq (⟨"FairGround$Green", "reach", "(II)V"⟩, 5) := ⟨⟨by decide +kernel, by decide +kernel⟩, List.mem_of_getElem? (i := 29) (by decide +kernel), List.mem_of_getElem? (i := 234) (by decide +kernel), List.mem_of_getElem? (i := 235) (by decide +kernel)⟩
theorem lw_p3 : lw_okq (⟨"FairGround", "countLying", "()I"⟩, 14) := ⟨⟨by decide +kernel, by decide +kernel⟩, List.mem_of_getElem? (i := 21) (by decide +kernel), List.mem_of_getElem? (i := 246) (by decide +kernel), List.mem_of_getElem? (i := 247) (by decide +kernel)⟩
theorem lw_p4 : lw_okq (⟨"FairGround", "find", "(I)LFairGround$Ride;"⟩, 14) := ⟨⟨by decide +kernel, by decide +kernel⟩, List.mem_of_getElem? (i := 21) (by decide +kernel), List.mem_of_getElem? (i := 320) (by decide +kernel), List.mem_of_getElem? (i := 321) (by decide +kernel)⟩
theorem lw_p5 : lw_okq (⟨"FairGround", "canLie", "(LFairGround$Ride;LFairGround$Spot;)Z"⟩, 14) := ⟨⟨by decide +kernel, by decide +kernel⟩, List.mem_of_getElem? (i := 21) (by decide +kernel), List.mem_of_getElem? (i := 328) (by decide +kernel), List.mem_of_getElem? (i := 329) (by decide +kernel)⟩
theorem lw_p6 : lw_okq (⟨"FairGround", "isClear", "(LFairGround$Spot;)Z"⟩, 14) := ⟨⟨by decide +kernel, by decide +kernel⟩, List.mem_of_getElem? (i := 21) (by decide +kernel), List.mem_of_getElem? (i := 332) (by decide +kernel), List.mem_of_getElem? (i := 333) (by decide +kernel)⟩
theorem lw_p7 : lw_okq (⟨"FairGround", "isClearOfOthers", "(LFairGround$Ride;LFairGround$Spot;)Z"⟩, 14) := ⟨⟨by decide +kernel, by decide +kernel⟩, List.mem_of_getElem? (i := 21) (by decide +kernel), List.mem_of_getElem? (i := 349) (by decide +kernel), List.mem_of_getElem? (i := 350) (by decide +kernel)⟩
theorem lw_p8 : lw_okq (⟨"FairGround", "layIfItFits", "(LFairGround$Ride;)Z"⟩, 14) := ⟨⟨by decide +kernel, by decide +kernel⟩, List.mem_of_getElem? (i := 21) (by decide +kernel), List.mem_of_getElem? (i := 379) (by decide +kernel), List.mem_of_getElem? (i := 380) (by decide +kernel)⟩
theorem lw_p9 : lw_okq (⟨"FairGround", "takeAway", "(LFairGround$Ride;)V"⟩, 14) := ⟨⟨by decide +kernel, by decide +kernel⟩, List.mem_of_getElem? (i := 21) (by decide +kernel), List.mem_of_getElem? (i := 391) (by decide +kernel), List.mem_of_getElem? (i := 392) (by decide +kernel)⟩
theorem lw_p10 : lw_okq (⟨"FairGround", "layAtFirstPlace", "(LFairGround$Ride;)V"⟩, 14) := ⟨⟨by decide +kernel, by decide +kernel⟩, List.mem_of_getElem? (i := 21) (by decide +kernel), List.mem_of_getElem? (i := 404) (by decide +kernel), List.mem_of_getElem? (i := 405) (by decide +kernel)⟩
theorem lw_p11 : lw_okq (⟨"FairGround", "keepsRight", "(LFairGround$Ride;)Z"⟩, 14) := ⟨⟨by decide +kernel, by decide +kernel⟩, List.mem_of_getElem? (i := 21) (by decide +kernel), List.mem_of_getElem? (i := 432) (by decide +kernel), List.mem_of_getElem? (i := 433) (by decide +kernel)⟩
theorem lw_p12 : lw_okq (⟨"FairGround$Law", "worth", "(II[I)I"⟩, 6) := ⟨⟨by decide +kernel, by decide +kernel⟩, List.mem_of_getElem? (i := 125) (by decide +kernel), List.mem_of_getElem? (i := 444) (by decide +kernel), List.mem_of_getElem? (i := 445) (by decide +kernel)⟩
theorem lw_p13 : lw_okq (⟨"FairGround$Reader", "scanWord", "(LFairGround$Tape;I)I"⟩, 6) := ⟨⟨by decide +kernel, by decide +kernel⟩, List.mem_of_getElem? (i := 100) (by decide +kernel), List.mem_of_getElem? (i := 484) (by decide +kernel), List.mem_of_getElem? (i := 485) (by decide +kernel)⟩
theorem lw_p14 : lw_okq (⟨"FairGround$Reader", "addToken", "(III)V"⟩, 6) := ⟨⟨by decide +kernel, by decide +kernel⟩, List.mem_of_getElem? (i := 100) (by decide +kernel), List.mem_of_getElem? (i := 556) (by decide +kernel), List.mem_of_getElem? (i := 557) (by decide +kernel)⟩
theorem lw_p15 : lw_okq (⟨"FairGround$Reader", "scanNumber", "(LFairGround$Tape;I)I"⟩, 6) := ⟨⟨by decide +kernel, by decide +kernel⟩, List.mem_of_getElem? (i := 100) (by decide +kernel), List.mem_of_getElem? (i := 564) (by decide +kernel), List.mem_of_getElem? (i := 565) (by decide +kernel)⟩
def lw_privs_1 : List (MethodName × Nat) := [(⟨"FairGround", "isDoor", "(II)Z"⟩, 14), (⟨"FairGround", "areDoorsJoined", "()Z"⟩, 14), (⟨"FairGround$Green", "reach", "(II)V"⟩, 5), (⟨"FairGround", "countLying", "()I"⟩, 14), (⟨"FairGround", "find", "(I)LFairGround$Ride;"⟩, 14), (⟨"FairGround", "canLie", "(LFairGround$Ride;LFairGround$Spot;)Z"⟩, 14), (⟨"FairGround", "isClear", "(LFairGround$Spot;)Z"⟩, 14), (⟨"FairGround", "isClearOfOthers", "(LFairGround$Ride;LFairGround$Spot;)Z"⟩, 14), (⟨"FairGround", "layIfItFits", "(LFairGround$Ride;)Z"⟩, 14), (⟨"FairGround", "takeAway", "(LFairGround$Ride;)V"⟩, 14), (⟨"FairGround", "layAtFirstPlace", "(LFairGround$Ride;)V"⟩, 14), (⟨"FairGround", "keepsRight", "(LFairGround$Ride;)Z"⟩, 14), (⟨"FairGround$Law", "worth", "(II[I)I"⟩, 6), (⟨"FairGround$Reader", "scanWord", "(LFairGround$Tape;I)I"⟩, 6), (⟨"FairGround$Reader", "addToken", "(III)V"⟩, 6), (⟨"FairGround$Reader", "scanNumber", "(LFairGround$Tape;I)I"⟩, 6)]
theorem lw_r1 : ∀ q ∈ lw_privs_1, lw_okq q := List.forall_mem_cons.mpr ⟨lw_p0, List.forall_mem_cons.mpr ⟨lw_p1, List.forall_mem_cons.mpr ⟨lw_p2, List.forall_mem_cons.mpr ⟨lw_p3, List.forall_mem_cons.mpr ⟨lw_p4, List.forall_mem_cons.mpr ⟨lw_p5, List.forall_mem_cons.mpr ⟨lw_p6, List.forall_mem_cons.mpr ⟨lw_p7, List.forall_mem_cons.mpr ⟨lw_p8, List.forall_mem_cons.mpr ⟨lw_p9, List.forall_mem_cons.mpr ⟨lw_p10, List.forall_mem_cons.mpr ⟨lw_p11, List.forall_mem_cons.mpr ⟨lw_p12, List.forall_mem_cons.mpr ⟨lw_p13, List.forall_mem_cons.mpr ⟨lw_p14, List.forall_mem_cons.mpr ⟨lw_p15, fun _ h => absurd h List.not_mem_nil⟩⟩⟩⟩⟩⟩⟩⟩⟩⟩⟩⟩⟩⟩⟩⟩
theorem lw_p16 : lw_okq (⟨"FairGround$Reader", "kind", "()I"⟩, 6) := ⟨⟨by decide +kernel, by decide +kernel⟩, List.mem_of_getElem? (i := 100) (by decide +kernel), List.mem_of_getElem? (i := 589) (by decide +kernel), List.mem_of_getElem? (i := 590) (by decide +kernel)⟩
theorem lw_p17 : lw_okq (⟨"FairGround$Reader", "readLine", "(LFairGround$Law;I)Z"⟩, 6) := ⟨⟨by decide +kernel, by decide +kernel⟩, List.mem_of_getElem? (i := 100) (by decide +kernel), List.mem_of_getElem? (i := 593) (by decide +kernel), List.mem_of_getElem? (i := 594) (by decide +kernel)⟩
theorem lw_p18 : lw_okq (⟨"FairGround$Reader", "refuse", "(I)Z"⟩, 6) := ⟨⟨by decide +kernel, by decide +kernel⟩, List.mem_of_getElem? (i := 100) (by decide +kernel), List.mem_of_getElem? (i := 597) (by decide +kernel), List.mem_of_getElem? (i := 598) (by decide +kernel)⟩
theorem lw_p19 : lw_okq (⟨"FairGround$Reader", "skip", "(I)Z"⟩, 6) := ⟨⟨by decide +kernel, by decide +kernel⟩, List.mem_of_getElem? (i := 100) (by decide +kernel), List.mem_of_getElem? (i := 605) (by decide +kernel), List.mem_of_getElem? (i := 606) (by decide +kernel)⟩
theorem lw_p20 : lw_okq (⟨"FairGround$Reader", "readTests", "(LFairGround$Law;I)Z"⟩, 6) := ⟨⟨by decide +kernel, by decide +kernel⟩, List.mem_of_getElem? (i := 100) (by decide +kernel), List.mem_of_getElem? (i := 609) (by decide +kernel), List.mem_of_getElem? (i := 610) (by decide +kernel)⟩
theorem lw_p21 : lw_okq (⟨"FairGround$Reader", "readSum", "(LFairGround$Law;I)Z"⟩, 6) := ⟨⟨by decide +kernel, by decide +kernel⟩, List.mem_of_getElem? (i := 100) (by decide +kernel), List.mem_of_getElem? (i := 613) (by decide +kernel), List.mem_of_getElem? (i := 614) (by decide +kernel)⟩
theorem lw_p22 : lw_okq (⟨"FairGround$Reader", "readPart", "(LFairGround$Law;I)Z"⟩, 6) := ⟨⟨by decide +kernel, by decide +kernel⟩, List.mem_of_getElem? (i := 100) (by decide +kernel), List.mem_of_getElem? (i := 617) (by decide +kernel), List.mem_of_getElem? (i := 618) (by decide +kernel)⟩
theorem lw_p23 : lw_okq (⟨"FairGround", "powerWanted", "(I)I"⟩, 14) := ⟨⟨by decide +kernel, by decide +kernel⟩, List.mem_of_getElem? (i := 21) (by decide +kernel), List.mem_of_getElem? (i := 638) (by decide +kernel), List.mem_of_getElem? (i := 639) (by decide +kernel)⟩
theorem lw_p24 : lw_okq (⟨"FairGround", "allRents", "()I"⟩, 14) := ⟨⟨by decide +kernel, by decide +kernel⟩, List.mem_of_getElem? (i := 21) (by decide +kernel), List.mem_of_getElem? (i := 654) (by decide +kernel), List.mem_of_getElem? (i := 655) (by decide +kernel)⟩
theorem lw_p25 : lw_okq (⟨"FairGround", "couldGrowTo", "(LFairGround$Ride;LFairGround$Spot;)Z"⟩, 14) := ⟨⟨by decide +kernel, by decide +kernel⟩, List.mem_of_getElem? (i := 21) (by decide +kernel), List.mem_of_getElem? (i := 662) (by decide +kernel), List.mem_of_getElem? (i := 663) (by decide +kernel)⟩
theorem lw_p26 : lw_okq (⟨"FairGround", "movedBy", "(LFairGround$Ride;LFairGround$Spot;)I"⟩, 14) := ⟨⟨by decide +kernel, by decide +kernel⟩, List.mem_of_getElem? (i := 21) (by decide +kernel), List.mem_of_getElem? (i := 670) (by decide +kernel), List.mem_of_getElem? (i := 671) (by decide +kernel)⟩
theorem lw_p27 : lw_okq (⟨"FairGround", "countRights", "()I"⟩, 14) := ⟨⟨by decide +kernel, by decide +kernel⟩, List.mem_of_getElem? (i := 21) (by decide +kernel), List.mem_of_getElem? (i := 692) (by decide +kernel), List.mem_of_getElem? (i := 693) (by decide +kernel)⟩
theorem lw_p28 : lw_okq (⟨"java/lang/Throwable", "fillInStackTrace", "(I)Ljava/lang/Throwable;"⟩, 6) := ⟨⟨by decide +kernel, by decide +kernel⟩, List.mem_of_getElem? (i := 740) (by decide +kernel), List.mem_of_getElem? (i := 738) (by decide +kernel), List.mem_of_getElem? (i := 739) (by decide +kernel)⟩
theorem lw_p29 : lw_okq (⟨"FairGroundModel", "lay", "(J)V"⟩, 50) := ⟨⟨by decide +kernel, by decide +kernel⟩, List.mem_of_getElem? (i := 781) (by decide +kernel), List.mem_of_getElem? (i := 779) (by decide +kernel), List.mem_of_getElem? (i := 780) (by decide +kernel)⟩
theorem lw_p30 : lw_okq (⟨"FairGroundModel", "cutAll", "()V"⟩, 50) := ⟨⟨by decide +kernel, by decide +kernel⟩, List.mem_of_getElem? (i := 781) (by decide +kernel), List.mem_of_getElem? (i := 955) (by decide +kernel), List.mem_of_getElem? (i := 956) (by decide +kernel)⟩
theorem lw_p31 : lw_okq (⟨"FairGroundModel", "line", "()V"⟩, 50) := ⟨⟨by decide +kernel, by decide +kernel⟩, List.mem_of_getElem? (i := 781) (by decide +kernel), List.mem_of_getElem? (i := 974) (by decide +kernel), List.mem_of_getElem? (i := 975) (by decide +kernel)⟩
def lw_privs_2 : List (MethodName × Nat) := [(⟨"FairGround$Reader", "kind", "()I"⟩, 6), (⟨"FairGround$Reader", "readLine", "(LFairGround$Law;I)Z"⟩, 6), (⟨"FairGround$Reader", "refuse", "(I)Z"⟩, 6), (⟨"FairGround$Reader", "skip", "(I)Z"⟩, 6), (⟨"FairGround$Reader", "readTests", "(LFairGround$Law;I)Z"⟩, 6), (⟨"FairGround$Reader", "readSum", "(LFairGround$Law;I)Z"⟩, 6), (⟨"FairGround$Reader", "readPart", "(LFairGround$Law;I)Z"⟩, 6), (⟨"FairGround", "powerWanted", "(I)I"⟩, 14), (⟨"FairGround", "allRents", "()I"⟩, 14), (⟨"FairGround", "couldGrowTo", "(LFairGround$Ride;LFairGround$Spot;)Z"⟩, 14), (⟨"FairGround", "movedBy", "(LFairGround$Ride;LFairGround$Spot;)I"⟩, 14), (⟨"FairGround", "countRights", "()I"⟩, 14), (⟨"java/lang/Throwable", "fillInStackTrace", "(I)Ljava/lang/Throwable;"⟩, 6), (⟨"FairGroundModel", "lay", "(J)V"⟩, 50), (⟨"FairGroundModel", "cutAll", "()V"⟩, 50), (⟨"FairGroundModel", "line", "()V"⟩, 50)]
theorem lw_r2 : ∀ q ∈ lw_privs_2, lw_okq q := List.forall_mem_cons.mpr ⟨lw_p16, List.forall_mem_cons.mpr ⟨lw_p17, List.forall_mem_cons.mpr ⟨lw_p18, List.forall_mem_cons.mpr ⟨lw_p19, List.forall_mem_cons.mpr ⟨lw_p20, List.forall_mem_cons.mpr ⟨lw_p21, List.forall_mem_cons.mpr ⟨lw_p22, List.forall_mem_cons.mpr ⟨lw_p23, List.forall_mem_cons.mpr ⟨lw_p24, List.forall_mem_cons.mpr ⟨lw_p25, List.forall_mem_cons.mpr ⟨lw_p26, List.forall_mem_cons.mpr ⟨lw_p27, List.forall_mem_cons.mpr ⟨lw_p28, List.forall_mem_cons.mpr ⟨lw_p29, List.forall_mem_cons.mpr ⟨lw_p30, List.forall_mem_cons.mpr ⟨lw_p31, fun _ h => absurd h List.not_mem_nil⟩⟩⟩⟩⟩⟩⟩⟩⟩⟩⟩⟩⟩⟩⟩⟩
theorem lw_p32 : lw_okq (⟨"FairGroundModel", "isWord", "(I)Z"⟩, 50) := ⟨⟨by decide +kernel, by decide +kernel⟩, List.mem_of_getElem? (i := 781) (by decide +kernel), List.mem_of_getElem? (i := 978) (by decide +kernel), List.mem_of_getElem? (i := 979) (by decide +kernel)⟩
theorem lw_p33 : lw_okq (⟨"FairGroundModel", "wrong", "(I)V"⟩, 50) := ⟨⟨by decide +kernel, by decide +kernel⟩, List.mem_of_getElem? (i := 781) (by decide +kernel), List.mem_of_getElem? (i := 982) (by decide +kernel), List.mem_of_getElem? (i := 983) (by decide +kernel)⟩
theorem lw_p34 : lw_okq (⟨"FairGroundModel", "takeWord", "(I)V"⟩, 50) := ⟨⟨by decide +kernel, by decide +kernel⟩, List.mem_of_getElem? (i := 781) (by decide +kernel), List.mem_of_getElem? (i := 986) (by decide +kernel), List.mem_of_getElem? (i := 987) (by decide +kernel)⟩
theorem lw_p35 : lw_okq (⟨"FairGroundModel", "hasWord", "(I)Z"⟩, 50) := ⟨⟨by decide +kernel, by decide +kernel⟩, List.mem_of_getElem? (i := 781) (by decide +kernel), List.mem_of_getElem? (i := 990) (by decide +kernel), List.mem_of_getElem? (i := 991) (by decide +kernel)⟩
theorem lw_p36 : lw_okq (⟨"FairGroundModel", "opens", "()V"⟩, 50) := ⟨⟨by decide +kernel, by decide +kernel⟩, List.mem_of_getElem? (i := 781) (by decide +kernel), List.mem_of_getElem? (i := 994) (by decide +kernel), List.mem_of_getElem? (i := 995) (by decide +kernel)⟩
theorem lw_p37 : lw_okq (⟨"FairGroundModel", "part", "()Z"⟩, 50) := ⟨⟨by decide +kernel, by decide +kernel⟩, List.mem_of_getElem? (i := 781) (by decide +kernel), List.mem_of_getElem? (i := 998) (by decide +kernel), List.mem_of_getElem? (i := 999) (by decide +kernel)⟩
theorem lw_p38 : lw_okq (⟨"FairGroundModel", "partWord", "()I"⟩, 50) := ⟨⟨by decide +kernel, by decide +kernel⟩, List.mem_of_getElem? (i := 781) (by decide +kernel), List.mem_of_getElem? (i := 1002) (by decide +kernel), List.mem_of_getElem? (i := 1003) (by decide +kernel)⟩
theorem lw_p39 : lw_okq (⟨"FairGroundModel", "isSign", "(I)Z"⟩, 50) := ⟨⟨by decide +kernel, by decide +kernel⟩, List.mem_of_getElem? (i := 781) (by decide +kernel), List.mem_of_getElem? (i := 1006) (by decide +kernel), List.mem_of_getElem? (i := 1007) (by decide +kernel)⟩
theorem lw_p40 : lw_okq (⟨"FairGroundModel", "hasSign", "(I)Z"⟩, 50) := ⟨⟨by decide +kernel, by decide +kernel⟩, List.mem_of_getElem? (i := 781) (by decide +kernel), List.mem_of_getElem? (i := 1010) (by decide +kernel), List.mem_of_getElem? (i := 1011) (by decide +kernel)⟩
theorem lw_p41 : lw_okq (⟨"FairGroundModel", "emit", "(II)V"⟩, 50) := ⟨⟨by decide +kernel, by decide +kernel⟩, List.mem_of_getElem? (i := 781) (by decide +kernel), List.mem_of_getElem? (i := 1014) (by decide +kernel), List.mem_of_getElem? (i := 1015) (by decide +kernel)⟩
theorem lw_p42 : lw_okq (⟨"FairGroundModel", "goesOnBehind", "()Z"⟩, 50) := ⟨⟨by decide +kernel, by decide +kernel⟩, List.mem_of_getElem? (i := 781) (by decide +kernel), List.mem_of_getElem? (i := 1018) (by decide +kernel), List.mem_of_getElem? (i := 1019) (by decide +kernel)⟩
theorem lw_p43 : lw_okq (⟨"FairGroundModel", "takeSign", "(I)V"⟩, 50) := ⟨⟨by decide +kernel, by decide +kernel⟩, List.mem_of_getElem? (i := 781) (by decide +kernel), List.mem_of_getElem? (i := 1022) (by decide +kernel), List.mem_of_getElem? (i := 1023) (by decide +kernel)⟩
theorem lw_p44 : lw_okq (⟨"FairGroundModel", "coveredBy", "(I)I"⟩, 50) := ⟨⟨by decide +kernel, by decide +kernel⟩, List.mem_of_getElem? (i := 781) (by decide +kernel), List.mem_of_getElem? (i := 1037) (by decide +kernel), List.mem_of_getElem? (i := 1038) (by decide +kernel)⟩
theorem lw_p45 : lw_okq (⟨"FairGroundModel", "covers", "(II)Z"⟩, 50) := ⟨⟨by decide +kernel, by decide +kernel⟩, List.mem_of_getElem? (i := 781) (by decide +kernel), List.mem_of_getElem? (i := 1041) (by decide +kernel), List.mem_of_getElem? (i := 1042) (by decide +kernel)⟩
theorem lw_p46 : lw_okq (⟨"FairGroundModel", "coversAt", "(III)Z"⟩, 50) := ⟨⟨by decide +kernel, by decide +kernel⟩, List.mem_of_getElem? (i := 781) (by decide +kernel), List.mem_of_getElem? (i := 1045) (by decide +kernel), List.mem_of_getElem? (i := 1046) (by decide +kernel)⟩
theorem lw_p47 : lw_okq (⟨"FairGroundModel", "widthAt", "(II)I"⟩, 50) := ⟨⟨by decide +kernel, by decide +kernel⟩, List.mem_of_getElem? (i := 781) (by decide +kernel), List.mem_of_getElem? (i := 1055) (by decide +kernel), List.mem_of_getElem? (i := 1056) (by decide +kernel)⟩
def lw_privs_3 : List (MethodName × Nat) := [(⟨"FairGroundModel", "isWord", "(I)Z"⟩, 50), (⟨"FairGroundModel", "wrong", "(I)V"⟩, 50), (⟨"FairGroundModel", "takeWord", "(I)V"⟩, 50), (⟨"FairGroundModel", "hasWord", "(I)Z"⟩, 50), (⟨"FairGroundModel", "opens", "()V"⟩, 50), (⟨"FairGroundModel", "part", "()Z"⟩, 50), (⟨"FairGroundModel", "partWord", "()I"⟩, 50), (⟨"FairGroundModel", "isSign", "(I)Z"⟩, 50), (⟨"FairGroundModel", "hasSign", "(I)Z"⟩, 50), (⟨"FairGroundModel", "emit", "(II)V"⟩, 50), (⟨"FairGroundModel", "goesOnBehind", "()Z"⟩, 50), (⟨"FairGroundModel", "takeSign", "(I)V"⟩, 50), (⟨"FairGroundModel", "coveredBy", "(I)I"⟩, 50), (⟨"FairGroundModel", "covers", "(II)Z"⟩, 50), (⟨"FairGroundModel", "coversAt", "(III)Z"⟩, 50), (⟨"FairGroundModel", "widthAt", "(II)I"⟩, 50)]
theorem lw_r3 : ∀ q ∈ lw_privs_3, lw_okq q := List.forall_mem_cons.mpr ⟨lw_p32, List.forall_mem_cons.mpr ⟨lw_p33, List.forall_mem_cons.mpr ⟨lw_p34, List.forall_mem_cons.mpr ⟨lw_p35, List.forall_mem_cons.mpr ⟨lw_p36, List.forall_mem_cons.mpr ⟨lw_p37, List.forall_mem_cons.mpr ⟨lw_p38, List.forall_mem_cons.mpr ⟨lw_p39, List.forall_mem_cons.mpr ⟨lw_p40, List.forall_mem_cons.mpr ⟨lw_p41, List.forall_mem_cons.mpr ⟨lw_p42, List.forall_mem_cons.mpr ⟨lw_p43, List.forall_mem_cons.mpr ⟨lw_p44, List.forall_mem_cons.mpr ⟨lw_p45, List.forall_mem_cons.mpr ⟨lw_p46, List.forall_mem_cons.mpr ⟨lw_p47, fun _ h => absurd h List.not_mem_nil⟩⟩⟩⟩⟩⟩⟩⟩⟩⟩⟩⟩⟩⟩⟩⟩
theorem lw_p48 : lw_okq (⟨"FairGroundModel", "heightAt", "(II)I"⟩, 50) := ⟨⟨by decide +kernel, by decide +kernel⟩, List.mem_of_getElem? (i := 781) (by decide +kernel), List.mem_of_getElem? (i := 1059) (by decide +kernel), List.mem_of_getElem? (i := 1060) (by decide +kernel)⟩
theorem lw_p49 : lw_okq (⟨"FairGroundModel", "gateCell", "()I"⟩, 50) := ⟨⟨by decide +kernel, by decide +kernel⟩, List.mem_of_getElem? (i := 781) (by decide +kernel), List.mem_of_getElem? (i := 1066) (by decide +kernel), List.mem_of_getElem? (i := 1067) (by decide +kernel)⟩
theorem lw_p50 : lw_okq (⟨"FairGroundModel", "door", "(I)I"⟩, 50) := ⟨⟨by decide +kernel, by decide +kernel⟩, List.mem_of_getElem? (i := 781) (by decide +kernel), List.mem_of_getElem? (i := 1070) (by decide +kernel), List.mem_of_getElem? (i := 1071) (by decide +kernel)⟩
theorem lw_p51 : lw_okq (⟨"FairGroundModel", "doorAt", "(II)I"⟩, 50) := ⟨⟨by decide +kernel, by decide +kernel⟩, List.mem_of_getElem? (i := 781) (by decide +kernel), List.mem_of_getElem? (i := 1074) (by decide +kernel), List.mem_of_getElem? (i := 1075) (by decide +kernel)⟩
theorem lw_p52 : lw_okq (⟨"FairGroundModel", "barsAll", "()V"⟩, 50) := ⟨⟨by decide +kernel, by decide +kernel⟩, List.mem_of_getElem? (i := 781) (by decide +kernel), List.mem_of_getElem? (i := 1078) (by decide +kernel), List.mem_of_getElem? (i := 1079) (by decide +kernel)⟩
theorem lw_p53 : lw_okq (⟨"FairGroundModel", "isFree", "(I)Z"⟩, 50) := ⟨⟨by decide +kernel, by decide +kernel⟩, List.mem_of_getElem? (i := 781) (by decide +kernel), List.mem_of_getElem? (i := 1082) (by decide +kernel), List.mem_of_getElem? (i := 1083) (by decide +kernel)⟩
theorem lw_p54 : lw_okq (⟨"FairGroundModel", "areDoorsJoined", "()Z"⟩, 50) := ⟨⟨by decide +kernel, by decide +kernel⟩, List.mem_of_getElem? (i := 781) (by decide +kernel), List.mem_of_getElem? (i := 1086) (by decide +kernel), List.mem_of_getElem? (i := 1087) (by decide +kernel)⟩
theorem lw_p55 : lw_okq (⟨"FairGroundModel", "reaches", "()V"⟩, 50) := ⟨⟨by decide +kernel, by decide +kernel⟩, List.mem_of_getElem? (i := 781) (by decide +kernel), List.mem_of_getElem? (i := 1090) (by decide +kernel), List.mem_of_getElem? (i := 1091) (by decide +kernel)⟩
theorem lw_p56 : lw_okq (⟨"FairGroundModel", "isBeside", "(I)Z"⟩, 50) := ⟨⟨by decide +kernel, by decide +kernel⟩, List.mem_of_getElem? (i := 781) (by decide +kernel), List.mem_of_getElem? (i := 1094) (by decide +kernel), List.mem_of_getElem? (i := 1095) (by decide +kernel)⟩
theorem lw_p57 : lw_okq (⟨"FairGroundModel", "lying", "()I"⟩, 50) := ⟨⟨by decide +kernel, by decide +kernel⟩, List.mem_of_getElem? (i := 781) (by decide +kernel), List.mem_of_getElem? (i := 1102) (by decide +kernel), List.mem_of_getElem? (i := 1103) (by decide +kernel)⟩
theorem lw_p58 : lw_okq (⟨"FairGroundModel", "isRide", "(I)Z"⟩, 50) := ⟨⟨by decide +kernel, by decide +kernel⟩, List.mem_of_getElem? (i := 781) (by decide +kernel), List.mem_of_getElem? (i := 1110) (by decide +kernel), List.mem_of_getElem? (i := 1111) (by decide +kernel)⟩
theorem lw_p59 : lw_okq (⟨"FairGroundModel", "fitsAt", "(II)Z"⟩, 50) := ⟨⟨by decide +kernel, by decide +kernel⟩, List.mem_of_getElem? (i := 781) (by decide +kernel), List.mem_of_getElem? (i := 1117) (by decide +kernel), List.mem_of_getElem? (i := 1118) (by decide +kernel)⟩
theorem lw_p60 : lw_okq (⟨"FairGroundModel", "isRoom", "(II)Z"⟩, 50) := ⟨⟨by decide +kernel, by decide +kernel⟩, List.mem_of_getElem? (i := 781) (by decide +kernel), List.mem_of_getElem? (i := 1121) (by decide +kernel), List.mem_of_getElem? (i := 1122) (by decide +kernel)⟩
theorem lw_p61 : lw_okq (⟨"FairGroundModel", "isOn", "(II)Z"⟩, 50) := ⟨⟨by decide +kernel, by decide +kernel⟩, List.mem_of_getElem? (i := 781) (by decide +kernel), List.mem_of_getElem? (i := 1125) (by decide +kernel), List.mem_of_getElem? (i := 1126) (by decide +kernel)⟩
theorem lw_p62 : lw_okq (⟨"FairGroundModel", "isQuiet", "(III)Z"⟩, 50) := ⟨⟨by decide +kernel, by decide +kernel⟩, List.mem_of_getElem? (i := 781) (by decide +kernel), List.mem_of_getElem? (i := 1129) (by decide +kernel), List.mem_of_getElem? (i := 1130) (by decide +kernel)⟩
theorem lw_p63 : lw_okq (⟨"FairGroundModel", "nextAsked", "()I"⟩, 50) := ⟨⟨by decide +kernel, by decide +kernel⟩, List.mem_of_getElem? (i := 781) (by decide +kernel), List.mem_of_getElem? (i := 1145) (by decide +kernel), List.mem_of_getElem? (i := 1146) (by decide +kernel)⟩
def lw_privs_4 : List (MethodName × Nat) := [(⟨"FairGroundModel", "heightAt", "(II)I"⟩, 50), (⟨"FairGroundModel", "gateCell", "()I"⟩, 50), (⟨"FairGroundModel", "door", "(I)I"⟩, 50), (⟨"FairGroundModel", "doorAt", "(II)I"⟩, 50), (⟨"FairGroundModel", "barsAll", "()V"⟩, 50), (⟨"FairGroundModel", "isFree", "(I)Z"⟩, 50), (⟨"FairGroundModel", "areDoorsJoined", "()Z"⟩, 50), (⟨"FairGroundModel", "reaches", "()V"⟩, 50), (⟨"FairGroundModel", "isBeside", "(I)Z"⟩, 50), (⟨"FairGroundModel", "lying", "()I"⟩, 50), (⟨"FairGroundModel", "isRide", "(I)Z"⟩, 50), (⟨"FairGroundModel", "fitsAt", "(II)Z"⟩, 50), (⟨"FairGroundModel", "isRoom", "(II)Z"⟩, 50), (⟨"FairGroundModel", "isOn", "(II)Z"⟩, 50), (⟨"FairGroundModel", "isQuiet", "(III)Z"⟩, 50), (⟨"FairGroundModel", "nextAsked", "()I"⟩, 50)]
theorem lw_r4 : ∀ q ∈ lw_privs_4, lw_okq q := List.forall_mem_cons.mpr ⟨lw_p48, List.forall_mem_cons.mpr ⟨lw_p49, List.forall_mem_cons.mpr ⟨lw_p50, List.forall_mem_cons.mpr ⟨lw_p51, List.forall_mem_cons.mpr ⟨lw_p52, List.forall_mem_cons.mpr ⟨lw_p53, List.forall_mem_cons.mpr ⟨lw_p54, List.forall_mem_cons.mpr ⟨lw_p55, List.forall_mem_cons.mpr ⟨lw_p56, List.forall_mem_cons.mpr ⟨lw_p57, List.forall_mem_cons.mpr ⟨lw_p58, List.forall_mem_cons.mpr ⟨lw_p59, List.forall_mem_cons.mpr ⟨lw_p60, List.forall_mem_cons.mpr ⟨lw_p61, List.forall_mem_cons.mpr ⟨lw_p62, List.forall_mem_cons.mpr ⟨lw_p63, fun _ h => absurd h List.not_mem_nil⟩⟩⟩⟩⟩⟩⟩⟩⟩⟩⟩⟩⟩⟩⟩⟩
theorem lw_p64 : lw_okq (⟨"FairGroundModel", "firstPlace", "(I)I"⟩, 50) := ⟨⟨by decide +kernel, by decide +kernel⟩, List.mem_of_getElem? (i := 781) (by decide +kernel), List.mem_of_getElem? (i := 1149) (by decide +kernel), List.mem_of_getElem? (i := 1150) (by decide +kernel)⟩
theorem lw_p65 : lw_okq (⟨"FairGroundModel", "findWays", "()V"⟩, 50) := ⟨⟨by decide +kernel, by decide +kernel⟩, List.mem_of_getElem? (i := 781) (by decide +kernel), List.mem_of_getElem? (i := 1157) (by decide +kernel), List.mem_of_getElem? (i := 1158) (by decide +kernel)⟩
theorem lw_p66 : lw_okq (⟨"FairGroundModel", "setLying", "()I"⟩, 50) := ⟨⟨by decide +kernel, by decide +kernel⟩, List.mem_of_getElem? (i := 781) (by decide +kernel), List.mem_of_getElem? (i := 1161) (by decide +kernel), List.mem_of_getElem? (i := 1162) (by decide +kernel)⟩
theorem lw_p67 : lw_okq (⟨"FairGroundModel", "pullsOn", "(I)I"⟩, 50) := ⟨⟨by decide +kernel, by decide +kernel⟩, List.mem_of_getElem? (i := 781) (by decide +kernel), List.mem_of_getElem? (i := 1165) (by decide +kernel), List.mem_of_getElem? (i := 1166) (by decide +kernel)⟩
theorem lw_p68 : lw_okq (⟨"FairGroundModel", "lapses", "(I)Z"⟩, 50) := ⟨⟨by decide +kernel, by decide +kernel⟩, List.mem_of_getElem? (i := 781) (by decide +kernel), List.mem_of_getElem? (i := 1181) (by decide +kernel), List.mem_of_getElem? (i := 1182) (by decide +kernel)⟩
theorem lw_p69 : lw_okq (⟨"FairGroundModel", "worth", "(I)I"⟩, 50) := ⟨⟨by decide +kernel, by decide +kernel⟩, List.mem_of_getElem? (i := 781) (by decide +kernel), List.mem_of_getElem? (i := 1185) (by decide +kernel), List.mem_of_getElem? (i := 1186) (by decide +kernel)⟩
theorem lw_p70 : lw_okq (⟨"FairGroundModel", "lineOf", "(I)I"⟩, 50) := ⟨⟨by decide +kernel, by decide +kernel⟩, List.mem_of_getElem? (i := 781) (by decide +kernel), List.mem_of_getElem? (i := 1197) (by decide +kernel), List.mem_of_getElem? (i := 1198) (by decide +kernel)⟩
theorem lw_p71 : lw_okq (⟨"FairGroundModel", "lights", "(I)V"⟩, 50) := ⟨⟨by decide +kernel, by decide +kernel⟩, List.mem_of_getElem? (i := 781) (by decide +kernel), List.mem_of_getElem? (i := 1201) (by decide +kernel), List.mem_of_getElem? (i := 1202) (by decide +kernel)⟩
theorem lw_p72 : lw_okq (⟨"FairGroundModel", "rents", "()I"⟩, 50) := ⟨⟨by decide +kernel, by decide +kernel⟩, List.mem_of_getElem? (i := 781) (by decide +kernel), List.mem_of_getElem? (i := 1217) (by decide +kernel), List.mem_of_getElem? (i := 1218) (by decide +kernel)⟩
theorem lw_p73 : lw_okq (⟨"FairGroundModel", "movesFor", "(IIIII)I"⟩, 50) := ⟨⟨by decide +kernel, by decide +kernel⟩, List.mem_of_getElem? (i := 781) (by decide +kernel), List.mem_of_getElem? (i := 1225) (by decide +kernel), List.mem_of_getElem? (i := 1226) (by decide +kernel)⟩
def lw_privs_5 : List (MethodName × Nat) := [(⟨"FairGroundModel", "firstPlace", "(I)I"⟩, 50), (⟨"FairGroundModel", "findWays", "()V"⟩, 50), (⟨"FairGroundModel", "setLying", "()I"⟩, 50), (⟨"FairGroundModel", "pullsOn", "(I)I"⟩, 50), (⟨"FairGroundModel", "lapses", "(I)Z"⟩, 50), (⟨"FairGroundModel", "worth", "(I)I"⟩, 50), (⟨"FairGroundModel", "lineOf", "(I)I"⟩, 50), (⟨"FairGroundModel", "lights", "(I)V"⟩, 50), (⟨"FairGroundModel", "rents", "()I"⟩, 50), (⟨"FairGroundModel", "movesFor", "(IIIII)I"⟩, 50)]
theorem lw_r5 : ∀ q ∈ lw_privs_5, lw_okq q := List.forall_mem_cons.mpr ⟨lw_p64, List.forall_mem_cons.mpr ⟨lw_p65, List.forall_mem_cons.mpr ⟨lw_p66, List.forall_mem_cons.mpr ⟨lw_p67, List.forall_mem_cons.mpr ⟨lw_p68, List.forall_mem_cons.mpr ⟨lw_p69, List.forall_mem_cons.mpr ⟨lw_p70, List.forall_mem_cons.mpr ⟨lw_p71, List.forall_mem_cons.mpr ⟨lw_p72, List.forall_mem_cons.mpr ⟨lw_p73, fun _ h => absurd h List.not_mem_nil⟩⟩⟩⟩⟩⟩⟩⟩⟩⟩
def lw_privs : List (MethodName × Nat) := lw_privs_1 ++ (lw_privs_2 ++ (lw_privs_3 ++ (lw_privs_4 ++ (lw_privs_5))))
def lw_tbl : List Cond := k2_sels lw_privs ++ tables_1
theorem lw_privs_ok : ∀ q ∈ lw_privs, lw_okq q := by
  show ∀ q ∈ lw_privs_1 ++ (lw_privs_2 ++ (lw_privs_3 ++ (lw_privs_4 ++ (lw_privs_5)))), lw_okq q
  exact List.forall_mem_append.mpr ⟨lw_r1, List.forall_mem_append.mpr ⟨lw_r2, List.forall_mem_append.mpr ⟨lw_r3, List.forall_mem_append.mpr ⟨lw_r4, lw_r5⟩⟩⟩⟩

def RX0 : String := "FairGround$Green"
def TX0 : u_T := fun k => match k with
  | 0 => ("FairGround$Green", "cells", "[I", true)
  | 1 => ("FairGround$Green", "reached", "[I", true)
  | 2 => ("FairGround$Green", "queue", "[I", true)
  | 3 => ("FairGround$Green", "queued", "I", false)
  | _ => ("FairGround$Green", "gateRow", "I", false)
def tyX0 : Nat → FieldType := fun k => match k with
  | 0 => .array .int
  | 1 => .array .int
  | 2 => .array .int
  | 3 => .int
  | _ => .int
theorem nmX0 : ∀ a, a < 5 → ∀ b, b < 5 → a ≠ b → (TX0 a).2.1 ≠ (TX0 b).2.1 := by decide +kernel
theorem tyX0_ok : ∀ k, k < 5 → parseFieldDescriptor (TX0 k).2.2.1 = some (tyX0 k) := by decide +kernel
abbrev cX0_init : ByteArray := prog_2_method_1_code
def yX0_init : MethodName := ⟨RX0, "<init>", "()V"⟩
abbrev cX0_hasCell : ByteArray := prog_2_method_2_code
def yX0_hasCell : MethodName := ⟨RX0, "hasCell", "(II)Z"⟩
abbrev cX0_at : ByteArray := prog_2_method_3_code
def yX0_at : MethodName := ⟨RX0, "at", "(II)I"⟩
abbrev cX0_put : ByteArray := prog_2_method_4_code
def yX0_put : MethodName := ⟨RX0, "put", "(III)V"⟩
abbrev cX0_isGate : ByteArray := prog_2_method_5_code
def yX0_isGate : MethodName := ⟨RX0, "isGate", "(II)Z"⟩
abbrev cX0_cover : ByteArray := prog_2_method_6_code
def yX0_cover : MethodName := ⟨RX0, "cover", "(LFairGround$Spot;I)V"⟩
abbrev cX0_isOpen : ByteArray := prog_2_method_7_code
def yX0_isOpen : MethodName := ⟨RX0, "isOpen", "(LFairGround$Spot;Z)Z"⟩
abbrev cX0_countFree : ByteArray := prog_2_method_8_code
def yX0_countFree : MethodName := ⟨RX0, "countFree", "()I"⟩
abbrev cX0_spreadFromGate : ByteArray := prog_2_method_9_code
def yX0_spreadFromGate : MethodName := ⟨RX0, "spreadFromGate", "()V"⟩
abbrev cX0_reach : ByteArray := prog_2_method_10_code
def yX0_reach : MethodName := ⟨RX0, "reach", "(II)V"⟩
abbrev cX0_isReached : ByteArray := prog_2_method_11_code
def yX0_isReached : MethodName := ⟨RX0, "isReached", "(II)Z"⟩
def RX1 : String := "FairGround$Law"
def TX1 : u_T := fun k => match k with
  | 0 => ("FairGround$Law", "code", "[I", true)
  | 1 => ("FairGround$Law", "codeLength", "I", false)
  | 2 => ("FairGround$Law", "starts", "[I", true)
  | 3 => ("FairGround$Law", "keeps", "[Z", true)
  | 4 => ("FairGround$Law", "stack", "[I", true)
  | _ => ("FairGround$Law", "lines", "I", false)
def tyX1 : Nat → FieldType := fun k => match k with
  | 0 => .array .int
  | 1 => .int
  | 2 => .array .int
  | 3 => .array .boolean
  | 4 => .array .int
  | _ => .int
theorem nmX1 : ∀ a, a < 6 → ∀ b, b < 6 → a ≠ b → (TX1 a).2.1 ≠ (TX1 b).2.1 := by decide +kernel
theorem tyX1_ok : ∀ k, k < 6 → parseFieldDescriptor (TX1 k).2.2.1 = some (tyX1 k) := by decide +kernel
abbrev cX1_init : ByteArray := prog_3_method_1_code
def yX1_init : MethodName := ⟨RX1, "<init>", "()V"⟩
abbrev cX1_wipe : ByteArray := prog_3_method_2_code
def yX1_wipe : MethodName := ⟨RX1, "wipe", "()V"⟩
abbrev cX1_beginLine : ByteArray := prog_3_method_3_code
def yX1_beginLine : MethodName := ⟨RX1, "beginLine", "(Z)V"⟩
abbrev cX1_add : ByteArray := prog_3_method_4_code
def yX1_add : MethodName := ⟨RX1, "add", "(II)V"⟩
abbrev cX1_isKept : ByteArray := prog_3_method_5_code
def yX1_isKept : MethodName := ⟨RX1, "isKept", "([I)Z"⟩
abbrev cX1_worth : ByteArray := prog_3_method_6_code
def yX1_worth : MethodName := ⟨RX1, "worth", "(II[I)I"⟩
abbrev cX1_factAt : ByteArray := prog_3_method_7_code
def yX1_factAt : MethodName := ⟨RX1, "factAt", "([II)I"⟩
abbrev cX1_joined : ByteArray := prog_3_method_8_code
def yX1_joined : MethodName := ⟨RX1, "joined", "(III)I"⟩
def RX2 : String := "FairGround$Reader"
def TX2 : u_T := fun k => match k with
  | 0 => ("FairGround$Reader", "kinds", "[I", true)
  | 1 => ("FairGround$Reader", "values", "[I", true)
  | 2 => ("FairGround$Reader", "places", "[I", true)
  | 3 => ("FairGround$Reader", "tokens", "I", false)
  | 4 => ("FairGround$Reader", "current", "I", false)
  | _ => ("FairGround$Reader", "fault", "I", false)
def tyX2 : Nat → FieldType := fun k => match k with
  | 0 => .array .int
  | 1 => .array .int
  | 2 => .array .int
  | 3 => .int
  | 4 => .int
  | _ => .int
theorem nmX2 : ∀ a, a < 6 → ∀ b, b < 6 → a ≠ b → (TX2 a).2.1 ≠ (TX2 b).2.1 := by decide +kernel
theorem tyX2_ok : ∀ k, k < 6 → parseFieldDescriptor (TX2 k).2.2.1 = some (tyX2 k) := by decide +kernel
abbrev cX2_init : ByteArray := prog_4_method_1_code
def yX2_init : MethodName := ⟨RX2, "<init>", "()V"⟩
abbrev cX2_scan : ByteArray := prog_4_method_2_code
def yX2_scan : MethodName := ⟨RX2, "scan", "(LFairGround$Tape;)V"⟩
abbrev cX2_scanWord : ByteArray := prog_4_method_3_code
def yX2_scanWord : MethodName := ⟨RX2, "scanWord", "(LFairGround$Tape;I)I"⟩
abbrev cX2_kindOfWord : ByteArray := prog_4_method_4_code
def yX2_kindOfWord : MethodName := ⟨RX2, "kindOfWord", "(LFairGround$Tape;II)I"⟩
abbrev cX2_factNamed : ByteArray := prog_4_method_5_code
def yX2_factNamed : MethodName := ⟨RX2, "factNamed", "(LFairGround$Tape;II)I"⟩
abbrev cX2_scanNumber : ByteArray := prog_4_method_6_code
def yX2_scanNumber : MethodName := ⟨RX2, "scanNumber", "(LFairGround$Tape;I)I"⟩
abbrev cX2_kindOfSign : ByteArray := prog_4_method_7_code
def yX2_kindOfSign : MethodName := ⟨RX2, "kindOfSign", "(I)I"⟩
abbrev cX2_addToken : ByteArray := prog_4_method_8_code
def yX2_addToken : MethodName := ⟨RX2, "addToken", "(III)V"⟩
abbrev cX2_read : ByteArray := prog_4_method_9_code
def yX2_read : MethodName := ⟨RX2, "read", "(LFairGround$Law;)I"⟩
abbrev cX2_kind : ByteArray := prog_4_method_10_code
def yX2_kind : MethodName := ⟨RX2, "kind", "()I"⟩
abbrev cX2_refuse : ByteArray := prog_4_method_11_code
def yX2_refuse : MethodName := ⟨RX2, "refuse", "(I)Z"⟩
abbrev cX2_skip : ByteArray := prog_4_method_12_code
def yX2_skip : MethodName := ⟨RX2, "skip", "(I)Z"⟩
abbrev cX2_readLine : ByteArray := prog_4_method_13_code
def yX2_readLine : MethodName := ⟨RX2, "readLine", "(LFairGround$Law;I)Z"⟩
abbrev cX2_readTests : ByteArray := prog_4_method_14_code
def yX2_readTests : MethodName := ⟨RX2, "readTests", "(LFairGround$Law;I)Z"⟩
abbrev cX2_readSum : ByteArray := prog_4_method_15_code
def yX2_readSum : MethodName := ⟨RX2, "readSum", "(LFairGround$Law;I)Z"⟩
abbrev cX2_readPart : ByteArray := prog_4_method_16_code
def yX2_readPart : MethodName := ⟨RX2, "readPart", "(LFairGround$Law;I)Z"⟩
def RX3 : String := "FairGround$Ride"
def TX3 : u_T := fun k => match k with
  | 0 => ("FairGround$Ride", "number", "I", true)
  | 1 => ("FairGround$Ride", "width", "I", true)
  | 2 => ("FairGround$Ride", "height", "I", true)
  | 3 => ("FairGround$Ride", "power", "I", true)
  | 4 => ("FairGround$Ride", "noise", "I", true)
  | 5 => ("FairGround$Ride", "rank", "I", true)
  | 6 => ("FairGround$Ride", "spot", "LFairGround$Spot;", true)
  | 7 => ("FairGround$Ride", "lies", "Z", false)
  | 8 => ("FairGround$Ride", "isSick", "Z", false)
  | 9 => ("FairGround$Ride", "right", "I", false)
  | 10 => ("FairGround$Ride", "held", "I", false)
  | _ => ("FairGround$Ride", "missed", "I", false)
def tyX3 : Nat → FieldType := fun k => match k with
  | 0 => .int
  | 1 => .int
  | 2 => .int
  | 3 => .int
  | 4 => .int
  | 5 => .int
  | 6 => .object "FairGround$Spot"
  | 7 => .boolean
  | 8 => .boolean
  | 9 => .int
  | 10 => .int
  | _ => .int
theorem nmX3 : ∀ a, a < 12 → ∀ b, b < 12 → a ≠ b → (TX3 a).2.1 ≠ (TX3 b).2.1 := by decide +kernel
theorem tyX3_ok : ∀ k, k < 12 → parseFieldDescriptor (TX3 k).2.2.1 = some (tyX3 k) := by decide +kernel
abbrev cX3_init : ByteArray := prog_5_method_1_code
def yX3_init : MethodName := ⟨RX3, "<init>", "(IIIIII)V"⟩
abbrev cX3_area : ByteArray := prog_5_method_2_code
def yX3_area : MethodName := ⟨RX3, "area", "()I"⟩
abbrev cX3_powerLine : ByteArray := prog_5_method_3_code
def yX3_powerLine : MethodName := ⟨RX3, "powerLine", "()I"⟩
abbrev cX3_holdOneYearMore : ByteArray := prog_5_method_4_code
def yX3_holdOneYearMore : MethodName := ⟨RX3, "holdOneYearMore", "()V"⟩
abbrev cX3_loseRight : ByteArray := prog_5_method_5_code
def yX3_loseRight : MethodName := ⟨RX3, "loseRight", "()V"⟩
def RX4 : String := "FairGround$Spot"
def TX4 : u_T := fun k => match k with
  | 0 => ("FairGround$Spot", "x", "I", false)
  | 1 => ("FairGround$Spot", "y", "I", false)
  | 2 => ("FairGround$Spot", "wide", "I", false)
  | 3 => ("FairGround$Spot", "high", "I", false)
  | _ => ("FairGround$Spot", "turned", "Z", false)
def tyX4 : Nat → FieldType := fun k => match k with
  | 0 => .int
  | 1 => .int
  | 2 => .int
  | 3 => .int
  | _ => .boolean
theorem nmX4 : ∀ a, a < 5 → ∀ b, b < 5 → a ≠ b → (TX4 a).2.1 ≠ (TX4 b).2.1 := by decide +kernel
theorem tyX4_ok : ∀ k, k < 5 → parseFieldDescriptor (TX4 k).2.2.1 = some (tyX4 k) := by decide +kernel
abbrev cX4_init : ByteArray := prog_6_method_1_code
def yX4_init : MethodName := ⟨RX4, "<init>", "()V"⟩
abbrev cX4_put : ByteArray := prog_6_method_2_code
def yX4_put : MethodName := ⟨RX4, "put", "(IIIIZ)V"⟩
abbrev cX4_putAtPlace : ByteArray := prog_6_method_3_code
def yX4_putAtPlace : MethodName := ⟨RX4, "putAtPlace", "(III)V"⟩
abbrev cX4_putLike : ByteArray := prog_6_method_4_code
def yX4_putLike : MethodName := ⟨RX4, "putLike", "(LFairGround$Spot;)V"⟩
abbrev cX4_place : ByteArray := prog_6_method_5_code
def yX4_place : MethodName := ⟨RX4, "place", "()I"⟩
abbrev cX4_doorX : ByteArray := prog_6_method_6_code
def yX4_doorX : MethodName := ⟨RX4, "doorX", "()I"⟩
abbrev cX4_doorY : ByteArray := prog_6_method_7_code
def yX4_doorY : MethodName := ⟨RX4, "doorY", "()I"⟩
abbrev cX4_isOnGreen : ByteArray := prog_6_method_8_code
def yX4_isOnGreen : MethodName := ⟨RX4, "isOnGreen", "()Z"⟩
abbrev cX4_covers : ByteArray := prog_6_method_9_code
def yX4_covers : MethodName := ⟨RX4, "covers", "(II)Z"⟩
abbrev cX4_coversDoorOf : ByteArray := prog_6_method_10_code
def yX4_coversDoorOf : MethodName := ⟨RX4, "coversDoorOf", "(LFairGround$Spot;)Z"⟩
abbrev cX4_overlaps : ByteArray := prog_6_method_11_code
def yX4_overlaps : MethodName := ⟨RX4, "overlaps", "(LFairGround$Spot;)Z"⟩
abbrev cX4_isApartFrom : ByteArray := prog_6_method_12_code
def yX4_isApartFrom : MethodName := ⟨RX4, "isApartFrom", "(LFairGround$Spot;)Z"⟩
abbrev cX4_gap : ByteArray := prog_6_method_13_code
def yX4_gap : MethodName := ⟨RX4, "gap", "(IIII)I"⟩
def RX5 : String := "FairGround$Tape"
def TX5 : u_T := fun k => match k with
  | 0 => ("FairGround$Tape", "signs", "[B", true)
  | _ => ("FairGround$Tape", "length", "I", false)
def tyX5 : Nat → FieldType := fun k => match k with
  | 0 => .array .byte
  | _ => .int
theorem nmX5 : ∀ a, a < 2 → ∀ b, b < 2 → a ≠ b → (TX5 a).2.1 ≠ (TX5 b).2.1 := by decide +kernel
theorem tyX5_ok : ∀ k, k < 2 → parseFieldDescriptor (TX5 k).2.2.1 = some (tyX5 k) := by decide +kernel
abbrev cX5_init : ByteArray := prog_7_method_1_code
def yX5_init : MethodName := ⟨RX5, "<init>", "()V"⟩
abbrev cX5_addBytes : ByteArray := prog_7_method_2_code
def yX5_addBytes : MethodName := ⟨RX5, "addBytes", "(J)V"⟩
abbrev cX5_wipe : ByteArray := prog_7_method_3_code
def yX5_wipe : MethodName := ⟨RX5, "wipe", "()V"⟩
abbrev cX5_signAt : ByteArray := prog_7_method_4_code
def yX5_signAt : MethodName := ⟨RX5, "signAt", "(I)I"⟩
abbrev cX5_isBlank : ByteArray := prog_7_method_5_code
def yX5_isBlank : MethodName := ⟨RX5, "isBlank", "(I)Z"⟩
abbrev cX5_isLetter : ByteArray := prog_7_method_6_code
def yX5_isLetter : MethodName := ⟨RX5, "isLetter", "(I)Z"⟩
abbrev cX5_isDigit : ByteArray := prog_7_method_7_code
def yX5_isDigit : MethodName := ⟨RX5, "isDigit", "(I)Z"⟩
abbrev cX5_hasWord : ByteArray := prog_7_method_8_code
def yX5_hasWord : MethodName := ⟨RX5, "hasWord", "(Ljava/lang/String;II)Z"⟩
def RX6 : String := "FairGround"
def TX6 : u_T := fun k => match k with
  | 0 => ("FairGround", "green", "LFairGround$Green;", true)
  | 1 => ("FairGround", "rides", "[LFairGround$Ride;", true)
  | 2 => ("FairGround", "byRank", "[LFairGround$Ride;", true)
  | 3 => ("FairGround", "rideCount", "I", false)
  | 4 => ("FairGround", "year", "I", false)
  | 5 => ("FairGround", "trial", "LFairGround$Spot;", true)
  | 6 => ("FairGround", "tape", "LFairGround$Tape;", true)
  | 7 => ("FairGround", "reader", "LFairGround$Reader;", true)
  | 8 => ("FairGround", "law", "LFairGround$Law;", false)
  | 9 => ("FairGround", "draft", "LFairGround$Law;", false)
  | 10 => ("FairGround", "facts", "[I", true)
  | 11 => ("FairGround", "lineBears", "[I", true)
  | 12 => ("FairGround", "shares", "[I", true)
  | _ => ("FairGround", "ratePerCell", "I", false)
def tyX6 : Nat → FieldType := fun k => match k with
  | 0 => .object "FairGround$Green"
  | 1 => .array (.object "FairGround$Ride")
  | 2 => .array (.object "FairGround$Ride")
  | 3 => .int
  | 4 => .int
  | 5 => .object "FairGround$Spot"
  | 6 => .object "FairGround$Tape"
  | 7 => .object "FairGround$Reader"
  | 8 => .object "FairGround$Law"
  | 9 => .object "FairGround$Law"
  | 10 => .array .int
  | 11 => .array .int
  | 12 => .array .int
  | _ => .int
theorem nmX6 : ∀ a, a < 14 → ∀ b, b < 14 → a ≠ b → (TX6 a).2.1 ≠ (TX6 b).2.1 := by decide +kernel
theorem tyX6_ok : ∀ k, k < 14 → parseFieldDescriptor (TX6 k).2.2.1 = some (tyX6 k) := by decide +kernel
abbrev cX6_init : ByteArray := prog_1_method_1_code
def yX6_init : MethodName := ⟨RX6, "<init>", "()V"⟩
abbrev cX6_close : ByteArray := prog_1_method_2_code
def yX6_close : MethodName := ⟨RX6, "close", "(IIZ)Z"⟩
abbrev cX6_gate : ByteArray := prog_1_method_3_code
def yX6_gate : MethodName := ⟨RX6, "gate", "(I)Z"⟩
abbrev cX6_ride : ByteArray := prog_1_method_4_code
def yX6_ride : MethodName := ⟨RX6, "ride", "(IIIII)I"⟩
abbrev cX6_fits : ByteArray := prog_1_method_5_code
def yX6_fits : MethodName := ⟨RX6, "fits", "(IIIZ)I"⟩
abbrev cX6_lay : ByteArray := prog_1_method_6_code
def yX6_lay : MethodName := ⟨RX6, "lay", "(IIIZ)Z"⟩
abbrev cX6_take : ByteArray := prog_1_method_7_code
def yX6_take : MethodName := ⟨RX6, "take", "(I)Z"⟩
abbrev cX6_layAll : ByteArray := prog_1_method_8_code
def yX6_layAll : MethodName := ⟨RX6, "layAll", "()I"⟩
abbrev cX6_orders : ByteArray := prog_1_method_9_code
def yX6_orders : MethodName := ⟨RX6, "orders", "()I"⟩
abbrev cX6_order : ByteArray := prog_1_method_10_code
def yX6_order : MethodName := ⟨RX6, "order", "(I)I"⟩
abbrev cX6_sick : ByteArray := prog_1_method_11_code
def yX6_sick : MethodName := ⟨RX6, "sick", "(I)Z"⟩
abbrev cX6_end : ByteArray := prog_1_method_12_code
def yX6_end : MethodName := ⟨RX6, "end", "()I"⟩
abbrev cX6_feed : ByteArray := prog_1_method_13_code
def yX6_feed : MethodName := ⟨RX6, "feed", "(JJJ)I"⟩
abbrev cX6_text : ByteArray := prog_1_method_14_code
def yX6_text : MethodName := ⟨RX6, "text", "()I"⟩
abbrev cX6_bears : ByteArray := prog_1_method_15_code
def yX6_bears : MethodName := ⟨RX6, "bears", "(II)Z"⟩
abbrev cX6_lit : ByteArray := prog_1_method_16_code
def yX6_lit : MethodName := ⟨RX6, "lit", "(I)I"⟩
abbrev cX6_rate : ByteArray := prog_1_method_17_code
def yX6_rate : MethodName := ⟨RX6, "rate", "(I)Z"⟩
abbrev cX6_share : ByteArray := prog_1_method_18_code
def yX6_share : MethodName := ⟨RX6, "share", "(II)Z"⟩
abbrev cX6_rent : ByteArray := prog_1_method_19_code
def yX6_rent : MethodName := ⟨RX6, "rent", "(I)I"⟩
abbrev cX6_change : ByteArray := prog_1_method_20_code
def yX6_change : MethodName := ⟨RX6, "change", "(IIII)I"⟩
abbrev cX6_look : ByteArray := prog_1_method_21_code
def yX6_look : MethodName := ⟨RX6, "look", "(II)I"⟩
abbrev cX6_cell : ByteArray := prog_1_method_22_code
def yX6_cell : MethodName := ⟨RX6, "cell", "(II)I"⟩
abbrev cX6_count : ByteArray := prog_1_method_23_code
def yX6_count : MethodName := ⟨RX6, "count", "(I)I"⟩
abbrev cX6_isWithin : ByteArray := prog_1_method_24_code
def yX6_isWithin : MethodName := ⟨RX6, "isWithin", "(III)Z"⟩
abbrev cX6_isSize : ByteArray := prog_1_method_25_code
def yX6_isSize : MethodName := ⟨RX6, "isSize", "(II)Z"⟩
abbrev cX6_find : ByteArray := prog_1_method_26_code
def yX6_find : MethodName := ⟨RX6, "find", "(I)LFairGround$Ride;"⟩
abbrev cX6_countLying : ByteArray := prog_1_method_27_code
def yX6_countLying : MethodName := ⟨RX6, "countLying", "()I"⟩
abbrev cX6_countRights : ByteArray := prog_1_method_28_code
def yX6_countRights : MethodName := ⟨RX6, "countRights", "()I"⟩
abbrev cX6_isDoor : ByteArray := prog_1_method_29_code
def yX6_isDoor : MethodName := ⟨RX6, "isDoor", "(II)Z"⟩
abbrev cX6_areDoorsJoined : ByteArray := prog_1_method_30_code
def yX6_areDoorsJoined : MethodName := ⟨RX6, "areDoorsJoined", "()Z"⟩
abbrev cX6_canLie : ByteArray := prog_1_method_31_code
def yX6_canLie : MethodName := ⟨RX6, "canLie", "(LFairGround$Ride;LFairGround$Spot;)Z"⟩
abbrev cX6_isClear : ByteArray := prog_1_method_32_code
def yX6_isClear : MethodName := ⟨RX6, "isClear", "(LFairGround$Spot;)Z"⟩
abbrev cX6_isClearOfOthers : ByteArray := prog_1_method_33_code
def yX6_isClearOfOthers : MethodName := ⟨RX6, "isClearOfOthers", "(LFairGround$Ride;LFairGround$Spot;)Z"⟩
abbrev cX6_layIfItFits : ByteArray := prog_1_method_34_code
def yX6_layIfItFits : MethodName := ⟨RX6, "layIfItFits", "(LFairGround$Ride;)Z"⟩
abbrev cX6_layAtFirstPlace : ByteArray := prog_1_method_35_code
def yX6_layAtFirstPlace : MethodName := ⟨RX6, "layAtFirstPlace", "(LFairGround$Ride;)V"⟩
abbrev cX6_takeAway : ByteArray := prog_1_method_36_code
def yX6_takeAway : MethodName := ⟨RX6, "takeAway", "(LFairGround$Ride;)V"⟩
abbrev cX6_keepsRight : ByteArray := prog_1_method_37_code
def yX6_keepsRight : MethodName := ⟨RX6, "keepsRight", "(LFairGround$Ride;)Z"⟩
abbrev cX6_powerWanted : ByteArray := prog_1_method_38_code
def yX6_powerWanted : MethodName := ⟨RX6, "powerWanted", "(I)I"⟩
abbrev cX6_allRents : ByteArray := prog_1_method_39_code
def yX6_allRents : MethodName := ⟨RX6, "allRents", "()I"⟩
abbrev cX6_couldGrowTo : ByteArray := prog_1_method_40_code
def yX6_couldGrowTo : MethodName := ⟨RX6, "couldGrowTo", "(LFairGround$Ride;LFairGround$Spot;)Z"⟩
abbrev cX6_movedBy : ByteArray := prog_1_method_41_code
def yX6_movedBy : MethodName := ⟨RX6, "movedBy", "(LFairGround$Ride;LFairGround$Spot;)I"⟩
def RX7 : String := "FairGroundModel"
def TX7 : u_T := fun k => match k with
  | 0 => ("FairGroundModel", "thrown", "I", false)
  | 1 => ("FairGroundModel", "tape", "[I", true)
  | 2 => ("FairGroundModel", "taped", "I", false)
  | 3 => ("FairGroundModel", "size", "I", false)
  | 4 => ("FairGroundModel", "sort", "[I", true)
  | 5 => ("FairGroundModel", "place", "[I", true)
  | 6 => ("FairGroundModel", "value", "[J", true)
  | 7 => ("FairGroundModel", "at", "I", false)
  | 8 => ("FairGroundModel", "fault", "I", false)
  | 9 => ("FairGroundModel", "words", "[J", true)
  | 10 => ("FairGroundModel", "lines", "[I", true)
  | 11 => ("FairGroundModel", "isLapse", "[Z", true)
  | 12 => ("FairGroundModel", "lineAt", "[I", true)
  | 13 => ("FairGroundModel", "op", "[I", true)
  | 14 => ("FairGroundModel", "one", "[I", true)
  | 15 => ("FairGroundModel", "holds", "I", false)
  | 16 => ("FairGroundModel", "next", "I", false)
  | 17 => ("FairGroundModel", "codes", "I", false)
  | 18 => ("FairGroundModel", "deep", "I", false)
  | 19 => ("FairGroundModel", "sumWaits", "[I", true)
  | 20 => ("FairGroundModel", "signWaits", "[I", true)
  | 21 => ("FairGroundModel", "andWaits", "[I", true)
  | 22 => ("FairGroundModel", "known", "[I", true)
  | 23 => ("FairGroundModel", "pile", "[I", true)
  | 24 => ("FairGroundModel", "rides", "I", false)
  | 25 => ("FairGroundModel", "wide", "[I", true)
  | 26 => ("FairGroundModel", "high", "[I", true)
  | 27 => ("FairGroundModel", "power", "[I", true)
  | 28 => ("FairGroundModel", "noise", "[I", true)
  | 29 => ("FairGroundModel", "rank", "[I", true)
  | 30 => ("FairGroundModel", "lies", "[I", true)
  | 31 => ("FairGroundModel", "right", "[I", true)
  | 32 => ("FairGroundModel", "held", "[I", true)
  | 33 => ("FairGroundModel", "missed", "[I", true)
  | 34 => ("FairGroundModel", "isSick", "[Z", true)
  | 35 => ("FairGroundModel", "year", "I", false)
  | 36 => ("FairGroundModel", "isClosed", "[Z", true)
  | 37 => ("FairGroundModel", "gateRow", "I", false)
  | 38 => ("FairGroundModel", "isBarred", "[Z", true)
  | 39 => ("FairGroundModel", "isReached", "[Z", true)
  | 40 => ("FairGroundModel", "isAsked", "[Z", true)
  | 41 => ("FairGroundModel", "ways", "[I", true)
  | 42 => ("FairGroundModel", "can", "[I", true)
  | 43 => ("FairGroundModel", "cover", "[I", true)
  | 44 => ("FairGroundModel", "bears", "[I", true)
  | 45 => ("FairGroundModel", "rate", "I", false)
  | 46 => ("FairGroundModel", "share", "[I", true)
  | 47 => ("FairGroundModel", "isLit", "[Z", true)
  | 48 => ("FairGroundModel", "rest", "[I", true)
  | _ => ("FairGroundModel", "has", "[I", true)
def tyX7 : Nat → FieldType := fun k => match k with
  | 0 => .int
  | 1 => .array .int
  | 2 => .int
  | 3 => .int
  | 4 => .array .int
  | 5 => .array .int
  | 6 => .array .long
  | 7 => .int
  | 8 => .int
  | 9 => .array .long
  | 10 => .array .int
  | 11 => .array .boolean
  | 12 => .array .int
  | 13 => .array .int
  | 14 => .array .int
  | 15 => .int
  | 16 => .int
  | 17 => .int
  | 18 => .int
  | 19 => .array .int
  | 20 => .array .int
  | 21 => .array .int
  | 22 => .array .int
  | 23 => .array .int
  | 24 => .int
  | 25 => .array .int
  | 26 => .array .int
  | 27 => .array .int
  | 28 => .array .int
  | 29 => .array .int
  | 30 => .array .int
  | 31 => .array .int
  | 32 => .array .int
  | 33 => .array .int
  | 34 => .array .boolean
  | 35 => .int
  | 36 => .array .boolean
  | 37 => .int
  | 38 => .array .boolean
  | 39 => .array .boolean
  | 40 => .array .boolean
  | 41 => .array .int
  | 42 => .array .int
  | 43 => .array .int
  | 44 => .array .int
  | 45 => .int
  | 46 => .array .int
  | 47 => .array .boolean
  | 48 => .array .int
  | _ => .array .int
theorem nmX7 : ∀ a, a < 50 → ∀ b, b < 50 → a ≠ b → (TX7 a).2.1 ≠ (TX7 b).2.1 := by decide +kernel
theorem tyX7_ok : ∀ k, k < 50 → parseFieldDescriptor (TX7 k).2.2.1 = some (tyX7 k) := by decide +kernel
abbrev cX7_thrown : ByteArray := prog_9_method_1_code
def yX7_thrown : MethodName := ⟨RX7, "thrown", "()I"⟩
abbrev cX7_feed : ByteArray := prog_9_method_2_code
def yX7_feed : MethodName := ⟨RX7, "feed", "(JJJ)I"⟩
abbrev cX7_lay : ByteArray := prog_9_method_3_code
def yX7_lay : MethodName := ⟨RX7, "lay", "(J)V"⟩
abbrev cX7_init : ByteArray := prog_9_method_4_code
def yX7_init : MethodName := ⟨RX7, "<init>", "()V"⟩
abbrev cX7_isLetter : ByteArray := prog_9_method_5_code
def yX7_isLetter : MethodName := ⟨RX7, "isLetter", "(I)Z"⟩
abbrev cX7_isDigit : ByteArray := prog_9_method_6_code
def yX7_isDigit : MethodName := ⟨RX7, "isDigit", "(I)Z"⟩
abbrev cX7_rank : ByteArray := prog_9_method_7_code
def yX7_rank : MethodName := ⟨RX7, "rank", "(I)I"⟩
abbrev cX7_isSignOf : ByteArray := prog_9_method_8_code
def yX7_isSignOf : MethodName := ⟨RX7, "isSignOf", "(I)Z"⟩
abbrev cX7_cutAll : ByteArray := prog_9_method_9_code
def yX7_cutAll : MethodName := ⟨RX7, "cutAll", "()V"⟩
abbrev cX7_wrong : ByteArray := prog_9_method_10_code
def yX7_wrong : MethodName := ⟨RX7, "wrong", "(I)V"⟩
abbrev cX7_isSign : ByteArray := prog_9_method_11_code
def yX7_isSign : MethodName := ⟨RX7, "isSign", "(I)Z"⟩
abbrev cX7_isWord : ByteArray := prog_9_method_12_code
def yX7_isWord : MethodName := ⟨RX7, "isWord", "(I)Z"⟩
abbrev cX7_takeSign : ByteArray := prog_9_method_13_code
def yX7_takeSign : MethodName := ⟨RX7, "takeSign", "(I)V"⟩
abbrev cX7_hasSign : ByteArray := prog_9_method_14_code
def yX7_hasSign : MethodName := ⟨RX7, "hasSign", "(I)Z"⟩
abbrev cX7_hasWord : ByteArray := prog_9_method_15_code
def yX7_hasWord : MethodName := ⟨RX7, "hasWord", "(I)Z"⟩
abbrev cX7_takeWord : ByteArray := prog_9_method_16_code
def yX7_takeWord : MethodName := ⟨RX7, "takeWord", "(I)V"⟩
abbrev cX7_emit : ByteArray := prog_9_method_17_code
def yX7_emit : MethodName := ⟨RX7, "emit", "(II)V"⟩
abbrev cX7_text : ByteArray := prog_9_method_18_code
def yX7_text : MethodName := ⟨RX7, "text", "()I"⟩
abbrev cX7_line : ByteArray := prog_9_method_19_code
def yX7_line : MethodName := ⟨RX7, "line", "()V"⟩
abbrev cX7_opens : ByteArray := prog_9_method_20_code
def yX7_opens : MethodName := ⟨RX7, "opens", "()V"⟩
abbrev cX7_partWord : ByteArray := prog_9_method_21_code
def yX7_partWord : MethodName := ⟨RX7, "partWord", "()I"⟩
abbrev cX7_part : ByteArray := prog_9_method_22_code
def yX7_part : MethodName := ⟨RX7, "part", "()Z"⟩
abbrev cX7_goesOnBehind : ByteArray := prog_9_method_23_code
def yX7_goesOnBehind : MethodName := ⟨RX7, "goesOnBehind", "()Z"⟩
abbrev cX7_worth : ByteArray := prog_9_method_24_code
def yX7_worth : MethodName := ⟨RX7, "worth", "(I)I"⟩
abbrev cX7_ride : ByteArray := prog_9_method_25_code
def yX7_ride : MethodName := ⟨RX7, "ride", "(IIIII)I"⟩
abbrev cX7_isRide : ByteArray := prog_9_method_26_code
def yX7_isRide : MethodName := ⟨RX7, "isRide", "(I)Z"⟩
abbrev cX7_isCell : ByteArray := prog_9_method_27_code
def yX7_isCell : MethodName := ⟨RX7, "isCell", "(II)Z"⟩
abbrev cX7_placeX : ByteArray := prog_9_method_28_code
def yX7_placeX : MethodName := ⟨RX7, "placeX", "(I)I"⟩
abbrev cX7_placeY : ByteArray := prog_9_method_29_code
def yX7_placeY : MethodName := ⟨RX7, "placeY", "(I)I"⟩
abbrev cX7_widthAt : ByteArray := prog_9_method_30_code
def yX7_widthAt : MethodName := ⟨RX7, "widthAt", "(II)I"⟩
abbrev cX7_heightAt : ByteArray := prog_9_method_31_code
def yX7_heightAt : MethodName := ⟨RX7, "heightAt", "(II)I"⟩
abbrev cX7_isIn : ByteArray := prog_9_method_32_code
def yX7_isIn : MethodName := ⟨RX7, "isIn", "(IIIII)Z"⟩
abbrev cX7_coversAt : ByteArray := prog_9_method_33_code
def yX7_coversAt : MethodName := ⟨RX7, "coversAt", "(III)Z"⟩
abbrev cX7_covers : ByteArray := prog_9_method_34_code
def yX7_covers : MethodName := ⟨RX7, "covers", "(II)Z"⟩
abbrev cX7_coveredBy : ByteArray := prog_9_method_35_code
def yX7_coveredBy : MethodName := ⟨RX7, "coveredBy", "(I)I"⟩
abbrev cX7_isFree : ByteArray := prog_9_method_36_code
def yX7_isFree : MethodName := ⟨RX7, "isFree", "(I)Z"⟩
abbrev cX7_doorAt : ByteArray := prog_9_method_37_code
def yX7_doorAt : MethodName := ⟨RX7, "doorAt", "(II)I"⟩
abbrev cX7_door : ByteArray := prog_9_method_38_code
def yX7_door : MethodName := ⟨RX7, "door", "(I)I"⟩
abbrev cX7_gateCell : ByteArray := prog_9_method_39_code
def yX7_gateCell : MethodName := ⟨RX7, "gateCell", "()I"⟩
abbrev cX7_reaches : ByteArray := prog_9_method_40_code
def yX7_reaches : MethodName := ⟨RX7, "reaches", "()V"⟩
abbrev cX7_isBeside : ByteArray := prog_9_method_41_code
def yX7_isBeside : MethodName := ⟨RX7, "isBeside", "(I)Z"⟩
abbrev cX7_barsAll : ByteArray := prog_9_method_42_code
def yX7_barsAll : MethodName := ⟨RX7, "barsAll", "()V"⟩
abbrev cX7_areDoorsJoined : ByteArray := prog_9_method_43_code
def yX7_areDoorsJoined : MethodName := ⟨RX7, "areDoorsJoined", "()Z"⟩
abbrev cX7_close : ByteArray := prog_9_method_44_code
def yX7_close : MethodName := ⟨RX7, "close", "(IIZ)Z"⟩
abbrev cX7_gate : ByteArray := prog_9_method_45_code
def yX7_gate : MethodName := ⟨RX7, "gate", "(I)Z"⟩
abbrev cX7_lying : ByteArray := prog_9_method_46_code
def yX7_lying : MethodName := ⟨RX7, "lying", "()I"⟩
abbrev cX7_isOn : ByteArray := prog_9_method_47_code
def yX7_isOn : MethodName := ⟨RX7, "isOn", "(II)Z"⟩
abbrev cX7_isRoom : ByteArray := prog_9_method_48_code
def yX7_isRoom : MethodName := ⟨RX7, "isRoom", "(II)Z"⟩
abbrev cX7_isQuiet : ByteArray := prog_9_method_49_code
def yX7_isQuiet : MethodName := ⟨RX7, "isQuiet", "(III)Z"⟩
abbrev cX7_fitsAt : ByteArray := prog_9_method_50_code
def yX7_fitsAt : MethodName := ⟨RX7, "fitsAt", "(II)Z"⟩
abbrev cX7_placeOf : ByteArray := prog_9_method_51_code
def yX7_placeOf : MethodName := ⟨RX7, "placeOf", "(IIZ)I"⟩
abbrev cX7_fits : ByteArray := prog_9_method_52_code
def yX7_fits : MethodName := ⟨RX7, "fits", "(IIIZ)I"⟩
abbrev cX7_lay_ : ByteArray := prog_9_method_53_code
def yX7_lay_ : MethodName := ⟨RX7, "lay", "(IIIZ)Z"⟩
abbrev cX7_take : ByteArray := prog_9_method_54_code
def yX7_take : MethodName := ⟨RX7, "take", "(I)Z"⟩
abbrev cX7_nextAsked : ByteArray := prog_9_method_55_code
def yX7_nextAsked : MethodName := ⟨RX7, "nextAsked", "()I"⟩
abbrev cX7_layAll : ByteArray := prog_9_method_56_code
def yX7_layAll : MethodName := ⟨RX7, "layAll", "()I"⟩
abbrev cX7_firstPlace : ByteArray := prog_9_method_57_code
def yX7_firstPlace : MethodName := ⟨RX7, "firstPlace", "(I)I"⟩
abbrev cX7_pullsOn : ByteArray := prog_9_method_58_code
def yX7_pullsOn : MethodName := ⟨RX7, "pullsOn", "(I)I"⟩
abbrev cX7_setLying : ByteArray := prog_9_method_59_code
def yX7_setLying : MethodName := ⟨RX7, "setLying", "()I"⟩
abbrev cX7_findWays : ByteArray := prog_9_method_60_code
def yX7_findWays : MethodName := ⟨RX7, "findWays", "()V"⟩
abbrev cX7_orders : ByteArray := prog_9_method_61_code
def yX7_orders : MethodName := ⟨RX7, "orders", "()I"⟩
abbrev cX7_order : ByteArray := prog_9_method_62_code
def yX7_order : MethodName := ⟨RX7, "order", "(I)I"⟩
abbrev cX7_sick : ByteArray := prog_9_method_63_code
def yX7_sick : MethodName := ⟨RX7, "sick", "(I)Z"⟩
abbrev cX7_lapses : ByteArray := prog_9_method_64_code
def yX7_lapses : MethodName := ⟨RX7, "lapses", "(I)Z"⟩
abbrev cX7_end : ByteArray := prog_9_method_65_code
def yX7_end : MethodName := ⟨RX7, "end", "()I"⟩
abbrev cX7_bears : ByteArray := prog_9_method_66_code
def yX7_bears : MethodName := ⟨RX7, "bears", "(II)Z"⟩
abbrev cX7_lineOf : ByteArray := prog_9_method_67_code
def yX7_lineOf : MethodName := ⟨RX7, "lineOf", "(I)I"⟩
abbrev cX7_lights : ByteArray := prog_9_method_68_code
def yX7_lights : MethodName := ⟨RX7, "lights", "(I)V"⟩
abbrev cX7_lit : ByteArray := prog_9_method_69_code
def yX7_lit : MethodName := ⟨RX7, "lit", "(I)I"⟩
abbrev cX7_rate : ByteArray := prog_9_method_70_code
def yX7_rate : MethodName := ⟨RX7, "rate", "(I)Z"⟩
abbrev cX7_share : ByteArray := prog_9_method_71_code
def yX7_share : MethodName := ⟨RX7, "share", "(II)Z"⟩
abbrev cX7_rents : ByteArray := prog_9_method_72_code
def yX7_rents : MethodName := ⟨RX7, "rents", "()I"⟩
abbrev cX7_rent : ByteArray := prog_9_method_73_code
def yX7_rent : MethodName := ⟨RX7, "rent", "(I)I"⟩
abbrev cX7_movesFor : ByteArray := prog_9_method_74_code
def yX7_movesFor : MethodName := ⟨RX7, "movesFor", "(IIIII)I"⟩
abbrev cX7_bits : ByteArray := prog_9_method_75_code
def yX7_bits : MethodName := ⟨RX7, "bits", "(I)I"⟩
abbrev cX7_change : ByteArray := prog_9_method_76_code
def yX7_change : MethodName := ⟨RX7, "change", "(IIII)I"⟩
abbrev cX7_look : ByteArray := prog_9_method_77_code
def yX7_look : MethodName := ⟨RX7, "look", "(II)I"⟩
abbrev cX7_cell : ByteArray := prog_9_method_78_code
def yX7_cell : MethodName := ⟨RX7, "cell", "(II)I"⟩
abbrev cX7_count : ByteArray := prog_9_method_79_code
def yX7_count : MethodName := ⟨RX7, "count", "(I)I"⟩
def RJ6 : String := "java/lang/Integer"
def TJ6 : u_T := fun k => match k with
  | _ => ("", "", "", false)
def tyJ6 : Nat → FieldType := fun k => match k with
  | _ => .int
theorem nmJ6 : ∀ a, a < 0 → ∀ b, b < 0 → a ≠ b → (TJ6 a).2.1 ≠ (TJ6 b).2.1 := by decide +kernel
theorem tyJ6_ok : ∀ k, k < 0 → parseFieldDescriptor (TJ6 k).2.2.1 = some (tyJ6 k) := by decide +kernel
abbrev cJ6_bitCount_0f7a4 : ByteArray := prog_11_method_49_code
def yJ6_bitCount_0f7a4 : MethodName := ⟨RJ6, "bitCount", "(I)I"⟩
def RJ9 : String := "java/lang/Math"
def TJ9 : u_T := fun k => match k with
  | _ => ("", "", "", false)
def tyJ9 : Nat → FieldType := fun k => match k with
  | _ => .int
theorem nmJ9 : ∀ a, a < 0 → ∀ b, b < 0 → a ≠ b → (TJ9 a).2.1 ≠ (TJ9 b).2.1 := by decide +kernel
theorem tyJ9_ok : ∀ k, k < 0 → parseFieldDescriptor (TJ9 k).2.2.1 = some (tyJ9 k) := by decide +kernel
abbrev cJ9_max_7cf53 : ByteArray := prog_12_method_65_code
def yJ9_max_7cf53 : MethodName := ⟨RJ9, "max", "(II)I"⟩
def RJ0 : String := "java/lang/String"
def TJ0 : u_T := fun k => match k with
  | _ => ("", "", "", false)
def tyJ0 : Nat → FieldType := fun k => match k with
  | _ => .int
theorem nmJ0 : ∀ a, a < 0 → ∀ b, b < 0 → a ≠ b → (TJ0 a).2.1 ≠ (TJ0 b).2.1 := by decide +kernel
theorem tyJ0_ok : ∀ k, k < 0 → parseFieldDescriptor (TJ0 k).2.2.1 = some (tyJ0 k) := by decide +kernel
abbrev cJ0_length_8abf5 : ByteArray := prog_14_method_54_code
def yJ0_length_8abf5 : MethodName := ⟨RJ0, "length", "()I"⟩
abbrev cJ0_charAt_5068e : ByteArray := prog_14_method_56_code
def yJ0_charAt_5068e : MethodName := ⟨RJ0, "charAt", "(I)C"⟩
abbrev cJ0_coder_7d493 : ByteArray := prog_14_method_152_code
def yJ0_coder_7d493 : MethodName := ⟨RJ0, "coder", "()B"⟩
abbrev cJ0_isLatin1_aae02 : ByteArray := prog_14_method_154_code
def yJ0_isLatin1_aae02 : MethodName := ⟨RJ0, "isLatin1", "()Z"⟩
abbrev cJ0_checkIndex_df160 : ByteArray := prog_14_method_155_code
def yJ0_checkIndex_df160 : MethodName := ⟨RJ0, "checkIndex", "(II)V"⟩
def RJ1 : String := "java/lang/StringLatin1"
def TJ1 : u_T := fun k => match k with
  | _ => ("", "", "", false)
def tyJ1 : Nat → FieldType := fun k => match k with
  | _ => .int
theorem nmJ1 : ∀ a, a < 0 → ∀ b, b < 0 → a ≠ b → (TJ1 a).2.1 ≠ (TJ1 b).2.1 := by decide +kernel
theorem tyJ1_ok : ∀ k, k < 0 → parseFieldDescriptor (TJ1 k).2.2.1 = some (tyJ1 k) := by decide +kernel
abbrev cJ1_charAt_3b067 : ByteArray := prog_15_method_2_code
def yJ1_charAt_3b067 : MethodName := ⟨RJ1, "charAt", "([BI)C"⟩
def RJ2 : String := "java/lang/StringUTF16"
def TJ2 : u_T := fun k => match k with
  | _ => ("", "", "", false)
def tyJ2 : Nat → FieldType := fun k => match k with
  | _ => .int
theorem nmJ2 : ∀ a, a < 0 → ∀ b, b < 0 → a ≠ b → (TJ2 a).2.1 ≠ (TJ2 b).2.1 := by decide +kernel
theorem tyJ2_ok : ∀ k, k < 0 → parseFieldDescriptor (TJ2 k).2.2.1 = some (tyJ2 k) := by decide +kernel
abbrev cJ2_getChar_3b067 : ByteArray := prog_16_method_5_code
def yJ2_getChar_3b067 : MethodName := ⟨RJ2, "getChar", "([BI)C"⟩
abbrev cJ2_length_9d52b : ByteArray := prog_16_method_6_code
def yJ2_length_9d52b : MethodName := ⟨RJ2, "length", "([B)I"⟩
abbrev cJ2_charAt_3b067 : ByteArray := prog_16_method_83_code
def yJ2_charAt_3b067 : MethodName := ⟨RJ2, "charAt", "([BI)C"⟩
abbrev cJ2_checkIndex_2214a : ByteArray := prog_16_method_91_code
def yJ2_checkIndex_2214a : MethodName := ⟨RJ2, "checkIndex", "(I[B)V"⟩
def RJ7 : String := "java/util/Arrays"
def TJ7 : u_T := fun k => match k with
  | _ => ("", "", "", false)
def tyJ7 : Nat → FieldType := fun k => match k with
  | _ => .int
theorem nmJ7 : ∀ a, a < 0 → ∀ b, b < 0 → a ≠ b → (TJ7 a).2.1 ≠ (TJ7 b).2.1 := by decide +kernel
theorem tyJ7_ok : ∀ k, k < 0 → parseFieldDescriptor (TJ7 k).2.2.1 = some (tyJ7 k) := by decide +kernel
abbrev cJ7_fill_53178 : ByteArray := prog_18_method_103_code
def yJ7_fill_53178 : MethodName := ⟨RJ7, "fill", "([II)V"⟩
def RJ3 : String := "jdk/internal/util/Preconditions"
def TJ3 : u_T := fun k => match k with
  | _ => ("", "", "", false)
def tyJ3 : Nat → FieldType := fun k => match k with
  | _ => .int
theorem nmJ3 : ∀ a, a < 0 → ∀ b, b < 0 → a ≠ b → (TJ3 a).2.1 ≠ (TJ3 b).2.1 := by decide +kernel
theorem tyJ3_ok : ∀ k, k < 0 → parseFieldDescriptor (TJ3 k).2.2.1 = some (tyJ3 k) := by decide +kernel
abbrev cJ3_checkIndex_8e157 : ByteArray := prog_20_method_11_code
def yJ3_checkIndex_8e157 : MethodName := ⟨RJ3, "checkIndex", "(IILjava/util/function/BiFunction;)I"⟩
def RL : String := "FairGroundLaw"
abbrev cL_look : ByteArray := method_3_code
def yL_look : MethodName := ⟨RL, "look", "(LFairGround;II[J)I"⟩
abbrev cL_law : ByteArray := code
def yL_law : MethodName := ⟨RL, "law", "([I)Z"⟩
abbrev vwCl : List vw_C := [(RX0, TX0, 5), (RX1, TX1, 6), (RX2, TX2, 6), (RX3, TX3, 12), (RX4, TX4, 5), (RX5, TX5, 2), (RX6, TX6, 14), (RX7, TX7, 50)]
theorem lib_wide : True := by
  have := @Jvm.Stand.thenCaughtThrough
  exact trivial
